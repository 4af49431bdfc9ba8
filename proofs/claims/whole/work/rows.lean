section
-- ===== PART A: goes FIRST, ahead of the names: the tables' words, and 'selects' of the private methods out of them =====
/-- a private method of a class that the tables say can be made, by its rows of tables_1 -/
def lw_okq (q : MethodName × Nat) : Prop := (q.1.cls ≠ "java/lang/invoke/MethodHandle" ∧ q.1.cls ≠ "java/lang/invoke/VarHandle") ∧ Cond.instantiable q.1.cls q.2 ∈ tables_1 ∧ Cond.privateMethod q.1 ∈ tables_1 ∧ Cond.instanceMethod q.1 ∈ tables_1
theorem lw_p0 : lw_okq (⟨"java/lang/Throwable", "fillInStackTrace", "(I)Ljava/lang/Throwable;"⟩, 6) := ⟨⟨by decide +kernel, by decide +kernel⟩, List.mem_of_getElem? (i := 118) (by decide +kernel), List.mem_of_getElem? (i := 116) (by decide +kernel), List.mem_of_getElem? (i := 117) (by decide +kernel)⟩
theorem lw_p1 : lw_okq (⟨"PalletGram", "stand", "(I)I"⟩, 7) := ⟨⟨by decide +kernel, by decide +kernel⟩, List.mem_of_getElem? (i := 12) (by decide +kernel), List.mem_of_getElem? (i := 167) (by decide +kernel), List.mem_of_getElem? (i := 168) (by decide +kernel)⟩
theorem lw_p2 : lw_okq (⟨"PalletGram", "write", "(IIIIII)V"⟩, 7) := ⟨⟨by decide +kernel, by decide +kernel⟩, List.mem_of_getElem? (i := 12) (by decide +kernel), List.mem_of_getElem? (i := 171) (by decide +kernel), List.mem_of_getElem? (i := 172) (by decide +kernel)⟩
theorem lw_p3 : lw_okq (⟨"PalletGram$Chains", "proofMade", "(II)I"⟩, 5) := ⟨⟨by decide +kernel, by decide +kernel⟩, List.mem_of_getElem? (i := 20) (by decide +kernel), List.mem_of_getElem? (i := 182) (by decide +kernel), List.mem_of_getElem? (i := 183) (by decide +kernel)⟩
theorem lw_p4 : lw_okq (⟨"PalletGram", "isPallet", "(I)Z"⟩, 7) := ⟨⟨by decide +kernel, by decide +kernel⟩, List.mem_of_getElem? (i := 12) (by decide +kernel), List.mem_of_getElem? (i := 197) (by decide +kernel), List.mem_of_getElem? (i := 198) (by decide +kernel)⟩
theorem lw_p5 : lw_okq (⟨"PalletGram", "isWorkable", "(I)Z"⟩, 7) := ⟨⟨by decide +kernel, by decide +kernel⟩, List.mem_of_getElem? (i := 12) (by decide +kernel), List.mem_of_getElem? (i := 226) (by decide +kernel), List.mem_of_getElem? (i := 227) (by decide +kernel)⟩
theorem lw_p6 : lw_okq (⟨"PalletGram", "isHeld", "(I)Z"⟩, 7) := ⟨⟨by decide +kernel, by decide +kernel⟩, List.mem_of_getElem? (i := 12) (by decide +kernel), List.mem_of_getElem? (i := 230) (by decide +kernel), List.mem_of_getElem? (i := 231) (by decide +kernel)⟩
theorem lw_p7 : lw_okq (⟨"PalletGram", "isGone", "(I)Z"⟩, 7) := ⟨⟨by decide +kernel, by decide +kernel⟩, List.mem_of_getElem? (i := 12) (by decide +kernel), List.mem_of_getElem? (i := 242) (by decide +kernel), List.mem_of_getElem? (i := 243) (by decide +kernel)⟩
theorem lw_p8 : lw_okq (⟨"PalletGram", "allAreUnbroken", "(I)Z"⟩, 7) := ⟨⟨by decide +kernel, by decide +kernel⟩, List.mem_of_getElem? (i := 12) (by decide +kernel), List.mem_of_getElem? (i := 250) (by decide +kernel), List.mem_of_getElem? (i := 251) (by decide +kernel)⟩
theorem lw_p9 : lw_okq (⟨"PalletGram$Chains", "toldPallets", "(IZ)I"⟩, 5) := ⟨⟨by decide +kernel, by decide +kernel⟩, List.mem_of_getElem? (i := 20) (by decide +kernel), List.mem_of_getElem? (i := 261) (by decide +kernel), List.mem_of_getElem? (i := 262) (by decide +kernel)⟩
theorem lw_p10 : lw_okq (⟨"PalletGram", "hasRoom", "(II)Z"⟩, 7) := ⟨⟨by decide +kernel, by decide +kernel⟩, List.mem_of_getElem? (i := 12) (by decide +kernel), List.mem_of_getElem? (i := 281) (by decide +kernel), List.mem_of_getElem? (i := 282) (by decide +kernel)⟩
theorem lw_p11 : lw_okq (⟨"PalletGram", "weightOf", "(I)I"⟩, 7) := ⟨⟨by decide +kernel, by decide +kernel⟩, List.mem_of_getElem? (i := 12) (by decide +kernel), List.mem_of_getElem? (i := 285) (by decide +kernel), List.mem_of_getElem? (i := 286) (by decide +kernel)⟩
theorem lw_p12 : lw_okq (⟨"PalletGram", "canComeTogether", "(II)Z"⟩, 7) := ⟨⟨by decide +kernel, by decide +kernel⟩, List.mem_of_getElem? (i := 12) (by decide +kernel), List.mem_of_getElem? (i := 307) (by decide +kernel), List.mem_of_getElem? (i := 308) (by decide +kernel)⟩
theorem lw_p13 : lw_okq (⟨"PalletGram", "toldByPapers", "(II)I"⟩, 7) := ⟨⟨by decide +kernel, by decide +kernel⟩, List.mem_of_getElem? (i := 12) (by decide +kernel), List.mem_of_getElem? (i := 421) (by decide +kernel), List.mem_of_getElem? (i := 422) (by decide +kernel)⟩
theorem lw_p14 : lw_okq (⟨"PalletGram", "toldOfTruck", "(II)I"⟩, 7) := ⟨⟨by decide +kernel, by decide +kernel⟩, List.mem_of_getElem? (i := 12) (by decide +kernel), List.mem_of_getElem? (i := 449) (by decide +kernel), List.mem_of_getElem? (i := 450) (by decide +kernel)⟩
theorem lw_p15 : lw_okq (⟨"PalletGramModel", "holds", "(I)Z"⟩, 22) := ⟨⟨by decide +kernel, by decide +kernel⟩, List.mem_of_getElem? (i := 470) (by decide +kernel), List.mem_of_getElem? (i := 555) (by decide +kernel), List.mem_of_getElem? (i := 556) (by decide +kernel)⟩
def lw_privs_1 : List (MethodName × Nat) := [(⟨"java/lang/Throwable", "fillInStackTrace", "(I)Ljava/lang/Throwable;"⟩, 6), (⟨"PalletGram", "stand", "(I)I"⟩, 7), (⟨"PalletGram", "write", "(IIIIII)V"⟩, 7), (⟨"PalletGram$Chains", "proofMade", "(II)I"⟩, 5), (⟨"PalletGram", "isPallet", "(I)Z"⟩, 7), (⟨"PalletGram", "isWorkable", "(I)Z"⟩, 7), (⟨"PalletGram", "isHeld", "(I)Z"⟩, 7), (⟨"PalletGram", "isGone", "(I)Z"⟩, 7), (⟨"PalletGram", "allAreUnbroken", "(I)Z"⟩, 7), (⟨"PalletGram$Chains", "toldPallets", "(IZ)I"⟩, 5), (⟨"PalletGram", "hasRoom", "(II)Z"⟩, 7), (⟨"PalletGram", "weightOf", "(I)I"⟩, 7), (⟨"PalletGram", "canComeTogether", "(II)Z"⟩, 7), (⟨"PalletGram", "toldByPapers", "(II)I"⟩, 7), (⟨"PalletGram", "toldOfTruck", "(II)I"⟩, 7), (⟨"PalletGramModel", "holds", "(I)Z"⟩, 22)]
theorem lw_r1 : ∀ q ∈ lw_privs_1, lw_okq q := List.forall_mem_cons.mpr ⟨lw_p0, List.forall_mem_cons.mpr ⟨lw_p1, List.forall_mem_cons.mpr ⟨lw_p2, List.forall_mem_cons.mpr ⟨lw_p3, List.forall_mem_cons.mpr ⟨lw_p4, List.forall_mem_cons.mpr ⟨lw_p5, List.forall_mem_cons.mpr ⟨lw_p6, List.forall_mem_cons.mpr ⟨lw_p7, List.forall_mem_cons.mpr ⟨lw_p8, List.forall_mem_cons.mpr ⟨lw_p9, List.forall_mem_cons.mpr ⟨lw_p10, List.forall_mem_cons.mpr ⟨lw_p11, List.forall_mem_cons.mpr ⟨lw_p12, List.forall_mem_cons.mpr ⟨lw_p13, List.forall_mem_cons.mpr ⟨lw_p14, List.forall_mem_cons.mpr ⟨lw_p15, fun _ h => absurd h List.not_mem_nil⟩⟩⟩⟩⟩⟩⟩⟩⟩⟩⟩⟩⟩⟩⟩⟩
theorem lw_p16 : lw_okq (⟨"PalletGramModel", "makes", "(I)I"⟩, 22) := ⟨⟨by decide +kernel, by decide +kernel⟩, List.mem_of_getElem? (i := 470) (by decide +kernel), List.mem_of_getElem? (i := 559) (by decide +kernel), List.mem_of_getElem? (i := 560) (by decide +kernel)⟩
theorem lw_p17 : lw_okq (⟨"PalletGramModel", "writes", "(IIIIII)V"⟩, 22) := ⟨⟨by decide +kernel, by decide +kernel⟩, List.mem_of_getElem? (i := 470) (by decide +kernel), List.mem_of_getElem? (i := 563) (by decide +kernel), List.mem_of_getElem? (i := 564) (by decide +kernel)⟩
theorem lw_p18 : lw_okq (⟨"PalletGramModel", "proofOf", "(II)I"⟩, 22) := ⟨⟨by decide +kernel, by decide +kernel⟩, List.mem_of_getElem? (i := 470) (by decide +kernel), List.mem_of_getElem? (i := 567) (by decide +kernel), List.mem_of_getElem? (i := 568) (by decide +kernel)⟩
theorem lw_p19 : lw_okq (⟨"PalletGramModel", "isPallet", "(I)Z"⟩, 22) := ⟨⟨by decide +kernel, by decide +kernel⟩, List.mem_of_getElem? (i := 470) (by decide +kernel), List.mem_of_getElem? (i := 575) (by decide +kernel), List.mem_of_getElem? (i := 576) (by decide +kernel)⟩
theorem lw_p20 : lw_okq (⟨"PalletGramModel", "canLoad", "(III)Z"⟩, 22) := ⟨⟨by decide +kernel, by decide +kernel⟩, List.mem_of_getElem? (i := 470) (by decide +kernel), List.mem_of_getElem? (i := 582) (by decide +kernel), List.mem_of_getElem? (i := 583) (by decide +kernel)⟩
theorem lw_p21 : lw_okq (⟨"PalletGramModel", "canWork", "(I)Z"⟩, 22) := ⟨⟨by decide +kernel, by decide +kernel⟩, List.mem_of_getElem? (i := 470) (by decide +kernel), List.mem_of_getElem? (i := 586) (by decide +kernel), List.mem_of_getElem? (i := 587) (by decide +kernel)⟩
theorem lw_p22 : lw_okq (⟨"PalletGramModel", "sound", "(I)Z"⟩, 22) := ⟨⟨by decide +kernel, by decide +kernel⟩, List.mem_of_getElem? (i := 470) (by decide +kernel), List.mem_of_getElem? (i := 590) (by decide +kernel), List.mem_of_getElem? (i := 591) (by decide +kernel)⟩
theorem lw_p23 : lw_okq (⟨"PalletGramModel", "firstBroken", "(I)I"⟩, 22) := ⟨⟨by decide +kernel, by decide +kernel⟩, List.mem_of_getElem? (i := 470) (by decide +kernel), List.mem_of_getElem? (i := 594) (by decide +kernel), List.mem_of_getElem? (i := 595) (by decide +kernel)⟩
theorem lw_p24 : lw_okq (⟨"PalletGramModel", "isBroken", "(II)Z"⟩, 22) := ⟨⟨by decide +kernel, by decide +kernel⟩, List.mem_of_getElem? (i := 470) (by decide +kernel), List.mem_of_getElem? (i := 598) (by decide +kernel), List.mem_of_getElem? (i := 599) (by decide +kernel)⟩
theorem lw_p25 : lw_okq (⟨"PalletGramModel", "hasRoom", "(II)Z"⟩, 22) := ⟨⟨by decide +kernel, by decide +kernel⟩, List.mem_of_getElem? (i := 470) (by decide +kernel), List.mem_of_getElem? (i := 602) (by decide +kernel), List.mem_of_getElem? (i := 603) (by decide +kernel)⟩
theorem lw_p26 : lw_okq (⟨"PalletGramModel", "weight", "(I)I"⟩, 22) := ⟨⟨by decide +kernel, by decide +kernel⟩, List.mem_of_getElem? (i := 470) (by decide +kernel), List.mem_of_getElem? (i := 606) (by decide +kernel), List.mem_of_getElem? (i := 607) (by decide +kernel)⟩
theorem lw_p27 : lw_okq (⟨"PalletGramModel", "canJoin", "(II)Z"⟩, 22) := ⟨⟨by decide +kernel, by decide +kernel⟩, List.mem_of_getElem? (i := 470) (by decide +kernel), List.mem_of_getElem? (i := 618) (by decide +kernel), List.mem_of_getElem? (i := 619) (by decide +kernel)⟩
theorem lw_p28 : lw_okq (⟨"PalletGramModel", "isEntry", "(II)Z"⟩, 22) := ⟨⟨by decide +kernel, by decide +kernel⟩, List.mem_of_getElem? (i := 470) (by decide +kernel), List.mem_of_getElem? (i := 634) (by decide +kernel), List.mem_of_getElem? (i := 635) (by decide +kernel)⟩
theorem lw_p29 : lw_okq (⟨"PalletGramModel", "anew", "(II)I"⟩, 22) := ⟨⟨by decide +kernel, by decide +kernel⟩, List.mem_of_getElem? (i := 470) (by decide +kernel), List.mem_of_getElem? (i := 670) (by decide +kernel), List.mem_of_getElem? (i := 671) (by decide +kernel)⟩
theorem lw_p30 : lw_okq (⟨"PalletGramModel", "tells", "(I)V"⟩, 22) := ⟨⟨by decide +kernel, by decide +kernel⟩, List.mem_of_getElem? (i := 470) (by decide +kernel), List.mem_of_getElem? (i := 674) (by decide +kernel), List.mem_of_getElem? (i := 675) (by decide +kernel)⟩
theorem lw_p31 : lw_okq (⟨"PalletGramModel", "papers", "(II)I"⟩, 22) := ⟨⟨by decide +kernel, by decide +kernel⟩, List.mem_of_getElem? (i := 470) (by decide +kernel), List.mem_of_getElem? (i := 678) (by decide +kernel), List.mem_of_getElem? (i := 679) (by decide +kernel)⟩
def lw_privs_2 : List (MethodName × Nat) := [(⟨"PalletGramModel", "makes", "(I)I"⟩, 22), (⟨"PalletGramModel", "writes", "(IIIIII)V"⟩, 22), (⟨"PalletGramModel", "proofOf", "(II)I"⟩, 22), (⟨"PalletGramModel", "isPallet", "(I)Z"⟩, 22), (⟨"PalletGramModel", "canLoad", "(III)Z"⟩, 22), (⟨"PalletGramModel", "canWork", "(I)Z"⟩, 22), (⟨"PalletGramModel", "sound", "(I)Z"⟩, 22), (⟨"PalletGramModel", "firstBroken", "(I)I"⟩, 22), (⟨"PalletGramModel", "isBroken", "(II)Z"⟩, 22), (⟨"PalletGramModel", "hasRoom", "(II)Z"⟩, 22), (⟨"PalletGramModel", "weight", "(I)I"⟩, 22), (⟨"PalletGramModel", "canJoin", "(II)Z"⟩, 22), (⟨"PalletGramModel", "isEntry", "(II)Z"⟩, 22), (⟨"PalletGramModel", "anew", "(II)I"⟩, 22), (⟨"PalletGramModel", "tells", "(I)V"⟩, 22), (⟨"PalletGramModel", "papers", "(II)I"⟩, 22)]
theorem lw_r2 : ∀ q ∈ lw_privs_2, lw_okq q := List.forall_mem_cons.mpr ⟨lw_p16, List.forall_mem_cons.mpr ⟨lw_p17, List.forall_mem_cons.mpr ⟨lw_p18, List.forall_mem_cons.mpr ⟨lw_p19, List.forall_mem_cons.mpr ⟨lw_p20, List.forall_mem_cons.mpr ⟨lw_p21, List.forall_mem_cons.mpr ⟨lw_p22, List.forall_mem_cons.mpr ⟨lw_p23, List.forall_mem_cons.mpr ⟨lw_p24, List.forall_mem_cons.mpr ⟨lw_p25, List.forall_mem_cons.mpr ⟨lw_p26, List.forall_mem_cons.mpr ⟨lw_p27, List.forall_mem_cons.mpr ⟨lw_p28, List.forall_mem_cons.mpr ⟨lw_p29, List.forall_mem_cons.mpr ⟨lw_p30, List.forall_mem_cons.mpr ⟨lw_p31, fun _ h => absurd h List.not_mem_nil⟩⟩⟩⟩⟩⟩⟩⟩⟩⟩⟩⟩⟩⟩⟩⟩
theorem lw_p32 : lw_okq (⟨"PalletGramModel", "mismatchOf", "(I)I"⟩, 22) := ⟨⟨by decide +kernel, by decide +kernel⟩, List.mem_of_getElem? (i := 470) (by decide +kernel), List.mem_of_getElem? (i := 693) (by decide +kernel), List.mem_of_getElem? (i := 694) (by decide +kernel)⟩
def lw_privs_3 : List (MethodName × Nat) := [(⟨"PalletGramModel", "mismatchOf", "(I)I"⟩, 22)]
theorem lw_r3 : ∀ q ∈ lw_privs_3, lw_okq q := List.forall_mem_cons.mpr ⟨lw_p32, fun _ h => absurd h List.not_mem_nil⟩
def lw_privs : List (MethodName × Nat) := lw_privs_1 ++ (lw_privs_2 ++ (lw_privs_3))
def lw_tbl : List Cond := k2_sels lw_privs ++ tables_1
theorem lw_privs_ok : ∀ q ∈ lw_privs, lw_okq q := by
  show ∀ q ∈ lw_privs_1 ++ (lw_privs_2 ++ (lw_privs_3)), lw_okq q
  exact List.forall_mem_append.mpr ⟨lw_r1, List.forall_mem_append.mpr ⟨lw_r2, lw_r3⟩⟩
-- ===== end of PART A; then your names; then what follows =====
end
section
/-! ===== BEGIN words of one list among another's, by their places ===== -/
theorem goodIn_r {big : List Cond} (ws : List Cond) (ps : List Nat) (hp : ws = ps.filterMap (fun i => big[i]?)) (h : ws.all goodWord = true) : GoodIn big ws := by
  intro w hw
  have h1 := List.all_eq_true.mp h w hw
  rw [hp] at hw
  obtain ⟨i, -, hi⟩ := List.mem_filterMap.mp hw
  have hm : w ∈ big := by first | exact List.mem_of_getElem? hi | exact List.getElem?_mem hi
  exact ⟨hm, good_of_word h1⟩
theorem goodIn_app {big a b : List Cond} (ha : GoodIn big a) (hb : GoodIn big b) : GoodIn big (a ++ b) := fun w h => (List.mem_append.mp h).elim (ha w) (hb w)
theorem goodIn_ca {big a b : List Cond} {c : Cond} (ha : GoodIn big (c :: a)) (hb : GoodIn big b) : GoodIn big (c :: (a ++ b)) := fun w h => (List.mem_cons.mp h).elim (fun e => ha w (List.mem_cons.mpr (Or.inl e))) (fun h => (List.mem_append.mp h).elim (fun h => ha w (List.mem_cons.mpr (Or.inr h))) (hb w))
theorem goodIn_sub {big ws : List Cond} (hm : ∀ w ∈ ws, w ∈ big) (h : ws.all goodWord = true) : GoodIn big ws := fun w hw => ⟨hm w hw, good_of_word (List.all_eq_true.mp h w hw)⟩
/-! ===== END ===== -/

/-! ===== BEGIN exceptions that leave a method, and their catching by the caller (launches without stack traces) ===== -/
section VXA
/-! The laws vx_back, vx_callV, vx_callS, vx_callSW, vx_throw0, vx_throwS follow proofs of the library, with one case more: JvmDerived/Free/Laws.lean (Back.of_free), Shelf42/LK1.lean (callV, callS), Shelf/KitTraced.lean (throwNew0V, throwNewS). -/
/-- where a method has thrown q: the class by its name, the cell, what was written, the world -/
def vx_T (XC : String → State → State → Prop) (st : State) (q : Addr) (t : State) (mc ms : Nat) (free : Addr → Prop) : Prop :=
  ∃ (E : String) (ce : Cell) (L : List Loc), XC E st t ∧ t.heap[q]? = some ce ∧ ce.vm = .none ∧ st.vm.findClass E = some ce.cls ∧ st.WarmedH t.vm ∧ st.sameButNew ({ t with vm := st.vm } : State) L mc ms ∧ ∀ z ∈ L, free z.base
def vx_Q (Qc : Array Value → State → Outcome → State → Prop) (XC : String → State → State → Prop) (mc ms : Nat) (free : Addr → Prop) : Array Value → State → Outcome → State → Prop := fun a st o t =>
  (Qc a st o t ∧ ∃ L, FrameEnd st o t L mc ms ∧ ∀ q ∈ L, free q.base) ∨ ∃ q, o = .threw q ∧ vx_T XC st q t mc ms free
/-- a callee that returns or throws -/
def vx_Met (l : Launch) (y : MethodName) (ws : List Cond) (rm : Room) (Pc : Array Value → State → Prop) (Qc : Array Value → State → Outcome → State → Prop) (XC : String → State → State → Prop) (mc ms : Nat) (free : Addr → Prop) : Prop :=
  MetFree l y (headSpec ws rm) Pc (fun _ _ _ _ _ => True) (vx_Q Qc XC mc ms free)
def vx_Post (XC : String → State → State → Prop) (mc ms : Nat) (free : Addr → Prop) : Pt → Array Value → Addr → Pt → Prop := fun A a q B =>
  ∃ (g : JFrame) (mk : MethodId) (t : State) (L : List Loc) (E : String) (ce : Cell), B.U.heap = t.heap ∧ B.U.vm = t.vm ∧ XC E (A.U.calling g mk a) t ∧ t.heap[q]? = some ce ∧ ce.vm = .none ∧ A.U.vm.findClass E = some ce.cls ∧ B.locs = A.locs ++ L ∧ (∀ z ∈ L, free z.base) ∧ B.cells = A.cells + mc ∧ B.slots = A.slots + ms
def vx_Back (l : Launch) (R : Room) (p : Program) (e : Env) (below : List Frame) (s : State) (sargs : Array Value) (y : MethodName) (len W9 : Nat)
    (Pre : Pt → Array Value → Prop) (Post : Pt → Array Value → Option Value → Pt → Prop) (PostX : Pt → Array Value → Addr → Pt → Prop) : Prop :=
  ∀ (m : MethodId) (meth : Method) (c : Code) (A : Pt) (g : JFrame) (ig : Instr) (mk : MethodId) (a : Array Value),
    Stand p l e R s m sargs below meth c A.U A.locs A.cells A.slots → g.method = m → g.locals.size = c.maxLocals → decode c.code g.pc = .ok (ig, len) →
    2 * g.monitorRoom + (g.stack.map fun v => v.category).sum ≤ W9 → A.U.methodNamed? y = some mk → Pre A a →
    (∃ (v : Option Value) (B : Pt), Stand p l e R s m sargs below meth c B.U B.locs B.cells B.slots ∧ Post A a v B ∧
      Steps p.tables e below (doInvoke e (A.U.setTop g) [] mk a).1 (B.U.setTop { g with pc := g.pc + len, stack := v.toList ++ g.stack })) ∨
    (∃ (q : Addr) (B : Pt), Stand p l e R s m sargs below meth c B.U B.locs B.cells B.slots ∧ PostX A a q B ∧
      Steps p.tables e below (doInvoke e (A.U.setTop g) [] mk a).1 ((B.U.setTop g).pushFrame (.throwing q)))
section Payer
variable {l : Launch} {R : Room} {p : Program} {e : Env} {below : List Frame} {s : State} {sargs : Array Value} {y : MethodName} {len W9 : Nat}
theorem vx_back {ws : List Cond} {rm : Room} {Pc : Array Value → State → Prop} {Qc : Array Value → State → Outcome → State → Prop} {XC : String → State → State → Prop} {mc ms : Nat} {free : Addr → Prop} {bytes : ByteArray} {maxL : Nat} {ret : Option FieldType}
    (hM : vx_Met l y ws rm Pc Qc XC mc ms free) (hblind : FrameBlind Pc) (hrc : rm.cells = mc) (hrs : rm.slots = ms)
    (hframes : rm.frames + 1 ≤ R.frames) (hlocals : W9 + (maxL + 11) + rm.locals ≤ R.locals)
    (hws : ∀ w ∈ ws, ∀ a' U, s.WarmedH U.vm → w.before a' U = true) (hcode : Cond.code y bytes maxL ret ∈ ws) (hinit : ∀ a' U, s.WarmedH U.vm → (Cond.initialized y.cls).before a' U = true) :
    vx_Back l R p e below s sargs y len W9 (PreOf R mc ms Pc) (PostOf Qc mc ms free) (vx_Post XC mc ms free) := by
  intro m meth c A g ig mk a X hg hsize hdg hW hn hp
  have h1 : (headSpec ws rm).pre.before a A.U = true := atoms_intro fun w hw => hws w hw _ _ X.warmed
  have h2 : (Cond.code y bytes maxL ret).before a A.U = true := hws _ hcode _ _ X.warmed
  have h3 : (Cond.initialized y.cls).before a A.U = true := hinit _ _ X.warmed
  have h4 : A.cells + (headSpec ws rm).room.cells ≤ R.cells := by rw [show (headSpec ws rm).room.cells = mc from hrc]; exact hp.1
  have h5 : A.slots + (headSpec ws rm).room.slots ≤ R.slots := by rw [show (headSpec ws rm).room.slots = ms from hrs]; exact hp.2.1
  have hPc : Pc a (A.U.calling g mk a) := hblind _ _ _ _ hp.2.2
  obtain ⟨U, Ls, c0, s0⟩ := A
  dsimp only [Pt.U, Pt.locs, Pt.cells, Pt.slots] at h1 h2 h3 h4 h5 X hn hPc ⊢
  obtain ⟨methY, cY, hmY, hcY, -, hlY, -, -, -, -⟩ := Cond.code_spec hn h2
  obtain ⟨kY, hkY, -⟩ := className_of_methodNamed hn
  have hinitY : kY.init = .initialized := Cond.initialized_spec (findClass_of_methodNamed hn) hkY h3
  have h : At U g.method c below := by rw [hg]; exact X.here
  have hlocals9 : W9 + (maxL + 11) + (headSpec ws rm).room.locals ≤ R.locals := hlocals
  have happ : (headSpec ws rm).appliesLoose y e.platform (U.calling g mk a) = true :=
    Spec.appliesLoose_calling (g := g) h hdg hn hkY hinitY
      (X.room_calling (g := g) (R' := (headSpec ws rm).room) hsize hmY hcY hframes (by rw [hlY]; omega) h4 h5) h1
  obtain ⟨mid, hmid⟩ := h.above
  have hfr : (U.setTop g).frames = (.java g :: mid) ++ below := by rw [State.frames_setTop' g h.top, hmid]; rfl
  obtain ⟨o, s₂, hsteps, -, hend, hq⟩ := Steps.callFree hM p X.admits X.cas X.clock (acts := []) hfr happ hPc trivial
  have hq' : vx_Q Qc XC mc ms free a (U.calling g mk a) o s₂ := hq
  rw [State.frames_setTop' g h.top] at hend
  obtain ⟨g₀, hg0⟩ := Option.isSome_iff_exists.mp h.top
  obtain ⟨r, hr⟩ := State.topJava?_eq_some.mp hg0
  have hr' : (({ U with heap := s₂.heap, slotsUsed := s₂.slotsUsed } : State).setVm s₂.vm).frames = .java g₀ :: r := hr
  rcases hq' with ⟨hqc, L, hfe, hL⟩ | ⟨q, rfl, E, ce, L, hx, hce, hcv, hcl, hW₂, hsm, hL⟩
  · obtain ⟨⟨v, rfl⟩, hW₂, e2, q2, q3, q4, q5, q6⟩ := id hfe
    have e3 : s₂ = ({ (U.calling g mk a).setFrames s₂.frames with heap := s₂.heap, slotsUsed := s₂.slotsUsed } : State).setVm s₂.vm := by
      have : s₂ = ({ s₂ with vm := (U.calling g mk a).vm } : State).setVm s₂.vm := rfl
      rw [e2] at this
      exact this
    obtain ⟨c₂, i₂, len₂, hc₂, hd₂, hf₂⟩ := hend
    have hW' : U.WarmedH s₂.vm := hW₂
    have hcc : c₂ = c := by
      have h1 : s₂.code? g.method = U.code? g.method := by
        rw [State.code?_eq, State.code?_eq, hW'.alike.method?]
      exact Option.some.inj (hc₂.symm.trans (h1.trans h.code))
    subst hcc
    have hlen : len₂ = len := by rw [hdg] at hd₂; cases hd₂; rfl
    subst hlen
    have hs₂ : s₂ = (({ U with heap := s₂.heap, slotsUsed := s₂.slotsUsed } : State).setVm s₂.vm).setTop { g with pc := g.pc + len₂, stack := v.toList ++ g.stack } := by
      refine e3.trans ?_
      rw [hf₂, State.calling_eq h.top, State.setFrames_setFrames, State.setTop_of_frames _ hr', hr]
      rfl
    have hsame : U.sameButNew ({ U with heap := s₂.heap, slotsUsed := s₂.slotsUsed } : State) L mc ms := by
      refine ⟨?_, q2, q3, q4, q5, q6⟩
      obtain ⟨t, ht, -⟩ := State.frames_cons hr
      show ({ U with heap := s₂.heap, slotsUsed := s₂.slotsUsed } : State) = { U.setFrames U.frames with heap := s₂.heap, slotsUsed := s₂.slotsUsed }
      rw [State.setFrames_self ht]
    subst hg
    refine Or.inl ⟨v, ⟨(({ U with heap := s₂.heap, slotsUsed := s₂.slotsUsed } : State).setVm s₂.vm), Ls ++ L, c0 + mc, s0 + ms⟩,
      ⟨X.admits, X.cas, X.clock, X.frames, X.room, X.hears, X.method, X.code, (X.here.setHeapUsed s₂.heap s₂.slotsUsed).setVm hW'.alike, X.tail, State.WarmedH.trans X.warmed hW', X.limits, X.bytes, X.same.trans (hsame.setVm s.vm)⟩,
      ⟨g, mk, s₂, L, rfl, rfl, hqc, rfl, hL, rfl, rfl⟩, ?_⟩
    show Steps p.tables e below _ ((({ U with heap := s₂.heap, slotsUsed := s₂.slotsUsed } : State).setVm s₂.vm).setTop { g with pc := g.pc + len₂, stack := v.toList ++ g.stack })
    rw [← hs₂]
    exact hsteps
  · obtain ⟨e2, q2, q3, q4, q5, q6⟩ := id hsm
    have e3 : s₂ = ({ (U.calling g mk a).setFrames s₂.frames with heap := s₂.heap, slotsUsed := s₂.slotsUsed } : State).setVm s₂.vm := by
      have : s₂ = ({ s₂ with vm := (U.calling g mk a).vm } : State).setVm s₂.vm := rfl
      rw [e2] at this
      exact this
    have hf₂ : s₂.frames = .throwing q :: .java g :: U.frames.tail := hend
    have hW' : U.WarmedH s₂.vm := hW₂
    have hs₂ : s₂ = ((({ U with heap := s₂.heap, slotsUsed := s₂.slotsUsed } : State).setVm s₂.vm).setTop g).pushFrame (.throwing q) := by
      refine e3.trans ?_
      rw [hf₂, State.calling_eq h.top, State.setFrames_setFrames, State.pushFrame, State.frames_setTop _ hr', State.setTop_of_frames _ hr', State.setFrames_setFrames, hr]
      rfl
    have hsame : U.sameButNew ({ U with heap := s₂.heap, slotsUsed := s₂.slotsUsed } : State) L mc ms := by
      refine ⟨?_, q2, q3, q4, q5, q6⟩
      obtain ⟨t, ht, -⟩ := State.frames_cons hr
      show ({ U with heap := s₂.heap, slotsUsed := s₂.slotsUsed } : State) = { U.setFrames U.frames with heap := s₂.heap, slotsUsed := s₂.slotsUsed }
      rw [State.setFrames_self ht]
    subst hg
    refine Or.inr ⟨q, ⟨(({ U with heap := s₂.heap, slotsUsed := s₂.slotsUsed } : State).setVm s₂.vm), Ls ++ L, c0 + mc, s0 + ms⟩,
      ⟨X.admits, X.cas, X.clock, X.frames, X.room, X.hears, X.method, X.code, (X.here.setHeapUsed s₂.heap s₂.slotsUsed).setVm hW'.alike, X.tail, State.WarmedH.trans X.warmed hW', X.limits, X.bytes, X.same.trans (hsame.setVm s.vm)⟩,
      ⟨g, mk, s₂, L, E, ce, rfl, rfl, hx, hce, hcv, hcl, rfl, hL, rfl, rfl⟩, ?_⟩
    show Steps p.tables e below _ (((({ U with heap := s₂.heap, slotsUsed := s₂.slotsUsed } : State).setVm s₂.vm).setTop g).pushFrame (.throwing q))
    rw [← hs₂]
    exact hsteps
end Payer
section Calls
variable {p : Program} {l : Launch} {e : Env} {R : Room} {s : State} {m : MethodId} {args : Array Value} {below : List Frame} {meth : Method} {c : Code} {T : State} {locs : List Loc} {cells slots : Nat}
theorem vx_callV (X : Stand p l e R s m args below meth c T locs cells slots) (hexec : p.tables.exec = Jvm.exec) {own C : String} {index : Nat} {y : MethodName} {bytes : ByteArray} {maxL : Nat} {ret : Option FieldType}
    (hown : s.vm.findClass own = some m.cls) (hlink : (Cond.methodLink own index y).before args s = true) (hinst : (Cond.instanceMethod y).before args s = true) (hsel : (Cond.selects C y y).before args s = true)
    (hcode : (Cond.code y bytes maxL ret).before args s = true) (hy : y.cls ≠ "java/lang/invoke/MethodHandle" ∧ y.cls ≠ "java/lang/invoke/VarHandle")
    {W9 : Nat} {Pre : Pt → Array Value → Prop} {Post : Pt → Array Value → Option Value → Pt → Prop} {PostX : Pt → Array Value → Addr → Pt → Prop} (hK : vx_Back l R p e below s args y 3 W9 Pre Post PostX)
    {b : Addr} {cellB : Cell} (hcell : T.heap[b]? = some cellB) (hobj : cellB.vm.isStatics = false) (hcls : s.vm.findClass C = some cellB.cls)
    {g : JFrame} (hg : g.method = m) (hsize : g.locals.size = c.maxLocals) {argsL rest : List Value} (hlen : ∀ sig, parseMethodDescriptor y.desc = some sig → argsL.length = sig.parameters.length)
    (hstack : g.stack = argsL.reverse ++ .ref b :: rest) (hW : 2 * g.monitorRoom + (rest.map fun v => v.category).sum ≤ W9) (hdg : decode c.code g.pc = .ok (.invokevirtual index, 3))
    (hpre : ∀ vm₁, s.WarmedH vm₁ → Pre ⟨T.setVm vm₁, locs, cells, slots⟩ (Value.ref b :: argsL).toArray) :
    (∃ (v : Option Value) (vm₁ : Vm) (B : Pt), s.WarmedH vm₁ ∧ Stand p l e R s m args below meth c B.U B.locs B.cells B.slots ∧ Post ⟨T.setVm vm₁, locs, cells, slots⟩ (Value.ref b :: argsL).toArray v B ∧
      ∀ target, Steps p.tables e below (B.U.setTop { g with pc := g.pc + 3, stack := v.toList ++ rest }) target → Steps p.tables e below (T.setTop g) target) ∨
    (∃ (q : Addr) (vm₁ : Vm) (B : Pt), s.WarmedH vm₁ ∧ Stand p l e R s m args below meth c B.U B.locs B.cells B.slots ∧ PostX ⟨T.setVm vm₁, locs, cells, slots⟩ (Value.ref b :: argsL).toArray q B ∧
      Steps p.tables e below (T.setTop g) ((B.U.setTop { g with stack := rest }).pushFrame (.throwing q))) := by
  obtain ⟨mk, methM, hnamed, hmethM, hstM, habM⟩ := Cond.instanceMethod_spec hinst
  obtain ⟨methM', cM, hmethM', -, -, -, -, -, -, hsigM⟩ := Cond.code_spec hnamed hcode
  cases hmethM.symm.trans hmethM'
  obtain ⟨c2, r2, m2, q1, q2, q3, q4, kP, hkP, hkPi⟩ := Cond.selects_spec hsel
  cases hcls.symm.trans q1
  cases (State.methodFound?_of_named hnamed hy).symm.trans q2
  cases hnamed.symm.trans q3
  have hselP : selectMethod e.platform s.vm cellB.cls mk = .method mk := by rw [Launch.admits_selectMethod X.admits]; exact q4
  obtain ⟨vm₁, X₁, hstep₁⟩ := X.invokevirtual hexec hown hlink hnamed hmethM hstM hkP hkPi hy (a := b) (cell := cellB) hcell
    (fun z h => by rw [h] at hobj; cases hobj) hselP hmethM habM hkP hkPi (g := g) hg (argsL := argsL) (rest := rest) (hlen _ hsigM) hstack hdg
  rcases hK m meth c ⟨T.setVm vm₁, locs, cells, slots⟩ { g with stack := rest } (.invokevirtual index) mk (Value.ref b :: argsL).toArray X₁ hg hsize hdg hW (X₁.named hnamed) (hpre vm₁ X₁.warmed) with ⟨v, B, X', hpost, hsteps⟩ | ⟨q, B, X', hpost, hsteps⟩
  · exact Or.inl ⟨v, vm₁, B, X₁.warmed, X', hpost, fun target h => hstep₁ _ fun acts => by rw [doInvoke_state]; exact hsteps.trans h⟩
  · exact Or.inr ⟨q, vm₁, B, X₁.warmed, X', hpost, hstep₁ _ fun acts => by rw [doInvoke_state]; exact hsteps⟩
theorem vx_callS (X : Stand p l e R s m args below meth c T locs cells slots) (hexec : p.tables.exec = Jvm.exec) {own : String} {index : Nat} {y : MethodName} {bytes : ByteArray} {maxL : Nat} {ret : Option FieldType}
    (hown : s.vm.findClass own = some m.cls) (hlink : (Cond.methodLink own index y).before args s = true) (hstat : (Cond.static y).before args s = true) (hinit : (Cond.initialized y.cls).before args s = true)
    (hcode : (Cond.code y bytes maxL ret).before args s = true) (hy : y.cls ≠ "java/lang/invoke/MethodHandle" ∧ y.cls ≠ "java/lang/invoke/VarHandle")
    {W9 : Nat} {Pre : Pt → Array Value → Prop} {Post : Pt → Array Value → Option Value → Pt → Prop} {PostX : Pt → Array Value → Addr → Pt → Prop} (hK : vx_Back l R p e below s args y 3 W9 Pre Post PostX)
    {g : JFrame} (hg : g.method = m) (hsize : g.locals.size = c.maxLocals) {argsL rest : List Value} (hlen : ∀ sig, parseMethodDescriptor y.desc = some sig → argsL.length = sig.parameters.length)
    (hstack : g.stack = argsL.reverse ++ rest) (hW : 2 * g.monitorRoom + (rest.map fun v => v.category).sum ≤ W9) (hdg : decode c.code g.pc = .ok (.invokestatic index, 3))
    (hpre : ∀ vm₁, s.WarmedH vm₁ → Pre ⟨T.setVm vm₁, locs, cells, slots⟩ argsL.toArray) :
    (∃ (v : Option Value) (vm₁ : Vm) (B : Pt), s.WarmedH vm₁ ∧ Stand p l e R s m args below meth c B.U B.locs B.cells B.slots ∧ Post ⟨T.setVm vm₁, locs, cells, slots⟩ argsL.toArray v B ∧
      ∀ target, Steps p.tables e below (B.U.setTop { g with pc := g.pc + 3, stack := v.toList ++ rest }) target → Steps p.tables e below (T.setTop g) target) ∨
    (∃ (q : Addr) (vm₁ : Vm) (B : Pt), s.WarmedH vm₁ ∧ Stand p l e R s m args below meth c B.U B.locs B.cells B.slots ∧ PostX ⟨T.setVm vm₁, locs, cells, slots⟩ argsL.toArray q B ∧
      Steps p.tables e below (T.setTop g) ((B.U.setTop { g with stack := rest }).pushFrame (.throwing q))) := by
  obtain ⟨mk, hnamed⟩ := Cond.code_named hcode
  obtain ⟨methM, cM, hmethM, -, -, -, -, -, -, hsigM⟩ := Cond.code_spec hnamed hcode
  have hstatic : methM.isStatic = true := Cond.static_spec hnamed hmethM hstat
  obtain ⟨kP, hkP, -⟩ := className_of_methodNamed hnamed
  have hinitP : kP.init = .initialized := Cond.initialized_spec (findClass_of_methodNamed hnamed) hkP hinit
  obtain ⟨vm₁, X₁, hstep₁⟩ := X.invokestatic hexec hown hlink hnamed hmethM hstatic hkP hinitP hy (g := g) hg (argsL := argsL) (rest := rest) (hlen _ hsigM) hstack hdg
  rcases hK m meth c ⟨T.setVm vm₁, locs, cells, slots⟩ { g with stack := rest } (.invokestatic index) mk argsL.toArray X₁ hg hsize hdg hW (X₁.named hnamed) (hpre vm₁ X₁.warmed) with ⟨v, B, X', hpost, hsteps⟩ | ⟨q, B, X', hpost, hsteps⟩
  · exact Or.inl ⟨v, vm₁, B, X₁.warmed, X', hpost, fun target h => hstep₁ _ fun acts => by rw [doInvoke_state]; exact hsteps.trans h⟩
  · exact Or.inr ⟨q, vm₁, B, X₁.warmed, X', hpost, hstep₁ _ fun acts => by rw [doInvoke_state]; exact hsteps⟩
end Calls
theorem vx_cls {s : State} {T : State} {vm₁ : Vm} {E : String} {k : ClassId} (hW : s.WarmedH vm₁) (h : (T.setVm vm₁).vm.findClass E = some k) : s.vm.findClass E = some k := by
  have h1 : vm₁.findClass E = some k := h
  rw [hW.alike.findClass] at h1
  exact h1
/-- the method's frame g, with q thrown over it -/
def vx_W (p : Program) (l : Launch) (e : Env) (R : Room) (s : State) (m : MethodId) (args : Array Value) (below : List Frame) (meth : Method) (c : Code) (H : Heap) (locs : List Loc) (cells slots : Nat) (Q : State → Prop) (g : JFrame) (q : Addr) : Prop :=
  ∀ T : State, T.heap = H → Stand p l e R s m args below meth c T locs cells slots → ∃ t, Steps p.tables e below ((T.setTop g).pushFrame (.throwing q)) t ∧ Q t
def vx_Run (p : Program) (l : Launch) (e : Env) (R : Room) (s : State) (m : MethodId) (args : Array Value) (below : List Frame) (meth : Method) (c : Code) (H : Heap) (locs : List Loc) (cells slots mc ms : Nat) (g : JFrame) (rest : List Value) (Qa : State → Outcome → State → Prop) (XC : String → State → State → Prop) (free : Addr → Prop) : Prop :=
  ∀ T : State, T.heap = H → Stand p l e R s m args below meth c T locs cells slots →
    (∃ (v : Option Value) (st₀ t T' : State) (L : List Loc), st₀.heap = H ∧ Stand p l e R s m args below meth c T' (locs ++ L) (cells + mc) (slots + ms) ∧ (∀ q ∈ L, free q.base) ∧ T'.heap = t.heap ∧ T'.vm = t.vm ∧ Qa st₀ (.returned v) t ∧
      Goes p e below T g T' { g with pc := g.pc + 3, stack := v.toList ++ rest }) ∨
    (∃ (q : Addr) (st₀ t T' : State) (L : List Loc) (E : String) (ce : Cell), st₀.heap = H ∧ Stand p l e R s m args below meth c T' (locs ++ L) (cells + mc) (slots + ms) ∧ (∀ z ∈ L, free z.base) ∧ T'.heap = t.heap ∧ T'.vm = t.vm ∧ XC E st₀ t ∧ t.heap[q]? = some ce ∧ ce.vm = .none ∧ s.vm.findClass E = some ce.cls ∧
      Steps p.tables e below (T.setTop g) ((T'.setTop { g with stack := rest }).pushFrame (.throwing q)))
def vx_X {S : Type} (px : S → Prop) (B : String → S → State → Prop) (A : Nat → Prop) : String → State → State → Prop := fun E st t => ∃ u : S, px u ∧ B E u t ∧ va_F A st t
section Runs
variable {p : Program} {l : Launch} {e : Env} {R : Room} {s : State} {m : MethodId} {args : Array Value} {below : List Frame} {meth : Method} {c : Code} {H : Heap} {locs : List Loc} {cells slots : Nat}
variable {y : MethodName} {bytes cc : ByteArray} {maxL nL mc ms n index : Nat} {ret : Option FieldType} {ws : List Cond} {rm : Room} {Pc : Array Value → State → Prop} {Qc : Array Value → State → Outcome → State → Prop} {XC : String → State → State → Prop} {free : Addr → Prop} {Ts : List Cond} {own C : String} {b : Addr} {As rest : List Value} {g : JFrame}
theorem vx_callBack (cb : CallB R s args own index y bytes maxL ret ws rm mc ms n) (hM : vx_Met l y ws rm Pc Qc XC mc ms free) (hbl : FrameBlind Pc) : vx_Back l R p e below s args y 3 8 (PreOf R mc ms Pc) (PostOf Qc mc ms free) (vx_Post XC mc ms free) := by
  obtain ⟨hrc, hrs, hfr, hlo, hws, hcw, -, hini, -⟩ := cb
  exact vx_back (bytes := bytes) (maxL := maxL) (ret := ret) hM hbl hrc hrs hfr hlo hws hcw (fun a' U hW => word_at hW (Or.inl (by first | rfl | simp [Cond.onTables, Cond.keeps, Cond.steady])) hini)
theorem vx_runV (S : CallFix p m c cc nL s args Ts own) (hM : vx_Met l y ws rm Pc Qc XC mc ms free) (cw : CallW R s args own C index y bytes maxL ret ws rm mc ms n) (hp : PreV s H C b Pc As)
    (hg : g.method = m) (hn : As.length = n) (hsize : g.locals.size = nL) (hstack : g.stack = As.reverse ++ .ref b :: rest) (hW : 2 * g.monitorRoom + (rest.map fun v => v.category).sum ≤ 8) (hdg : decode cc g.pc = .ok (.invokevirtual index, 3)) (hf : cells + mc ≤ R.cells ∧ slots + ms ≤ R.slots) :
    vx_Run p l e R s m args below meth c H locs cells slots mc ms g rest (Qc (Value.ref b :: As).toArray) XC free := by
  have hK : vx_Back l R p e below s args y 3 8 (PreOf R mc ms Pc) (PostOf Qc mc ms free) (vx_Post XC mc ms free) := vx_callBack cw.1 hM hp.1
  obtain ⟨⟨-, -, -, -, -, -, hcode, -, hy, hlen, hl⟩, hin, hse⟩ := cw
  obtain ⟨hx, hb, hml, ho, -⟩ := S
  obtain ⟨-, ⟨cellB, hcB, hoB, hclB⟩, hPc⟩ := hp
  intro T hT X
  rcases vx_callV X hx (C := C) (bytes := bytes) (maxL := maxL) (ret := ret) ho hl hin hse hcode hy hK (by rw [hT]; exact hcB) hoB hclB hg (hsize.trans hml.symm) (argsL := As) (rest := rest) (fun sig h => hn.trans (hlen sig h)) hstack hW (by rw [hb]; exact hdg)
    (fun vm₁ hW₁ => ⟨hf.1, hf.2, hPc (T.setVm vm₁) hT hW₁⟩) with ⟨v, vm₁, ⟨U', l2, c2, s2⟩, hW₁, X', ⟨g', mk, t, L, e1, e2, hq, h1, hL, h2, h3⟩, st⟩ | ⟨q, vm₁, ⟨U', l2, c2, s2⟩, hW₁, X', ⟨g', mk, t, L, E, ce, e1, e2, hq, hce, hcv, hcl, h1, hL, h2, h3⟩, st⟩
  · dsimp only [Pt.U, Pt.locs, Pt.cells, Pt.slots] at X' e1 e2 h1 h2 h3 st
    subst h1; subst h2; subst h3
    exact Or.inl ⟨v, (T.setVm vm₁).calling g' mk (Value.ref b :: As).toArray, t, U', L, hT, X', hL, e1, e2, hq, st⟩
  · dsimp only [Pt.U, Pt.locs, Pt.cells, Pt.slots] at X' e1 e2 h1 h2 h3 st hcl
    subst h1; subst h2; subst h3
    exact Or.inr ⟨q, (T.setVm vm₁).calling g' mk (Value.ref b :: As).toArray, t, U', L, E, ce, hT, X', hL, e1, e2, hq, hce, hcv, vx_cls hW₁ hcl, st⟩
theorem vx_runS (S : CallFix p m c cc nL s args Ts own) (hM : vx_Met l y ws rm Pc Qc XC mc ms free) (cw : CallB R s args own index y bytes maxL ret ws rm mc ms n ∧ (Cond.static y).before args s = true) (hp : PreS s H Pc As)
    (hg : g.method = m) (hn : As.length = n) (hsize : g.locals.size = nL) (hstack : g.stack = As.reverse ++ rest) (hW : 2 * g.monitorRoom + (rest.map fun v => v.category).sum ≤ 8) (hdg : decode cc g.pc = .ok (.invokestatic index, 3)) (hf : cells + mc ≤ R.cells ∧ slots + ms ≤ R.slots) :
    vx_Run p l e R s m args below meth c H locs cells slots mc ms g rest (Qc As.toArray) XC free := by
  have hK : vx_Back l R p e below s args y 3 8 (PreOf R mc ms Pc) (PostOf Qc mc ms free) (vx_Post XC mc ms free) := vx_callBack cw.1 hM hp.1
  obtain ⟨⟨-, -, -, -, -, -, hcode, hini, hy, hlen, hl⟩, hstt⟩ := cw
  obtain ⟨hx, hb, hml, ho, -⟩ := S
  intro T hT X
  rcases vx_callS X hx (bytes := bytes) (maxL := maxL) (ret := ret) ho hl hstt hini hcode hy hK hg (hsize.trans hml.symm) (argsL := As) (rest := rest) (fun sig h => hn.trans (hlen sig h)) hstack hW (by rw [hb]; exact hdg)
    (fun vm₁ hW₁ => ⟨hf.1, hf.2, hp.2 (T.setVm vm₁) hT hW₁⟩) with ⟨v, vm₁, ⟨U', l2, c2, s2⟩, hW₁, X', ⟨g', mk, t, L, e1, e2, hq, h1, hL, h2, h3⟩, st⟩ | ⟨q, vm₁, ⟨U', l2, c2, s2⟩, hW₁, X', ⟨g', mk, t, L, E, ce, e1, e2, hq, hce, hcv, hcl, h1, hL, h2, h3⟩, st⟩
  · dsimp only [Pt.U, Pt.locs, Pt.cells, Pt.slots] at X' e1 e2 h1 h2 h3 st
    subst h1; subst h2; subst h3
    exact Or.inl ⟨v, (T.setVm vm₁).calling g' mk As.toArray, t, U', L, hT, X', hL, e1, e2, hq, st⟩
  · dsimp only [Pt.U, Pt.locs, Pt.cells, Pt.slots] at X' e1 e2 h1 h2 h3 st hcl
    subst h1; subst h2; subst h3
    exact Or.inr ⟨q, (T.setVm vm₁).calling g' mk As.toArray, t, U', L, E, ce, hT, X', hL, e1, e2, hq, hce, hcv, vx_cls hW₁ hcl, st⟩
end Runs
section Rows
variable {p : Program} {l : Launch} {e : Env} {R : Room} {s : State} {m : MethodId} {args : Array Value} {below : List Frame} {meth : Method} {c : Code} {H : Heap} {locs : List Loc} {cells slots : Nat} {Q : State → Prop}
variable {mc ms : Nat} {free : Addr → Prop} {A0 A1 : Nat → Prop} {H0 : Heap} {a : Array Value} {pc : Nat} {ls : Array Slot} {st0 rest : List Value}
theorem vx_keep {st₀ t T' : State} {L : List Loc} (h0 : st₀.heap = H) (e1 : T'.heap = t.heap) (hS : va_S A0 H0 H locs) (hA : ∀ q, q < H.size → A1 q → A0 q) (hf : ∀ q, free q → A0 q) (hL : ∀ q ∈ L, free q.base) (hF : va_F A1 st₀ t) :
    H.size ≤ T'.heap.size ∧ (∀ q : Nat, q < H.size → ¬ A1 q → T'.heap[q]? = H[q]?) ∧ va_S A0 H0 T'.heap (locs ++ L) := by
  obtain ⟨hz, hk⟩ := hF
  rw [h0] at hz hk
  exact ⟨by rw [e1]; exact hz, fun q h1 h2 => by rw [e1]; exact hk q h1 h2,
    ⟨Nat.le_trans hS.1 (by rw [e1]; exact hz), fun q h1 h2 => by rw [e1, hk q (Nat.lt_of_lt_of_le h1 hS.1) (fun z => h2 (hA q (Nat.lt_of_lt_of_le h1 hS.1) z))]; exact hS.2.1 q h1 h2, fun q hq => by
      rcases List.mem_append.mp hq with h | h
      · exact hS.2.2 q h
      · exact hf _ (hL q h)⟩⟩
theorem vx_calli {S SX : Type} {post : Int32 → S → Prop} {px : SX → Prop} {B : S → State → Prop} {BX : String → SX → State → Prop} {AX : Nat → Prop} (hr : vx_Run p l e R s m args below meth c H locs cells slots mc ms (F0 m pc ls st0) rest (va_Qi post B A1 a) (vx_X px BX AX) free) (hS : va_S A0 H0 H locs) (hA : ∀ q, q < H.size → A1 q → A0 q) (hf : ∀ q, free q → A0 q) (hAX : ∀ q, q < H.size → AX q → A0 q)
    (kx : ∀ (E : String) (ce : Cell) (q9 : Addr) (u : SX) (t : State) (H1 : Heap) (locs1 : List Loc), t.heap = H1 → s.vm.Alike t.vm → px u → BX E u t → H.size ≤ H1.size → (∀ q : Nat, q < H.size → ¬ AX q → H1[q]? = H[q]?) → va_S A0 H0 H1 locs1 → H1[q9]? = some ce → ce.vm = .none → s.vm.findClass E = some ce.cls → vx_W p l e R s m args below meth c H1 locs1 (cells + mc) (slots + ms) Q (F0 m pc ls rest) q9)
    (kk : ∀ (r : Int32) (u : S) (t : State) (H1 : Heap) (locs1 : List Loc), t.heap = H1 → s.vm.Alike t.vm → post r u → B u t → H.size ≤ H1.size → (∀ q : Nat, q < H.size → ¬ A1 q → H1[q]? = H[q]?) → va_S A0 H0 H1 locs1 → W p l e R s m args below meth c H1 locs1 (cells + mc) (slots + ms) Q (F0 m (pc + 3) ls (.int r :: rest))) : W p l e R s m args below meth c H locs cells slots Q (F0 m pc ls st0) := by
  intro T hT X
  rcases hr T hT X with ⟨v, st₀, t, T', L, h0, X', hL, e1, e2, ⟨⟨r, u, hv, hp, hb⟩, hF⟩, st⟩ | ⟨q, st₀, t, T', L, E, ce, h0, X', hL, e1, e2, ⟨u, hp, hb, hF⟩, hce, hcv, hcl, st⟩
  · cases hv
    obtain ⟨k1, k2, k3⟩ := vx_keep h0 e1 hS hA hf hL hF
    obtain ⟨t2, a1, b1⟩ := kk r u t T'.heap (locs ++ L) e1.symm (by rw [← e2]; exact X'.warmed.alike) hp hb k1 k2 k3 T' rfl X'
    exact ⟨t2, st t2 a1, b1⟩
  · obtain ⟨k1, k2, k3⟩ := vx_keep h0 e1 hS hAX hf hL hF
    obtain ⟨t2, a1, b1⟩ := kx E ce q u t T'.heap (locs ++ L) e1.symm (by rw [← e2]; exact X'.warmed.alike) hp hb k1 k2 k3 (by rw [e1]; exact hce) hcv hcl T' rfl X'
    exact ⟨t2, st.trans a1, b1⟩
theorem vx_calll {S SX : Type} {post : Int64 → S → Prop} {px : SX → Prop} {B : S → State → Prop} {BX : String → SX → State → Prop} {AX : Nat → Prop} (hr : vx_Run p l e R s m args below meth c H locs cells slots mc ms (F0 m pc ls st0) rest (va_Ql post B A1 a) (vx_X px BX AX) free) (hS : va_S A0 H0 H locs) (hA : ∀ q, q < H.size → A1 q → A0 q) (hf : ∀ q, free q → A0 q) (hAX : ∀ q, q < H.size → AX q → A0 q)
    (kx : ∀ (E : String) (ce : Cell) (q9 : Addr) (u : SX) (t : State) (H1 : Heap) (locs1 : List Loc), t.heap = H1 → s.vm.Alike t.vm → px u → BX E u t → H.size ≤ H1.size → (∀ q : Nat, q < H.size → ¬ AX q → H1[q]? = H[q]?) → va_S A0 H0 H1 locs1 → H1[q9]? = some ce → ce.vm = .none → s.vm.findClass E = some ce.cls → vx_W p l e R s m args below meth c H1 locs1 (cells + mc) (slots + ms) Q (F0 m pc ls rest) q9)
    (kk : ∀ (r : Int64) (u : S) (t : State) (H1 : Heap) (locs1 : List Loc), t.heap = H1 → s.vm.Alike t.vm → post r u → B u t → H.size ≤ H1.size → (∀ q : Nat, q < H.size → ¬ A1 q → H1[q]? = H[q]?) → va_S A0 H0 H1 locs1 → W p l e R s m args below meth c H1 locs1 (cells + mc) (slots + ms) Q (F0 m (pc + 3) ls (.long r :: rest))) : W p l e R s m args below meth c H locs cells slots Q (F0 m pc ls st0) := by
  intro T hT X
  rcases hr T hT X with ⟨v, st₀, t, T', L, h0, X', hL, e1, e2, ⟨⟨r, u, hv, hp, hb⟩, hF⟩, st⟩ | ⟨q, st₀, t, T', L, E, ce, h0, X', hL, e1, e2, ⟨u, hp, hb, hF⟩, hce, hcv, hcl, st⟩
  · cases hv
    obtain ⟨k1, k2, k3⟩ := vx_keep h0 e1 hS hA hf hL hF
    obtain ⟨t2, a1, b1⟩ := kk r u t T'.heap (locs ++ L) e1.symm (by rw [← e2]; exact X'.warmed.alike) hp hb k1 k2 k3 T' rfl X'
    exact ⟨t2, st t2 a1, b1⟩
  · obtain ⟨k1, k2, k3⟩ := vx_keep h0 e1 hS hAX hf hL hF
    obtain ⟨t2, a1, b1⟩ := kx E ce q u t T'.heap (locs ++ L) e1.symm (by rw [← e2]; exact X'.warmed.alike) hp hb k1 k2 k3 (by rw [e1]; exact hce) hcv hcl T' rfl X'
    exact ⟨t2, st.trans a1, b1⟩
theorem vx_callf {S SX : Type} {post : UInt32 → S → Prop} {px : SX → Prop} {B : S → State → Prop} {BX : String → SX → State → Prop} {AX : Nat → Prop} (hr : vx_Run p l e R s m args below meth c H locs cells slots mc ms (F0 m pc ls st0) rest (va_Qf post B A1 a) (vx_X px BX AX) free) (hS : va_S A0 H0 H locs) (hA : ∀ q, q < H.size → A1 q → A0 q) (hf : ∀ q, free q → A0 q) (hAX : ∀ q, q < H.size → AX q → A0 q)
    (kx : ∀ (E : String) (ce : Cell) (q9 : Addr) (u : SX) (t : State) (H1 : Heap) (locs1 : List Loc), t.heap = H1 → s.vm.Alike t.vm → px u → BX E u t → H.size ≤ H1.size → (∀ q : Nat, q < H.size → ¬ AX q → H1[q]? = H[q]?) → va_S A0 H0 H1 locs1 → H1[q9]? = some ce → ce.vm = .none → s.vm.findClass E = some ce.cls → vx_W p l e R s m args below meth c H1 locs1 (cells + mc) (slots + ms) Q (F0 m pc ls rest) q9)
    (kk : ∀ (r : UInt32) (u : S) (t : State) (H1 : Heap) (locs1 : List Loc), t.heap = H1 → s.vm.Alike t.vm → post r u → B u t → H.size ≤ H1.size → (∀ q : Nat, q < H.size → ¬ A1 q → H1[q]? = H[q]?) → va_S A0 H0 H1 locs1 → W p l e R s m args below meth c H1 locs1 (cells + mc) (slots + ms) Q (F0 m (pc + 3) ls (.float r :: rest))) : W p l e R s m args below meth c H locs cells slots Q (F0 m pc ls st0) := by
  intro T hT X
  rcases hr T hT X with ⟨v, st₀, t, T', L, h0, X', hL, e1, e2, ⟨⟨r, u, hv, hp, hb⟩, hF⟩, st⟩ | ⟨q, st₀, t, T', L, E, ce, h0, X', hL, e1, e2, ⟨u, hp, hb, hF⟩, hce, hcv, hcl, st⟩
  · cases hv
    obtain ⟨k1, k2, k3⟩ := vx_keep h0 e1 hS hA hf hL hF
    obtain ⟨t2, a1, b1⟩ := kk r u t T'.heap (locs ++ L) e1.symm (by rw [← e2]; exact X'.warmed.alike) hp hb k1 k2 k3 T' rfl X'
    exact ⟨t2, st t2 a1, b1⟩
  · obtain ⟨k1, k2, k3⟩ := vx_keep h0 e1 hS hAX hf hL hF
    obtain ⟨t2, a1, b1⟩ := kx E ce q u t T'.heap (locs ++ L) e1.symm (by rw [← e2]; exact X'.warmed.alike) hp hb k1 k2 k3 (by rw [e1]; exact hce) hcv hcl T' rfl X'
    exact ⟨t2, st.trans a1, b1⟩
theorem vx_calld {S SX : Type} {post : UInt64 → S → Prop} {px : SX → Prop} {B : S → State → Prop} {BX : String → SX → State → Prop} {AX : Nat → Prop} (hr : vx_Run p l e R s m args below meth c H locs cells slots mc ms (F0 m pc ls st0) rest (va_Qd post B A1 a) (vx_X px BX AX) free) (hS : va_S A0 H0 H locs) (hA : ∀ q, q < H.size → A1 q → A0 q) (hf : ∀ q, free q → A0 q) (hAX : ∀ q, q < H.size → AX q → A0 q)
    (kx : ∀ (E : String) (ce : Cell) (q9 : Addr) (u : SX) (t : State) (H1 : Heap) (locs1 : List Loc), t.heap = H1 → s.vm.Alike t.vm → px u → BX E u t → H.size ≤ H1.size → (∀ q : Nat, q < H.size → ¬ AX q → H1[q]? = H[q]?) → va_S A0 H0 H1 locs1 → H1[q9]? = some ce → ce.vm = .none → s.vm.findClass E = some ce.cls → vx_W p l e R s m args below meth c H1 locs1 (cells + mc) (slots + ms) Q (F0 m pc ls rest) q9)
    (kk : ∀ (r : UInt64) (u : S) (t : State) (H1 : Heap) (locs1 : List Loc), t.heap = H1 → s.vm.Alike t.vm → post r u → B u t → H.size ≤ H1.size → (∀ q : Nat, q < H.size → ¬ A1 q → H1[q]? = H[q]?) → va_S A0 H0 H1 locs1 → W p l e R s m args below meth c H1 locs1 (cells + mc) (slots + ms) Q (F0 m (pc + 3) ls (.double r :: rest))) : W p l e R s m args below meth c H locs cells slots Q (F0 m pc ls st0) := by
  intro T hT X
  rcases hr T hT X with ⟨v, st₀, t, T', L, h0, X', hL, e1, e2, ⟨⟨r, u, hv, hp, hb⟩, hF⟩, st⟩ | ⟨q, st₀, t, T', L, E, ce, h0, X', hL, e1, e2, ⟨u, hp, hb, hF⟩, hce, hcv, hcl, st⟩
  · cases hv
    obtain ⟨k1, k2, k3⟩ := vx_keep h0 e1 hS hA hf hL hF
    obtain ⟨t2, a1, b1⟩ := kk r u t T'.heap (locs ++ L) e1.symm (by rw [← e2]; exact X'.warmed.alike) hp hb k1 k2 k3 T' rfl X'
    exact ⟨t2, st t2 a1, b1⟩
  · obtain ⟨k1, k2, k3⟩ := vx_keep h0 e1 hS hAX hf hL hF
    obtain ⟨t2, a1, b1⟩ := kx E ce q u t T'.heap (locs ++ L) e1.symm (by rw [← e2]; exact X'.warmed.alike) hp hb k1 k2 k3 (by rw [e1]; exact hce) hcv hcl T' rfl X'
    exact ⟨t2, st.trans a1, b1⟩
theorem vx_callv {S SX : Type} {post : S → Prop} {px : SX → Prop} {B : S → State → Prop} {BX : String → SX → State → Prop} {AX : Nat → Prop} (hr : vx_Run p l e R s m args below meth c H locs cells slots mc ms (F0 m pc ls st0) rest (va_Qv post B A1 a) (vx_X px BX AX) free) (hS : va_S A0 H0 H locs) (hA : ∀ q, q < H.size → A1 q → A0 q) (hf : ∀ q, free q → A0 q) (hAX : ∀ q, q < H.size → AX q → A0 q)
    (kx : ∀ (E : String) (ce : Cell) (q9 : Addr) (u : SX) (t : State) (H1 : Heap) (locs1 : List Loc), t.heap = H1 → s.vm.Alike t.vm → px u → BX E u t → H.size ≤ H1.size → (∀ q : Nat, q < H.size → ¬ AX q → H1[q]? = H[q]?) → va_S A0 H0 H1 locs1 → H1[q9]? = some ce → ce.vm = .none → s.vm.findClass E = some ce.cls → vx_W p l e R s m args below meth c H1 locs1 (cells + mc) (slots + ms) Q (F0 m pc ls rest) q9)
    (kk : ∀ (u : S) (t : State) (H1 : Heap) (locs1 : List Loc), t.heap = H1 → s.vm.Alike t.vm → post u → B u t → H.size ≤ H1.size → (∀ q : Nat, q < H.size → ¬ A1 q → H1[q]? = H[q]?) → va_S A0 H0 H1 locs1 → W p l e R s m args below meth c H1 locs1 (cells + mc) (slots + ms) Q (F0 m (pc + 3) ls (rest))) : W p l e R s m args below meth c H locs cells slots Q (F0 m pc ls st0) := by
  intro T hT X
  rcases hr T hT X with ⟨v, st₀, t, T', L, h0, X', hL, e1, e2, ⟨⟨u, hv, hp, hb⟩, hF⟩, st⟩ | ⟨q, st₀, t, T', L, E, ce, h0, X', hL, e1, e2, ⟨u, hp, hb, hF⟩, hce, hcv, hcl, st⟩
  · cases hv
    obtain ⟨k1, k2, k3⟩ := vx_keep h0 e1 hS hA hf hL hF
    obtain ⟨t2, a1, b1⟩ := kk u t T'.heap (locs ++ L) e1.symm (by rw [← e2]; exact X'.warmed.alike) hp hb k1 k2 k3 T' rfl X'
    exact ⟨t2, st t2 a1, b1⟩
  · obtain ⟨k1, k2, k3⟩ := vx_keep h0 e1 hS hAX hf hL hF
    obtain ⟨t2, a1, b1⟩ := kx E ce q u t T'.heap (locs ++ L) e1.symm (by rw [← e2]; exact X'.warmed.alike) hp hb k1 k2 k3 (by rw [e1]; exact hce) hcv hcl T' rfl X'
    exact ⟨t2, st.trans a1, b1⟩
/-- caught by the row x of this method's table; the rows ahead don't take it -/
theorem vx_catch {own name : String} {E : String} {ce : Cell} {q : Addr} (hown : s.vm.findClass own = some m.cls) (pre : List ExceptionTableEntry) (x : ExceptionTableEntry) (suf : List ExceptionTableEntry) (hsplit : c.exceptionTable.toList = pre ++ x :: suf)
    (hpass : ∀ z ∈ pre, covers z pc = false ∨ (z.catchType ≠ 0 ∧ ∃ nm : String, (Cond.classLink own z.catchType nm).before args s = true ∧ va_Nc E nm s)) (hx : covers x pc = true) (h0 : x.catchType ≠ 0)
    (hlink : (Cond.classLink own x.catchType name).before args s = true) (hcast : (Cond.castable E name).before args s = true) (hcell : H[q]? = some ce) (hv : ce.vm = .none) (hcl : s.vm.findClass E = some ce.cls)
    (kk : W p l e R s m args below meth c H locs cells slots Q (F0 m x.handlerPc ls [.ref q])) : vx_W p l e R s m args below meth c H locs cells slots Q (F0 m pc ls rest) q := by
  intro T hT X
  have hpl : e.platform.magicAccessors = ({} : Platform).magicAccessors := by rw [X.admits.platform]
  obtain ⟨c3, c4, hc3, hc4, hasg⟩ := Cond.castable_spec hcast
  cases Option.some.inj (hc3.symm.trans hcl)
  obtain ⟨c5, hc5, hcl5⟩ := Cond.classLink_spec hown hlink e.platform hpl
  cases Option.some.inj (hc4.symm.trans hc5)
  obtain ⟨vm', X', st⟩ := X.thenCaughtThrough q (g := F0 m pc ls rest) rfl (Steps.refl _) (by rw [hT]; exact hcell) (by rw [hv]; rfl) (by obtain ⟨k9, h9, -⟩ := Vm.findClass_spec hcl; exact ⟨k9, h9⟩) pre x suf hsplit
    (fun z hz => by
      rcases hpass z hz with h | ⟨hz0, nm, hl1, hn1⟩
      · exact Or.inl h
      · obtain ⟨c6, hc6, hcl6⟩ := Cond.classLink_spec hown hl1 e.platform hpl
        obtain ⟨a8, b8, h1, h2, h3⟩ := hn1
        cases Option.some.inj (h1.symm.trans hcl)
        cases Option.some.inj (h2.symm.trans hc6)
        exact Or.inr ⟨hz0, _, hcl6, h3⟩) hx (Or.inr ⟨h0, c4, hcl5, hasg⟩)
  obtain ⟨t, a1, b1⟩ := kk (T.setVm vm') hT X'
  exact ⟨t, st.trans a1, b1⟩
end Rows
section Ends
variable {p : Program} {l : Launch} {e : Env} {R : Room} {s : State} {m : MethodId} {args : Array Value} {below : List Frame} {meth : Method} {c : Code} {H : Heap} {locs : List Loc} {cells slots : Nat} {Q : State → Prop}
variable {mc ms : Nat} {free : Addr → Prop} {A0 A1 : Nat → Prop} {H0 : Heap} {a : Array Value} {ls : Array Slot} {st0 rest : List Value}
variable {Qc : Array Value → State → Outcome → State → Prop} {XC : String → State → State → Prop}
/-- what a body that may throw owes at its end -/
def vx_MQ (below : List Frame) (Qc : Array Value → State → Outcome → State → Prop) (XC : String → State → State → Prop) (a : Array Value) (s : State) (mc ms : Nat) (free : Addr → Prop) : State → Prop := fun t =>
  ∃ o, t.status = .running ∧ Ended t below o ∧ vx_Q Qc XC mc ms free a s o t
theorem vx_ret {g : JFrame} {mc ms : Nat} (k : W p l e R s m args below meth c H locs cells slots (MQ below Qc args s mc ms free) g) : W p l e R s m args below meth c H locs cells slots (vx_MQ below Qc XC args s mc ms free) g := by
  intro T hT X
  obtain ⟨t, a1, o, b1, b2, b3, b4⟩ := k T hT X
  exact ⟨t, a1, o, b1, b2, Or.inl ⟨b3, b4⟩⟩
/-- not caught here: it goes on to the caller -/
theorem vx_widen {g : JFrame} {q : Addr} {k n : Nat} (h1 : cells ≤ k) (h2 : slots ≤ n) (kk : vx_W p l e R s m args below meth c H locs k n Q g q) : vx_W p l e R s m args below meth c H locs cells slots Q g q := fun T hT X => kk T hT (stand_widen X h1 h2)
theorem vx_out {pc : Nat} {E : String} {ce : Cell} {q : Addr} {mc ms : Nat} (hout : ∀ x ∈ c.exceptionTable.toList, covers x pc = false) (hlocks : meth.locks = false) (hcell : H[q]? = some ce) (hv : ce.vm = .none) (hcl : s.vm.findClass E = some ce.cls)
    (hx : ∀ t : State, t.heap = H → s.vm.Alike t.vm → XC E s t) (hf : ∀ z ∈ locs, free z.base) (hc : cells ≤ mc) (hs : slots ≤ ms) :
    vx_W p l e R s m args below meth c H locs cells slots (vx_MQ below Qc XC args s mc ms free) (F0 m pc ls rest) q := by
  intro T hT X
  obtain ⟨st1, hrun, hend, hW, hsm⟩ := X.leaveThrown q (g := F0 m pc ls rest) rfl rfl rfl hout hlocks
  have hcell9 : (T.setFrames (.throwing q :: below)).heap[q]? = some ce := by
    show T.heap[q]? = some ce
    rw [hT]; exact hcell
  exact ⟨_, st1, .threw q, hrun, hend, Or.inr ⟨q, rfl, E, ce, locs, hx _ hT hW.alike, hcell9, hv, hcl, hW, hsm.mono hc hs, hf⟩⟩
theorem vx_frame {U : State} {k n : Nat} (h : s.sameButNew ({ U with vm := s.vm } : State) locs k n) : s.heap.size ≤ U.heap.size ∧ ∀ q : Nat, q < s.heap.size → (∀ z ∈ locs, z.base ≠ q) → U.heap[q]? = s.heap[q]? := by
  obtain ⟨-, h2, -, -, -, h6⟩ := h
  refine ⟨h2, fun q hq hz => ?_⟩
  obtain ⟨c9, e1, e2, e3, e4⟩ := h6 q _ (Array.getElem?_eq_getElem hq)
  have hs : c9.slots = (s.heap[q]).slots := Array.ext_getElem? fun i => e4 i fun hm => hz _ hm rfl
  have h9 : c9 = s.heap[q] := by
    rw [hs] at e2
    exact e2
  have e5 : U.heap[q]? = some c9 := e1
  rw [e5, h9, Array.getElem?_eq_getElem hq]
/-- the words of a throw but the four that speak of the heap -/
def vx_no (w : Cond) : Bool := decide (w ≠ .isRef (.static Bundle.tN "UNASSIGNED_STACK" Bundle.steD)) && decide (w ≠ .isRef (.static Bundle.tN "SUPPRESSED_SENTINEL" Bundle.listD)) && decide (w ≠ .laysStatic Bundle.tN "UNASSIGNED_STACK" Bundle.steD) && decide (w ≠ .laysStatic Bundle.tN "SUPPRESSED_SENTINEL" Bundle.listD)
def vx_at0 (own : String) (ic : Nat) (X : String) (names : List String) : List Cond := (Bundle.ownAtoms0 own ic X names).filter vx_no
def vx_atS (own : String) (ic : Nat) (X : String) (names : List String) : List Cond := (Bundle.ownAtoms own ic X names).filter vx_no
/-- a word that the tables alone decide, or a good one -/
def vx_ot (w : Cond) : Bool := w.onTables || goodWord w
theorem vx_ot_at {args a' : Array Value} {s U : State} {w : Cond} (hW : s.WarmedH U.vm) (hvm : s.vm = U.vm) (hg : vx_ot w = true) (h : w.before args s = true) : w.before a' U = true := by
  simp only [vx_ot, Bool.or_eq_true] at hg
  rcases hg with hg | hg
  · exact va_tabs hg hvm h
  · exact word_at hW (good_of_word hg) h
/-- a list's words: the good ones out of the method's own list, the others by premises of their own -/
theorem vx_hat {args : Array Value} {s : State} {L B : List Cond} (h1 : ∀ w ∈ L.filter goodWord, w.before args s = true) (h2 : ∀ w ∈ L.filter (fun w => !goodWord w), w ∈ B) (h3 : ∀ w ∈ B, w.before args s = true) : ∀ w ∈ L, w.before args s = true := by
  intro w hw
  by_cases g : goodWord w = true
  · exact h1 w (List.mem_filter.mpr ⟨hw, g⟩)
  · refine h3 w (h2 w (List.mem_filter.mpr ⟨hw, ?_⟩))
    show (!goodWord w) = true
    cases hgw : goodWord w
    · rfl
    · exact absurd hgw g
theorem vx_c {args : Array Value} {s : State} {w : Cond} {B : List Cond} (h : w.before args s = true) (t : ∀ w ∈ B, w.before args s = true) : ∀ w' ∈ w :: B, w'.before args s = true := fun w' h' => (List.mem_cons.mp h').elim (fun e => by rw [e]; exact h) (t w')
theorem vx_n {args : Array Value} {s : State} : ∀ w ∈ ([] : List Cond), w.before args s = true := fun _ h => nomatch h
theorem vx_own {args : Array Value} {s : State} {L : List Cond} (h1 : ∀ w ∈ L.filter vx_no, w.before args s = true)
    (hU : (Cond.isRef (.static Bundle.tN "UNASSIGNED_STACK" Bundle.steD)).before args s = true) (hN : (Cond.isRef (.static Bundle.tN "SUPPRESSED_SENTINEL" Bundle.listD)).before args s = true)
    (lU : (Cond.laysStatic Bundle.tN "UNASSIGNED_STACK" Bundle.steD).before args s = true) (lN : (Cond.laysStatic Bundle.tN "SUPPRESSED_SENTINEL" Bundle.listD).before args s = true) : ∀ w ∈ L, w.before args s = true := by
  intro w hw
  by_cases e1 : w = .isRef (.static Bundle.tN "UNASSIGNED_STACK" Bundle.steD)
  · rw [e1]; exact hU
  · by_cases e2 : w = .isRef (.static Bundle.tN "SUPPRESSED_SENTINEL" Bundle.listD)
    · rw [e2]; exact hN
    · by_cases e3 : w = .laysStatic Bundle.tN "UNASSIGNED_STACK" Bundle.steD
      · rw [e3]; exact lU
      · by_cases e4 : w = .laysStatic Bundle.tN "SUPPRESSED_SENTINEL" Bundle.listD
        · rw [e4]; exact lN
        · exact h1 w (List.mem_filter.mpr ⟨hw, by unfold vx_no; rw [decide_eq_true e1, decide_eq_true e2, decide_eq_true e3, decide_eq_true e4]; rfl⟩)
/-- where a static field lies, its class's statics cell in H -/
def vx_L (C n d : String) (A : Nat → Prop) (U : State) (H : Heap) : Prop := ∃ (c : ClassId) (k : Class) (i : Nat) (f : Field) (a : Nat) (cell : Cell), U.vm.findClass C = some c ∧ U.fieldFound? C n d = some (c, k, i, f) ∧ f.isStatic = true ∧ k.statics = some a ∧ H[a]? = some cell ∧ cell.vm.isStatics = true ∧ cell.cls = c ∧ f.slot < cell.slots.size ∧ k.staticTypes[f.slot]? = some f.type ∧ ¬ A a
theorem vx_L.moved {C n d : String} {A : Nat → Prop} {u U : State} {H : Heap} (hvm : u.vm.Alike U.vm) (h : vx_L C n d A u H) : vx_L C n d A U H := by
  obtain ⟨c, k, i, f, a, cell, h1, h2, h3, h4, h5, h6, h7, h8, h9, h10⟩ := h
  obtain ⟨k', hi', he⟩ := State.fieldFound?_setVm hvm h2
  exact ⟨c, k', i, f, a, cell, by rw [hvm.findClass]; exact h1, hi', h3, by rw [he]; exact h4, h5, h6, h7, h8, by rw [he]; exact h9, h10⟩
theorem vx_L.kept {C n d : String} {A : Nat → Prop} {U : State} {H H1 : Heap} (h : vx_L C n d A U H) (hq : ∀ a : Nat, a < H.size → ¬ A a → H1[a]? = H[a]?) : vx_L C n d A U H1 := by
  obtain ⟨c, k, i, f, a, cell, h1, h2, h3, h4, h5, h6, h7, h8, h9, h10⟩ := h
  exact ⟨c, k, i, f, a, cell, h1, h2, h3, h4, by rw [hq a (Array.getElem?_eq_some_iff.mp h5).1 h10]; exact h5, h6, h7, h8, h9, h10⟩
theorem vx_L.narrow {C n d : String} {A B : Nat → Prop} {U : State} {H : Heap} (h : vx_L C n d A U H) (hAB : ∀ q, B q → A q) : vx_L C n d B U H := by
  obtain ⟨c, k, i, f, a, cell, h1, h2, h3, h4, h5, h6, h7, h8, h9, h10⟩ := h
  exact ⟨c, k, i, f, a, cell, h1, h2, h3, h4, h5, h6, h7, h8, h9, fun z => h10 (hAB _ z)⟩
theorem vx_L.word {C n d : String} {A : Nat → Prop} {s : State} {args : Array Value} (h : vx_L C n d A s s.heap) : (Cond.laysStatic C n d).before args s = true := by
  obtain ⟨c, k, i, f, a, cell, h1, h2, h3, h4, h5, h6, h7, h8, h9, -⟩ := h
  show (Cond.laysStatic C n d).holds args s none s [] = true
  exact Cond.laysStatic_of h1 h2 h3 h4 h5 h6 h7 h8 h9
/-- .. and what it holds: null or some reference -/
def vx_Zq (C n d : String) (A : Nat → Prop) (U : State) (H : Heap) : Prop := va_Zq C n d A U H ∧ vx_L C n d A U H
theorem vx_Zq.moved {C n d : String} {A : Nat → Prop} {u U : State} {H : Heap} (hvm : u.vm.Alike U.vm) (h : vx_Zq C n d A u H) : vx_Zq C n d A U H := ⟨va_Zq.moved hvm h.1, vx_L.moved hvm h.2⟩
theorem vx_Zq.kept {C n d : String} {A : Nat → Prop} {U : State} {H H1 : Heap} (h : vx_Zq C n d A U H) (hq : ∀ a : Nat, a < H.size → ¬ A a → H1[a]? = H[a]?) : vx_Zq C n d A U H1 := ⟨va_Zq.kept h.1 hq, vx_L.kept h.2 hq⟩
theorem vx_Zq.narrow {C n d : String} {A B : Nat → Prop} {U : State} {H : Heap} (h : vx_Zq C n d A U H) (hAB : ∀ q, B q → A q) : vx_Zq C n d B U H := ⟨va_Zq.narrow h.1 hAB, vx_L.narrow h.2 hAB⟩
theorem vx_Zqof {args : Array Value} {s : State} {C n d : String} {A : Nat → Prop} (hl : (Cond.laysStatic C n d).before args s = true) (hini : (Cond.initialized C).before args s = true) (h : (Cond.isRef (.static C n d)).before args s = true) (hA : ∀ a : Nat, a < s.heap.size → ¬ A a) : vx_Zq C n d A s s.heap := by
  refine ⟨va_Zqof hl hini h hA, ?_⟩
  obtain ⟨c, k, i, f, a, cell, h1, h2, h3, h4, h5, h6, h7, h8, h9⟩ := Cond.laysStatic_spec hl
  exact ⟨c, k, i, f, a, cell, h1, h2, h3, h4, h5, h6, h7, h8, h9, hA a (Array.getElem?_eq_some_iff.mp h5).1⟩
theorem vx_isRef {C n d : String} {v : Value} {A : Nat → Prop} {s : State} {args : Array Value} (h : va_Z C n d v A s s.heap) (hv : v.isRef = true) : (Cond.isRef (.static C n d)).before args s = true := by
  obtain ⟨cf, kf, fi, f, a, cell, h1, h2, h3, h4, h5, h6, h7, -⟩ := h
  have he : (Term.static C n d).eval args s none [] s = some v := by
    simp [Term.eval, State.fieldNamed?, h1, h2, h4, h5, h6, h7]
  simp only [Cond.before, Cond.holds, Cond.value, he]
  cases v <;> simp_all [Value.isRef]
theorem vx_isRefq {C n d : String} {A : Nat → Prop} {s : State} {args : Array Value} (h : va_Zq C n d A s s.heap) : (Cond.isRef (.static C n d)).before args s = true := by
  rcases h with h | ⟨t, h⟩
  · exact vx_isRef h rfl
  · exact vx_isRef h rfl
/-- the same frame, seen from here: as if the method were called anew in this heap -/
theorem vx_rebase {T : State} (X : Stand p l e R s m args below meth c T locs cells slots) {R' : Room} (hf : R'.frames ≤ R.frames) (hl : R'.locals ≤ R.locals) (hc : cells + R'.cells ≤ R.cells) (hs : slots + R'.slots ≤ R.slots) :
    Stand p l e R' ((T.setVm s.vm).setFrames (.invoking m args :: below)) m args below meth c T [] 0 0 := by
  have htop : (T.setVm s.vm).topJava?.isSome := X.here.top
  have hF : ((T.setVm s.vm).setFrames (.invoking m args :: below)).frames = .invoking m args :: below := State.frames_setFrames _ (State.cur_lt_of_top htop)
  obtain ⟨g₀, hg0⟩ := Option.isSome_iff_exists.mp htop
  obtain ⟨r, hr⟩ := State.topJava?_eq_some.mp hg0
  have hl9 : e.platform.stackLimits (T.setVm s.vm).me = e.platform.stackLimits s.me := X.limits
  have hb9 : (T.setVm s.vm).me.stackBytes = s.me.stackBytes := X.bytes
  refine ⟨X.admits, X.cas, X.clock, hF, ?_, X.hears, X.method, X.code, X.here, X.tail, X.warmed, ?_, ?_, ?_⟩
  · have h := X.room
    have hU : ((T.setVm s.vm).setFrames (.invoking m args :: below)).localsInUse = s.localsInUse := by
      rw [State.localsInUse_invoking hF (meth := meth) (c := c) X.method X.code, State.localsInUse_invoking X.frames X.method X.code]
    simp only [State.hasRoom, Bool.and_eq_true, decide_eq_true_eq] at h ⊢
    obtain ⟨⟨⟨⟨h1, h2, h3, h4, h5, h6⟩, h7⟩, h8⟩, h9⟩ := h
    rw [X.frames, List.length_cons] at h2 h3
    have q1 := X.heapSize
    have q2 := X.used
    simp only [hF, hU, List.length_cons, State.stackLimits_setFrames, State.stackBytes_setFrames, hl9, hb9]
    refine ⟨⟨⟨⟨by omega, by omega, by omega, by omega, by omega, h6⟩, ?_⟩, ?_⟩, X.book⟩
    · show T.heap.size + R'.cells ≤ e.platform.maxCells
      omega
    · show T.slotsUsed + R'.slots ≤ e.platform.maxSlots
      omega
  · rw [State.stackLimits_setFrames]; rfl
  · rw [State.stackBytes_setFrames]; rfl
  · refine ⟨?_, Nat.le_refl _, Nat.le_refl _, ?_, ?_, fun a c9 h9 => ⟨c9, h9, rfl, rfl, fun _ _ => rfl⟩⟩
    · obtain ⟨t, ht, -⟩ := State.frames_cons hr
      show T.setVm s.vm = { ((T.setVm s.vm).setFrames (.invoking m args :: below)).setFrames (T.setVm s.vm).frames with heap := T.heap, slotsUsed := T.slotsUsed }
      rw [State.setFrames_setFrames, State.setFrames_self ht]
      rfl
    · show T.slotsUsed = T.slotsUsed + ((T.heap.toList.drop T.heap.size).map (·.slots.size)).sum
      rw [List.drop_eq_nil_of_le (Nat.le_of_eq Array.length_toList)]
      rfl
    · show ((T.heap.toList.drop T.heap.size).map (·.slots.size)).sum ≤ 0
      rw [List.drop_eq_nil_of_le (Nat.le_of_eq Array.length_toList)]
      exact Nat.le_refl _
/-- 'throw new E()': new; dup; invokespecial; athrow -/
theorem vx_throw0 {cc : ByteArray} {pc : Nat} (hexec : p.tables.exec = Jvm.exec) (hb : c.code = cc) (hl : l.stackTraces = false) {own cls : String} {names : List String} {ik ic mc ms : Nat} {A : Nat → Prop}
    (hown : s.vm.findClass own = some m.cls) (hcls : Bundle.fit cls = true) (hnames : ∀ n ∈ names, Bundle.fit n = true)
    (hk : (Cond.classLink own ik cls).before args s = true) (hini : (Cond.initialized cls).before args s = true) (hat : ∀ w ∈ vx_at0 own ic cls names, w.before args s = true)
    (hgood : ∀ w ∈ Cond.classLink own ik cls :: Cond.initialized cls :: vx_at0 own ic cls names, vx_ot w = true)
    (hU : vx_Zq Bundle.tN "UNASSIGNED_STACK" Bundle.steD A s s.heap) (hN : vx_Zq Bundle.tN "SUPPRESSED_SENTINEL" Bundle.listD A s s.heap) (hS : va_S A s.heap H locs) (hsize : ls.size = c.maxLocals)
    (d0 : decode cc pc = .ok (.new ik, 3)) (d3 : decode cc (pc + 3) = .ok (.dup, 1)) (d4 : decode cc (pc + 4) = .ok (.invokespecial ic, 3)) (d7 : decode cc (pc + 7) = .ok (.athrow, 1))
    (hout : ∀ x ∈ c.exceptionTable.toList, covers x (pc + 7) = false)
    (hRframes : names.length + 3 < R.frames) (hRlocals : (rest.map fun v => v.category).sum + (13 * (names.length + 1) + 42) ≤ R.locals) (hRcells : cells + 1 ≤ R.cells) (hRslots : slots + 6 ≤ R.slots) (hlocks : meth.locks = false)
    (hx : ∀ t : State, s.vm.Alike t.vm → H.size ≤ t.heap.size → (∀ q : Nat, q < H.size → t.heap[q]? = H[q]?) → XC cls s t)
    (hf : ∀ z ∈ locs, free z.base) (hc : cells + 1 ≤ mc) (hs : slots + 6 ≤ ms) :
    W p l e R s m args below meth c H locs cells slots (vx_MQ below Qc XC args s mc ms free) (F0 m pc ls rest) := by
  intro T hT X
  have htr : e.platform.stackTraces = false := (show e.platform.stackTraces = l.stackTraces by rw [X.admits.platform]).trans hl
  have Y := vx_rebase X (R' := { frames := R.frames, locals := R.locals, cells := 1, slots := 6 }) (Nat.le_refl _) (Nat.le_refl _) hRcells hRslots
  obtain ⟨s', hA⟩ : ∃ z, z = (T.setVm s.vm).setFrames (.invoking m args :: below) := ⟨_, rfl⟩
  rw [← hA] at Y
  have hvm : s'.vm = s.vm := by rw [hA]; rfl
  have hhp : s'.heap = H := by rw [hA]; exact hT
  have hW0 : s.WarmedH s'.vm := by rw [hvm]; exact State.WarmedH.refl s
  have hat' : ∀ w ∈ vx_at0 own ic cls names, w.before args s' = true := fun w hw => vx_ot_at hW0 hvm.symm (hgood w (List.mem_cons_of_mem _ (List.mem_cons_of_mem _ hw))) (hat w hw)
  have hk' : (Cond.classLink own ik cls).before args s' = true := vx_ot_at hW0 hvm.symm (hgood _ List.mem_cons_self) hk
  have hini' : (Cond.initialized cls).before args s' = true := vx_ot_at hW0 hvm.symm (hgood _ (List.mem_cons_of_mem _ List.mem_cons_self)) hini
  have hU' : vx_Zq Bundle.tN "UNASSIGNED_STACK" Bundle.steD A s' s'.heap := by rw [hhp]; exact vx_Zq.moved hW0.alike (hU.kept hS.2.1)
  have hN' : vx_Zq Bundle.tN "SUPPRESSED_SENTINEL" Bundle.listD A s' s'.heap := by rw [hhp]; exact vx_Zq.moved hW0.alike (hN.kept hS.2.1)
  have h : ∀ w ∈ Bundle.ownAtoms0 own ic cls names, w.before args s' = true := vx_own hat' (vx_isRefq hU'.1) (vx_isRefq hN'.1) hU'.2.word hN'.2.word
  have hown' : s'.vm.findClass own = some m.cls := by rw [hvm]; exact hown
  have hins : (Cond.instantiable cls 6).before args s' = true := h _ (by simp [Bundle.ownAtoms0])
  obtain ⟨vm₁, cX, kX, hfX, hkX, -, -, X₁, st1⟩ := Y.newCold hexec (own := own) (C := cls) (index := ik) (n := 6) hown' hk' hins hini'
    (g := F0 m pc ls rest) rfl (by rw [hb]; exact d0) (Nat.le_refl _) (Nat.le_refl _)
  generalize hT1 : (T.setVm vm₁).pushCell { cls := cX, slots := kX.instanceTypes.map defaultValue, vm := .none } = T1 at X₁ st1
  have hcat : (Value.ref T.heap.size).category = 1 := rfl
  have hcellA : T1.heap[T.heap.size]? = some (freshCell cX kX) := by rw [← hT1]; exact State.heap_pushCell_size _ _
  have d3' : decode c.code (pc + 3) = .ok (.dup, 1) := by rw [hb]; exact d3
  obtain ⟨U, hsteps, hrun, hend, hW, hsame, ce, hce, hO⟩ := X₁.ctorThrow0 hexec htr (own := own) (cls := cls) (names := names) (ic := ic) hown' hcls hnames h (fun x hx => nomatch hx) hfX hkX hcellA (by rw [hhp, hT]; exact Nat.le_refl _)
    (g := { method := m, pc := pc + 4, locals := ls, stack := .ref T.heap.size :: .ref T.heap.size :: rest, locked := none }) rfl hsize rfl rfl (rest := rest) rfl
    (by rw [hb]; exact d4) (by rw [hb]; exact d7) hout hRframes (by simp only [List.map_cons, List.sum_cons, hcat]; omega) hlocks
  obtain ⟨f1, f2⟩ := vx_frame hsame
  rw [hhp] at f1 f2
  have hWs : s.WarmedH U.vm := State.WarmedH.trans hW0 hW
  have hcl : s.vm.findClass cls = some ce.cls := by
    have h9 := hO.cls
    rw [hvm] at h9
    exact h9
  have hall : s.sameButNew ({ U with vm := s.vm } : State) locs mc ms := by
    subst hA
    obtain ⟨e1, e2⟩ := hsame
    rw [State.setFrames_setFrames] at e1
    have h2 : (T.setVm s.vm).sameButNew ({ U with vm := s.vm } : State) [] (0 + 1) (0 + 6) := ⟨e1, e2⟩
    have h3 := X.same.trans h2
    rw [List.append_nil] at h3
    exact h3.mono hc hs
  refine ⟨U, ?_, .threw T.heap.size, hrun, hend, Or.inr ⟨T.heap.size, rfl, cls, ce, locs, hx U hWs.alike f1 (fun q hq => f2 q hq (fun z hz => nomatch hz)), hce, hO.vm, hcl, hWs, hall, hf⟩⟩
  refine st1 _ ?_
  show Steps p.tables e below (T1.setTop { method := m, pc := pc + 3, locals := ls, stack := .ref T.heap.size :: rest, locked := none }) _
  jvm_step X₁.here [X₁.here.top, hexec, d3', Value.category]
  exact hsteps
/-- 'throw new E("text")': new; dup; ldc; invokespecial; athrow -/
theorem vx_throwS {cc : ByteArray} {pc : Nat} (hexec : p.tables.exec = Jvm.exec) (hb : c.code = cc) (hl : l.stackTraces = false) {own cls text : String} {names : List String} {ik is ic mc ms sa : Nat} {A : Nat → Prop}
    (hown : s.vm.findClass own = some m.cls) (hcls : Bundle.fit cls = true) (hnames : ∀ n ∈ names, Bundle.fit n = true)
    (hk : (Cond.classLink own ik cls).before args s = true) (hini : (Cond.initialized cls).before args s = true) (hstr : vk_R own is text sa s) (hat : ∀ w ∈ vx_atS own ic cls names, w.before args s = true)
    (hgood : ∀ w ∈ Cond.classLink own ik cls :: Cond.initialized cls :: vx_atS own ic cls names, vx_ot w = true)
    (hU : vx_Zq Bundle.tN "UNASSIGNED_STACK" Bundle.steD A s s.heap) (hN : vx_Zq Bundle.tN "SUPPRESSED_SENTINEL" Bundle.listD A s s.heap) (hS : va_S A s.heap H locs) (hsize : ls.size = c.maxLocals)
    (d0 : decode cc pc = .ok (.new ik, 3)) (d3 : decode cc (pc + 3) = .ok (.dup, 1)) (d4 : decode cc (pc + 4) = .ok (.ldc is, 2)) (d6 : decode cc (pc + 6) = .ok (.invokespecial ic, 3)) (d9 : decode cc (pc + 9) = .ok (.athrow, 1))
    (hout : ∀ x ∈ c.exceptionTable.toList, covers x (pc + 9) = false)
    (hRframes : names.length + 3 < R.frames) (hRlocals : (rest.map fun v => v.category).sum + (13 * (names.length + 1) + 43) ≤ R.locals) (hRcells : cells + 1 ≤ R.cells) (hRslots : slots + 6 ≤ R.slots) (hlocks : meth.locks = false)
    (hx : ∀ t : State, s.vm.Alike t.vm → H.size ≤ t.heap.size → (∀ q : Nat, q < H.size → t.heap[q]? = H[q]?) → XC cls s t)
    (hf : ∀ z ∈ locs, free z.base) (hc : cells + 1 ≤ mc) (hs : slots + 6 ≤ ms) :
    W p l e R s m args below meth c H locs cells slots (vx_MQ below Qc XC args s mc ms free) (F0 m pc ls rest) := by
  intro T hT X
  have htr : e.platform.stackTraces = false := (show e.platform.stackTraces = l.stackTraces by rw [X.admits.platform]).trans hl
  have Y := vx_rebase X (R' := { frames := R.frames, locals := R.locals, cells := 1, slots := 6 }) (Nat.le_refl _) (Nat.le_refl _) hRcells hRslots
  obtain ⟨s', hA⟩ : ∃ z, z = (T.setVm s.vm).setFrames (.invoking m args :: below) := ⟨_, rfl⟩
  rw [← hA] at Y
  have hvm : s'.vm = s.vm := by rw [hA]; rfl
  have hhp : s'.heap = H := by rw [hA]; exact hT
  have hW0 : s.WarmedH s'.vm := by rw [hvm]; exact State.WarmedH.refl s
  have hat' : ∀ w ∈ vx_atS own ic cls names, w.before args s' = true := fun w hw => vx_ot_at hW0 hvm.symm (hgood w (List.mem_cons_of_mem _ (List.mem_cons_of_mem _ hw))) (hat w hw)
  have hk' : (Cond.classLink own ik cls).before args s' = true := vx_ot_at hW0 hvm.symm (hgood _ List.mem_cons_self) hk
  have hini' : (Cond.initialized cls).before args s' = true := vx_ot_at hW0 hvm.symm (hgood _ (List.mem_cons_of_mem _ List.mem_cons_self)) hini
  have hU' : vx_Zq Bundle.tN "UNASSIGNED_STACK" Bundle.steD A s' s'.heap := by rw [hhp]; exact vx_Zq.moved hW0.alike (hU.kept hS.2.1)
  have hN' : vx_Zq Bundle.tN "SUPPRESSED_SENTINEL" Bundle.listD A s' s'.heap := by rw [hhp]; exact vx_Zq.moved hW0.alike (hN.kept hS.2.1)
  have h : ∀ w ∈ Bundle.ownAtoms own ic cls names, w.before args s' = true := vx_own hat' (vx_isRefq hU'.1) (vx_isRefq hN'.1) hU'.2.word hN'.2.word
  have hown' : s'.vm.findClass own = some m.cls := by rw [hvm]; exact hown
  have hins : (Cond.instantiable cls 6).before args s' = true := h _ (by simp [Bundle.ownAtoms])
  obtain ⟨vm₁, cX, kX, hfX, hkX, -, -, X₁, st1⟩ := Y.newCold hexec (own := own) (C := cls) (index := ik) (n := 6) hown' hk' hins hini'
    (g := F0 m pc ls rest) rfl (by rw [hb]; exact d0) (Nat.le_refl _) (Nat.le_refl _)
  generalize hT1 : (T.setVm vm₁).pushCell { cls := cX, slots := kX.instanceTypes.map defaultValue, vm := .none } = T1 at X₁ st1
  have hcat : (Value.ref T.heap.size).category = 1 := rfl
  have hcellA : T1.heap[T.heap.size]? = some (freshCell cX kX) := by rw [← hT1]; exact State.heap_pushCell_size _ _
  have d3' : decode c.code (pc + 3) = .ok (.dup, 1) := by rw [hb]; exact d3
  have d4' : decode c.code (pc + 4) = .ok (.ldc is, 2) := by rw [hb]; exact d4
  have hstr' : vk_R own is text sa s' := vk_R.warm hW0 hstr
  obtain ⟨U, hsteps, hrun, hend, hW, hsame, ce, hce, hO⟩ := X₁.ctorThrowS hexec htr (own := own) (cls := cls) (names := names) (ic := ic) hown' hcls hnames h (fun x hx => nomatch hx) hfX hkX hcellA (by rw [hhp, hT]; exact Nat.le_refl _) (msg := .ref sa) rfl
    (g := { method := m, pc := pc + 6, locals := ls, stack := .ref sa :: .ref T.heap.size :: .ref T.heap.size :: rest, locked := none }) rfl hsize rfl rfl (rest := rest) rfl
    (by rw [hb]; exact d6) (by rw [hb]; exact d9) hout hRframes (by simp only [List.map_cons, List.sum_cons, hcat]; omega) hlocks
  obtain ⟨f1, f2⟩ := vx_frame hsame
  rw [hhp] at f1 f2
  have hWs : s.WarmedH U.vm := State.WarmedH.trans hW0 hW
  have hcl : s.vm.findClass cls = some ce.cls := by
    have h9 := hO.cls
    rw [hvm] at h9
    exact h9
  have hall : s.sameButNew ({ U with vm := s.vm } : State) locs mc ms := by
    subst hA
    obtain ⟨e1, e2⟩ := hsame
    rw [State.setFrames_setFrames] at e1
    have h2 : (T.setVm s.vm).sameButNew ({ U with vm := s.vm } : State) [] (0 + 1) (0 + 6) := ⟨e1, e2⟩
    have h3 := X.same.trans h2
    rw [List.append_nil] at h3
    exact h3.mono hc hs
  refine ⟨U, ?_, .threw T.heap.size, hrun, hend, Or.inr ⟨T.heap.size, rfl, cls, ce, locs, hx U hWs.alike f1 (fun q hq => f2 q hq (fun z hz => nomatch hz)), hce, hO.vm, hcl, hWs, hall, hf⟩⟩
  refine st1 _ ?_
  show Steps p.tables e below (T1.setTop { method := m, pc := pc + 3, locals := ls, stack := .ref T.heap.size :: rest, locked := none }) _
  jvm_step X₁.here [X₁.here.top, hexec, d3', Value.category]
  exact X₁.ldcString hexec (own := own) (text := text) (index := is) (a := sa) hown' hstr'.1 hstr'.2
    (g := { method := m, pc := pc + 4, locals := ls, stack := .ref T.heap.size :: .ref T.heap.size :: rest, locked := none }) rfl d4' _ hsteps
/-- 'throw new E("text")', the text by a wide index -/
theorem vx_throwSW {cc : ByteArray} {pc : Nat} (hexec : p.tables.exec = Jvm.exec) (hb : c.code = cc) (hl : l.stackTraces = false) {own cls text : String} {names : List String} {ik is ic mc ms sa : Nat} {A : Nat → Prop}
    (hown : s.vm.findClass own = some m.cls) (hcls : Bundle.fit cls = true) (hnames : ∀ n ∈ names, Bundle.fit n = true)
    (hk : (Cond.classLink own ik cls).before args s = true) (hini : (Cond.initialized cls).before args s = true) (hstr : vk_R own is text sa s) (hat : ∀ w ∈ vx_atS own ic cls names, w.before args s = true)
    (hgood : ∀ w ∈ Cond.classLink own ik cls :: Cond.initialized cls :: vx_atS own ic cls names, vx_ot w = true)
    (hU : vx_Zq Bundle.tN "UNASSIGNED_STACK" Bundle.steD A s s.heap) (hN : vx_Zq Bundle.tN "SUPPRESSED_SENTINEL" Bundle.listD A s s.heap) (hS : va_S A s.heap H locs) (hsize : ls.size = c.maxLocals)
    (d0 : decode cc pc = .ok (.new ik, 3)) (d3 : decode cc (pc + 3) = .ok (.dup, 1)) (d4 : decode cc (pc + 4) = .ok (.ldc_w is, 3)) (d7 : decode cc (pc + 7) = .ok (.invokespecial ic, 3)) (d10 : decode cc (pc + 10) = .ok (.athrow, 1))
    (hout : ∀ x ∈ c.exceptionTable.toList, covers x (pc + 10) = false)
    (hRframes : names.length + 3 < R.frames) (hRlocals : (rest.map fun v => v.category).sum + (13 * (names.length + 1) + 43) ≤ R.locals) (hRcells : cells + 1 ≤ R.cells) (hRslots : slots + 6 ≤ R.slots) (hlocks : meth.locks = false)
    (hx : ∀ t : State, s.vm.Alike t.vm → H.size ≤ t.heap.size → (∀ q : Nat, q < H.size → t.heap[q]? = H[q]?) → XC cls s t)
    (hf : ∀ z ∈ locs, free z.base) (hc : cells + 1 ≤ mc) (hs : slots + 6 ≤ ms) :
    W p l e R s m args below meth c H locs cells slots (vx_MQ below Qc XC args s mc ms free) (F0 m pc ls rest) := by
  intro T hT X
  have htr : e.platform.stackTraces = false := (show e.platform.stackTraces = l.stackTraces by rw [X.admits.platform]).trans hl
  have Y := vx_rebase X (R' := { frames := R.frames, locals := R.locals, cells := 1, slots := 6 }) (Nat.le_refl _) (Nat.le_refl _) hRcells hRslots
  obtain ⟨s', hA⟩ : ∃ z, z = (T.setVm s.vm).setFrames (.invoking m args :: below) := ⟨_, rfl⟩
  rw [← hA] at Y
  have hvm : s'.vm = s.vm := by rw [hA]; rfl
  have hhp : s'.heap = H := by rw [hA]; exact hT
  have hW0 : s.WarmedH s'.vm := by rw [hvm]; exact State.WarmedH.refl s
  have hat' : ∀ w ∈ vx_atS own ic cls names, w.before args s' = true := fun w hw => vx_ot_at hW0 hvm.symm (hgood w (List.mem_cons_of_mem _ (List.mem_cons_of_mem _ hw))) (hat w hw)
  have hk' : (Cond.classLink own ik cls).before args s' = true := vx_ot_at hW0 hvm.symm (hgood _ List.mem_cons_self) hk
  have hini' : (Cond.initialized cls).before args s' = true := vx_ot_at hW0 hvm.symm (hgood _ (List.mem_cons_of_mem _ List.mem_cons_self)) hini
  have hU' : vx_Zq Bundle.tN "UNASSIGNED_STACK" Bundle.steD A s' s'.heap := by rw [hhp]; exact vx_Zq.moved hW0.alike (hU.kept hS.2.1)
  have hN' : vx_Zq Bundle.tN "SUPPRESSED_SENTINEL" Bundle.listD A s' s'.heap := by rw [hhp]; exact vx_Zq.moved hW0.alike (hN.kept hS.2.1)
  have h : ∀ w ∈ Bundle.ownAtoms own ic cls names, w.before args s' = true := vx_own hat' (vx_isRefq hU'.1) (vx_isRefq hN'.1) hU'.2.word hN'.2.word
  have hown' : s'.vm.findClass own = some m.cls := by rw [hvm]; exact hown
  have hins : (Cond.instantiable cls 6).before args s' = true := h _ (by simp [Bundle.ownAtoms])
  obtain ⟨vm₁, cX, kX, hfX, hkX, -, -, X₁, st1⟩ := Y.newCold hexec (own := own) (C := cls) (index := ik) (n := 6) hown' hk' hins hini'
    (g := F0 m pc ls rest) rfl (by rw [hb]; exact d0) (Nat.le_refl _) (Nat.le_refl _)
  generalize hT1 : (T.setVm vm₁).pushCell { cls := cX, slots := kX.instanceTypes.map defaultValue, vm := .none } = T1 at X₁ st1
  have hcat : (Value.ref T.heap.size).category = 1 := rfl
  have hcellA : T1.heap[T.heap.size]? = some (freshCell cX kX) := by rw [← hT1]; exact State.heap_pushCell_size _ _
  have d3' : decode c.code (pc + 3) = .ok (.dup, 1) := by rw [hb]; exact d3
  have d4' : decode c.code (pc + 4) = .ok (.ldc_w is, 3) := by rw [hb]; exact d4
  have hstr' : vk_R own is text sa s' := vk_R.warm hW0 hstr
  obtain ⟨U, hsteps, hrun, hend, hW, hsame, ce, hce, hO⟩ := X₁.ctorThrowS hexec htr (own := own) (cls := cls) (names := names) (ic := ic) hown' hcls hnames h (fun x hx => nomatch hx) hfX hkX hcellA (by rw [hhp, hT]; exact Nat.le_refl _) (msg := .ref sa) rfl
    (g := { method := m, pc := pc + 7, locals := ls, stack := .ref sa :: .ref T.heap.size :: .ref T.heap.size :: rest, locked := none }) rfl hsize rfl rfl (rest := rest) rfl
    (by rw [hb]; exact d7) (by rw [hb]; exact d10) hout hRframes (by simp only [List.map_cons, List.sum_cons, hcat]; omega) hlocks
  obtain ⟨f1, f2⟩ := vx_frame hsame
  rw [hhp] at f1 f2
  have hWs : s.WarmedH U.vm := State.WarmedH.trans hW0 hW
  have hcl : s.vm.findClass cls = some ce.cls := by
    have h9 := hO.cls
    rw [hvm] at h9
    exact h9
  have hall : s.sameButNew ({ U with vm := s.vm } : State) locs mc ms := by
    subst hA
    obtain ⟨e1, e2⟩ := hsame
    rw [State.setFrames_setFrames] at e1
    have h2 : (T.setVm s.vm).sameButNew ({ U with vm := s.vm } : State) [] (0 + 1) (0 + 6) := ⟨e1, e2⟩
    have h3 := X.same.trans h2
    rw [List.append_nil] at h3
    exact h3.mono hc hs
  refine ⟨U, ?_, .threw T.heap.size, hrun, hend, Or.inr ⟨T.heap.size, rfl, cls, ce, locs, hx U hWs.alike f1 (fun q hq => f2 q hq (fun z hz => nomatch hz)), hce, hO.vm, hcl, hWs, hall, hf⟩⟩
  refine st1 _ ?_
  show Steps p.tables e below (T1.setTop { method := m, pc := pc + 3, locals := ls, stack := .ref T.heap.size :: rest, locked := none }) _
  jvm_step X₁.here [X₁.here.top, hexec, d3', Value.category]
  exact X₁.ldcStringW hexec (own := own) (text := text) (index := is) (a := sa) hown' hstr'.1 hstr'.2
    (g := { method := m, pc := pc + 4, locals := ls, stack := .ref T.heap.size :: .ref T.heap.size :: rest, locked := none }) rfl d4' _ hsteps
end Ends
section Bodies
variable {l : Launch}
theorem vx_ofW {y : MethodName} {ws ws' : List Cond} {rm : Room} {Pc : Array Value → State → Prop} {Qc : Array Value → State → Outcome → State → Prop} {XC : String → State → State → Prop} {mc ms : Nat} {free : Addr → Prop} {cc : ByteArray} {maxL : Nat} {ret : Option FieldType}
    (hy : plainName y.cls = true) (hw : ws = Cond.code y cc maxL ret :: ws')
    (body : ∀ p e s m args below meth c s₁, BodyLoose p l y (headSpec ws rm) cc maxL ret e s m args below meth c s₁ → c.maxLocals = maxL → (∀ x ∈ c.exceptionTable.toList, False) → Pc args s →
      W p l e (headSpec ws rm).room s m args below meth c s.heap [] 0 0 (vx_MQ below Qc XC args s mc ms free) (entryFrame m args maxL)) : vx_Met l y ws rm Pc Qc XC mc ms free := by
  refine MetFree.of_bodyS (code := cc) (maxLocals := maxL) (ret := ret) hy ?_ ?_
  · intro args s m h hn
    obtain ⟨meth, c, h1, h2, h3, h4, h5, h6, -, -⟩ := Cond.code_spec hn (atoms_spec (ws := ws) h _ (by rw [hw]; exact List.mem_cons_self))
    exact ⟨meth, c, h1, h2, h3, h4, h5, h6⟩
  · intro p e s m args below meth c s₁ B hml hP _
    have hh0 : s₁.heap = s.heap := by rw [B.state]; rfl
    have ht : ∀ x ∈ c.exceptionTable.toList, False := by
      obtain ⟨meth9, c9, h1, h2, -, -, -, -, h7, -⟩ := Cond.code_spec B.named (atoms_spec (ws := ws) B.pre _ (by rw [hw]; exact List.mem_cons_self))
      cases Option.some.inj (h1.symm.trans B.method)
      cases Option.some.inj (h2.symm.trans (Stand.of_body B).code)
      intro x hx
      rw [Array.isEmpty_iff.mp h7] at hx
      cases hx
    obtain ⟨t, a1, o, b1, b2, b3⟩ := body p e s m args below meth c s₁ B hml ht hP s₁ hh0 (Stand.of_body B)
    exact ⟨t, o, a1, b1, b2, b3⟩
/-- the table of a body with handlers -/
theorem vx_table {p : Program} {x y : MethodName} {S : Spec} {cc bytes : ByteArray} {maxL maxL' : Nat} {ret ret' : Option FieldType} {e : Env} {s s₁ : State} {m : MethodId} {args : Array Value} {below : List Frame} {meth : Method} {c : Code} {hh : List (Nat × Nat × Nat × Nat)}
    (B : BodyLoose p l y S cc maxL ret e s m args below meth c s₁) (h : (Cond.codeWith y bytes maxL' ret' hh).before args s = true) : c.exceptionTable.toList = tableOf hh := by
  obtain ⟨m9, meth9, c9, hn9, h1, h2, -, -, h6, -⟩ := Cond.codeWith_spec h
  cases Option.some.inj (hn9.symm.trans B.named)
  cases Option.some.inj (h1.symm.trans B.method)
  cases Option.some.inj (h2.symm.trans (Stand.of_body B).code)
  rw [← h6, table_eq]
end Bodies
end VXA
/-! ===== END ===== -/
/-! ===== BEGIN a static call of a method with an exception table ===== -/
section VXS
variable {p : Program} {l : Launch} {e : Env} {R : Room} {s : State} {m : MethodId} {args : Array Value} {below : List Frame} {meth : Method} {c : Code} {T : State} {H : Heap} {locs : List Loc} {cells slots : Nat}
abbrev vx_CSW (R : Room) (s : State) (args : Array Value) (own : String) (index : Nat) (y : MethodName) (bytes : ByteArray) (maxL : Nat) (ret : Option FieldType) (hh : List (Nat × Nat × Nat × Nat)) (ws : List Cond) (rm : Room) (mc ms n : Nat) : Prop :=
  (rm.cells = mc ∧ rm.slots = ms ∧ rm.frames + 1 ≤ R.frames ∧ 8 + (maxL + 11) + rm.locals ≤ R.locals ∧ (∀ w ∈ ws, ∀ (a' : Array Value) (U : State), s.WarmedH U.vm → w.before a' U = true) ∧ Cond.codeWith y bytes maxL ret hh ∈ ws) ∧
  (Cond.codeWith y bytes maxL ret hh).before args s = true ∧ (Cond.initialized y.cls).before args s = true ∧ (y.cls ≠ "java/lang/invoke/MethodHandle" ∧ y.cls ≠ "java/lang/invoke/VarHandle") ∧
  (∀ sig, parseMethodDescriptor y.desc = some sig → n = sig.parameters.length) ∧ (Cond.methodLink own index y).before args s = true ∧ (Cond.static y).before args s = true
theorem vx_cwSW {own : String} {index maxL mc ms : Nat} {y : MethodName} {bytes : ByteArray} {ret : Option FieldType} {hh : List (Nat × Nat × Nat × Nat)} {Ts ws ws' : List Cond} {rm : Room} (n : Nat) (ht : ∀ w ∈ Ts, w.before args s = true) (hT : GoodIn Ts (va_wsS own index y ws)) (hw : ws = Cond.codeWith y bytes maxL ret hh :: ws') (hrc : rm.cells = mc) (hrs : rm.slots = ms)
    (hd : y.cls ≠ "java/lang/invoke/MethodHandle" ∧ y.cls ≠ "java/lang/invoke/VarHandle" ∧ (parseMethodDescriptor y.desc).map (fun d => d.parameters.length) = some n) (hR : rm.frames + 1 ≤ R.frames ∧ 8 + (maxL + 11) + rm.locals ≤ R.locals) :
    vx_CSW R s args own index y bytes maxL ret hh ws rm mc ms n := by
  have ok : ∀ w ∈ va_wsS own index y ws, w.before args s = true := fun w h => ht w (hT w h).1
  have hG : GoodIn Ts ws := fun w h => hT w (by unfold va_wsS; exact List.mem_append_right _ h)
  have hc : Cond.codeWith y bytes maxL ret hh ∈ ws := by rw [hw]; exact List.mem_cons_self
  refine ⟨⟨hrc, hrs, hR.1, hR.2, pay_in ht hG, hc⟩, ht _ (hG _ hc).1, ok _ (by simp [va_wsS]), ⟨hd.1, hd.2.1⟩, fun sig h => ?_, ok _ (by simp [va_wsS]), ok _ (by simp [va_wsS])⟩
  have h2 := hd.2.2
  rw [h] at h2
  exact (Option.some.inj h2).symm
theorem vx_callSW (X : Stand p l e R s m args below meth c T locs cells slots) (hexec : p.tables.exec = Jvm.exec) {own : String} {index : Nat} {y : MethodName} {bytes : ByteArray} {maxL : Nat} {ret : Option FieldType} {hh : List (Nat × Nat × Nat × Nat)}
    (hown : s.vm.findClass own = some m.cls) (hlink : (Cond.methodLink own index y).before args s = true) (hstat : (Cond.static y).before args s = true) (hinit : (Cond.initialized y.cls).before args s = true)
    (hcode : (Cond.codeWith y bytes maxL ret hh).before args s = true) (hy : y.cls ≠ "java/lang/invoke/MethodHandle" ∧ y.cls ≠ "java/lang/invoke/VarHandle")
    {W9 : Nat} {Pre : Pt → Array Value → Prop} {Post : Pt → Array Value → Option Value → Pt → Prop} (hK : Back l R p e below s args y 3 W9 Pre Post)
    {g : JFrame} (hg : g.method = m) (hsize : g.locals.size = c.maxLocals) {argsL rest : List Value} (hlen : ∀ sig, parseMethodDescriptor y.desc = some sig → argsL.length = sig.parameters.length)
    (hstack : g.stack = argsL.reverse ++ rest) (hW : 2 * g.monitorRoom + (rest.map fun v => v.category).sum ≤ W9) (hdg : decode c.code g.pc = .ok (.invokestatic index, 3))
    (hpre : ∀ vm₁, s.WarmedH vm₁ → Pre ⟨T.setVm vm₁, locs, cells, slots⟩ argsL.toArray) :
    ∃ (v : Option Value) (vm₁ : Vm) (B : Pt), s.WarmedH vm₁ ∧ Stand p l e R s m args below meth c B.U B.locs B.cells B.slots ∧ Post ⟨T.setVm vm₁, locs, cells, slots⟩ argsL.toArray v B ∧
      ∀ target, Steps p.tables e below (B.U.setTop { g with pc := g.pc + 3, stack := v.toList ++ rest }) target → Steps p.tables e below (T.setTop g) target := by
  obtain ⟨mk, methM, cM, hnamed, hmethM, -, -, -, -, -, -, hsigM⟩ := Cond.codeWith_spec hcode
  have hstatic : methM.isStatic = true := Cond.static_spec hnamed hmethM hstat
  obtain ⟨kP, hkP, -⟩ := className_of_methodNamed hnamed
  have hinitP : kP.init = .initialized := Cond.initialized_spec (findClass_of_methodNamed hnamed) hkP hinit
  obtain ⟨vm₁, X₁, hstep₁⟩ := X.invokestatic hexec hown hlink hnamed hmethM hstatic hkP hinitP hy (g := g) hg (argsL := argsL) (rest := rest) (hlen _ hsigM) hstack hdg
  obtain ⟨v, B, X', hpost, hsteps⟩ := hK m meth c ⟨T.setVm vm₁, locs, cells, slots⟩ { g with stack := rest } (.invokestatic index) mk argsL.toArray X₁ hg hsize hdg hW (X₁.named hnamed) (hpre vm₁ X₁.warmed)
  exact ⟨v, vm₁, B, X₁.warmed, X', hpost, fun target h => hstep₁ _ fun acts => by rw [doInvoke_state]; exact hsteps.trans h⟩
theorem vx_runSW {y : MethodName} {bytes cc : ByteArray} {maxL nL mc ms n index : Nat} {ret : Option FieldType} {hh : List (Nat × Nat × Nat × Nat)} {ws : List Cond} {rm : Room} {Pc : Array Value → State → Prop} {Qc : Array Value → State → Outcome → State → Prop} {free : Addr → Prop} {Ts : List Cond} {own : String} {As rest : List Value} {g : JFrame}
    (S : CallFix p m c cc nL s args Ts own) (hM : Met l y ws rm Pc Qc mc ms free) (cw : vx_CSW R s args own index y bytes maxL ret hh ws rm mc ms n) (hp : PreS s H Pc As)
    (hg : g.method = m) (hn : As.length = n) (hsize : g.locals.size = nL) (hstack : g.stack = As.reverse ++ rest) (hW : 2 * g.monitorRoom + (rest.map fun v => v.category).sum ≤ 8) (hdg : decode cc g.pc = .ok (.invokestatic index, 3)) (hf : cells + mc ≤ R.cells ∧ slots + ms ≤ R.slots) :
    va_Run p l e R s m args below meth c H locs cells slots mc ms g rest (Qc As.toArray) (free) := by
  obtain ⟨⟨hrc, hrs, hfr, hlo, hws, hcw⟩, hcode, hini, hy, hlen, hl, hstt⟩ := cw
  have hK : Back l R p e below s args y 3 8 (PreOf R mc ms Pc) (PostOf Qc mc ms free) := va_backW (hh := hh) (bytes := bytes) (maxL := maxL) (ret := ret) hM hp.1 hrc hrs hfr hlo hws hcw (fun a' U hW => word_at hW (Or.inl (by first | rfl | simp [Cond.onTables, Cond.keeps, Cond.steady])) hini)
  obtain ⟨hx, hb, hml, ho, -⟩ := S
  intro T hT X
  obtain ⟨v, vm₁, ⟨U', l2, c2, s2⟩, hW₁, X', ⟨g', mk, t, L, e1, e2, hq, h1, hL, h2, h3⟩, st⟩ := vx_callSW X hx (hh := hh) (bytes := bytes) (maxL := maxL) (ret := ret) ho hl hstt hini hcode hy hK hg (hsize.trans hml.symm) (argsL := As) (rest := rest) (fun sig h => hn.trans (hlen sig h)) hstack hW (by rw [hb]; exact hdg)
    (fun vm₁ hW₁ => ⟨hf.1, hf.2, hp.2 (T.setVm vm₁) hT hW₁⟩)
  dsimp only [Pt.U, Pt.locs, Pt.cells, Pt.slots] at X' e1 e2 h1 h2 h3 st
  subst h1; subst h2; subst h3
  exact ⟨v, (T.setVm vm₁).calling g' mk As.toArray, t, U', L, hT, X', hL, e1, e2, hq, st⟩
/-- not caught here, past rows that name other classes: it goes on to the caller -/
theorem vx_outP {p : Program} {l : Launch} {e : Env} {R : Room} {s : State} {m : MethodId} {args : Array Value} {below : List Frame} {meth : Method} {c : Code} {H : Heap} {locs : List Loc} {cells slots : Nat} {free : Addr → Prop} {ls : Array Slot} {rest : List Value} {Qc : Array Value → State → Outcome → State → Prop} {XC : String → State → State → Prop}
    {pc : Nat} {own E : String} {ce : Cell} {q : Addr} {mc ms : Nat} (hown : s.vm.findClass own = some m.cls) (hlocks : meth.locks = false)
    (hpass : ∀ z ∈ c.exceptionTable.toList, covers z pc = false ∨ (z.catchType ≠ 0 ∧ ∃ nm : String, (Cond.classLink own z.catchType nm).before args s = true ∧ va_Nc E nm s)) (hcell : H[q]? = some ce) (hv : ce.vm = .none) (hcl : s.vm.findClass E = some ce.cls)
    (hx : ∀ t : State, t.heap = H → s.vm.Alike t.vm → XC E s t) (hf : ∀ z ∈ locs, free z.base) (hc : cells ≤ mc) (hs : slots ≤ ms) :
    vx_W p l e R s m args below meth c H locs cells slots (vx_MQ below Qc XC args s mc ms free) (F0 m pc ls rest) q := by
  intro T hT X
  have hpl : e.platform.magicAccessors = ({} : Platform).magicAccessors := by rw [X.admits.platform]
  obtain ⟨vm', hW', X', st⟩ := X.outThrough hlocks q (g := F0 m pc ls rest) rfl rfl rfl (cell := ce) (by rw [hT]; exact hcell) (by rw [hv]; rfl)
    (by obtain ⟨k9, h9, -⟩ := Vm.findClass_spec hcl; exact ⟨k9, h9⟩) (fun z hz => by
      rcases hpass z hz with h | ⟨hz0, nm, hl1, hn1⟩
      · exact Or.inl h
      · obtain ⟨c6, hc6, hcl6⟩ := Cond.classLink_spec hown hl1 e.platform hpl
        obtain ⟨a8, b8, h1, h2, h3⟩ := hn1
        cases Option.some.inj (h1.symm.trans hcl)
        cases Option.some.inj (h2.symm.trans hc6)
        exact Or.inr ⟨hz0, _, hcl6, h3⟩)
  obtain ⟨g₀, hfr⟩ := X'.frames_eq
  have hcell9 : ((T.setVm vm').setFrames (.throwing q :: below)).heap[q]? = some ce := by
    show T.heap[q]? = some ce
    rw [hT]; exact hcell
  have hend : Ended ((T.setVm vm').setFrames (.throwing q :: below)) below (.threw q) := State.frames_setFrames _ (State.cur_lt_of_frames hfr)
  refine ⟨(T.setVm vm').setFrames (.throwing q :: below), ?_, .threw q, X'.here.running, hend, Or.inr ⟨q, rfl, E, ce, locs, hx _ hT (X'.ends _).1.alike, hcell9, hv, hcl, (X'.ends _).1, (X'.ends _).2.mono hc hs, hf⟩⟩
  rw [X.pushThrowing_eq]
  exact st
/-- a thing of a world lies in the heap -/
theorem vx_lt {D : va_G} {cl : List vw_C} {ws : va_W} {H1 : Heap} (h : va_P D cl ws H1) {k : Nat} {q : Nat × va_E} (hk : ws[k]? = some q) : q.1 < H1.size := (h k q hk).lt
end VXS
/-! ===== END ===== -/
/-! ===== BEGIN methods with a table of their own: called by a name, returning or throwing ===== -/
section VXH
/-! vx_backW, vx_callVX, vx_callSX, vx_callVW, vx_runVW, vx_runVX, vx_runSX, vx_ofWH follow the same proofs as their sisters above (Free/Laws.lean, Shelf42/LK1.lean); vx_outP calls Shelf42/NT130.lean (outThrough). -/
section
variable {l : Launch} {R : Room} {p : Program} {e : Env} {below : List Frame} {s : State} {sargs : Array Value} {y : MethodName} {len W9 : Nat}
theorem vx_backW {ws : List Cond} {rm : Room} {Pc : Array Value → State → Prop} {Qc : Array Value → State → Outcome → State → Prop} {XC : String → State → State → Prop} {mc ms : Nat} {free : Addr → Prop} {bytes : ByteArray} {maxL : Nat} {ret : Option FieldType} {hh : List (Nat × Nat × Nat × Nat)}
    (hM : vx_Met l y ws rm Pc Qc XC mc ms free) (hblind : FrameBlind Pc) (hrc : rm.cells = mc) (hrs : rm.slots = ms)
    (hframes : rm.frames + 1 ≤ R.frames) (hlocals : W9 + (maxL + 11) + rm.locals ≤ R.locals)
    (hws : ∀ w ∈ ws, ∀ a' U, s.WarmedH U.vm → w.before a' U = true) (hcode : Cond.codeWith y bytes maxL ret hh ∈ ws) (hinit : ∀ a' U, s.WarmedH U.vm → (Cond.initialized y.cls).before a' U = true) :
    vx_Back l R p e below s sargs y len W9 (PreOf R mc ms Pc) (PostOf Qc mc ms free) (vx_Post XC mc ms free) := by
  intro m meth c A g ig mk a X hg hsize hdg hW hn hp
  have h1 : (headSpec ws rm).pre.before a A.U = true := atoms_intro fun w hw => hws w hw _ _ X.warmed
  have h2 : (Cond.codeWith y bytes maxL ret hh).before a A.U = true := hws _ hcode _ _ X.warmed
  have h3 : (Cond.initialized y.cls).before a A.U = true := hinit _ _ X.warmed
  have h4 : A.cells + (headSpec ws rm).room.cells ≤ R.cells := by rw [show (headSpec ws rm).room.cells = mc from hrc]; exact hp.1
  have h5 : A.slots + (headSpec ws rm).room.slots ≤ R.slots := by rw [show (headSpec ws rm).room.slots = ms from hrs]; exact hp.2.1
  have hPc : Pc a (A.U.calling g mk a) := hblind _ _ _ _ hp.2.2
  obtain ⟨U, Ls, c0, s0⟩ := A
  dsimp only [Pt.U, Pt.locs, Pt.cells, Pt.slots] at h1 h2 h3 h4 h5 X hn hPc ⊢
  obtain ⟨m9, methY, cY, hn9, hmY, hcY, -, hlY, -⟩ := Cond.codeWith_spec h2
  cases Option.some.inj (hn9.symm.trans hn)
  obtain ⟨kY, hkY, -⟩ := className_of_methodNamed hn
  have hinitY : kY.init = .initialized := Cond.initialized_spec (findClass_of_methodNamed hn) hkY h3
  have h : At U g.method c below := by rw [hg]; exact X.here
  have hlocals9 : W9 + (maxL + 11) + (headSpec ws rm).room.locals ≤ R.locals := hlocals
  have happ : (headSpec ws rm).appliesLoose y e.platform (U.calling g mk a) = true :=
    Spec.appliesLoose_calling (g := g) h hdg hn hkY hinitY
      (X.room_calling (g := g) (R' := (headSpec ws rm).room) hsize hmY hcY hframes (by rw [hlY]; omega) h4 h5) h1
  obtain ⟨mid, hmid⟩ := h.above
  have hfr : (U.setTop g).frames = (.java g :: mid) ++ below := by rw [State.frames_setTop' g h.top, hmid]; rfl
  obtain ⟨o, s₂, hsteps, -, hend, hq⟩ := Steps.callFree hM p X.admits X.cas X.clock (acts := []) hfr happ hPc trivial
  have hq' : vx_Q Qc XC mc ms free a (U.calling g mk a) o s₂ := hq
  rw [State.frames_setTop' g h.top] at hend
  obtain ⟨g₀, hg0⟩ := Option.isSome_iff_exists.mp h.top
  obtain ⟨r, hr⟩ := State.topJava?_eq_some.mp hg0
  have hr' : (({ U with heap := s₂.heap, slotsUsed := s₂.slotsUsed } : State).setVm s₂.vm).frames = .java g₀ :: r := hr
  rcases hq' with ⟨hqc, L, hfe, hL⟩ | ⟨q, rfl, E, ce, L, hx, hce, hcv, hcl, hW₂, hsm, hL⟩
  · obtain ⟨⟨v, rfl⟩, hW₂, e2, q2, q3, q4, q5, q6⟩ := id hfe
    have e3 : s₂ = ({ (U.calling g mk a).setFrames s₂.frames with heap := s₂.heap, slotsUsed := s₂.slotsUsed } : State).setVm s₂.vm := by
      have : s₂ = ({ s₂ with vm := (U.calling g mk a).vm } : State).setVm s₂.vm := rfl
      rw [e2] at this
      exact this
    obtain ⟨c₂, i₂, len₂, hc₂, hd₂, hf₂⟩ := hend
    have hW' : U.WarmedH s₂.vm := hW₂
    have hcc : c₂ = c := by
      have h1 : s₂.code? g.method = U.code? g.method := by
        rw [State.code?_eq, State.code?_eq, hW'.alike.method?]
      exact Option.some.inj (hc₂.symm.trans (h1.trans h.code))
    subst hcc
    have hlen : len₂ = len := by rw [hdg] at hd₂; cases hd₂; rfl
    subst hlen
    have hs₂ : s₂ = (({ U with heap := s₂.heap, slotsUsed := s₂.slotsUsed } : State).setVm s₂.vm).setTop { g with pc := g.pc + len₂, stack := v.toList ++ g.stack } := by
      refine e3.trans ?_
      rw [hf₂, State.calling_eq h.top, State.setFrames_setFrames, State.setTop_of_frames _ hr', hr]
      rfl
    have hsame : U.sameButNew ({ U with heap := s₂.heap, slotsUsed := s₂.slotsUsed } : State) L mc ms := by
      refine ⟨?_, q2, q3, q4, q5, q6⟩
      obtain ⟨t, ht, -⟩ := State.frames_cons hr
      show ({ U with heap := s₂.heap, slotsUsed := s₂.slotsUsed } : State) = { U.setFrames U.frames with heap := s₂.heap, slotsUsed := s₂.slotsUsed }
      rw [State.setFrames_self ht]
    subst hg
    refine Or.inl ⟨v, ⟨(({ U with heap := s₂.heap, slotsUsed := s₂.slotsUsed } : State).setVm s₂.vm), Ls ++ L, c0 + mc, s0 + ms⟩,
      ⟨X.admits, X.cas, X.clock, X.frames, X.room, X.hears, X.method, X.code, (X.here.setHeapUsed s₂.heap s₂.slotsUsed).setVm hW'.alike, X.tail, State.WarmedH.trans X.warmed hW', X.limits, X.bytes, X.same.trans (hsame.setVm s.vm)⟩,
      ⟨g, mk, s₂, L, rfl, rfl, hqc, rfl, hL, rfl, rfl⟩, ?_⟩
    show Steps p.tables e below _ ((({ U with heap := s₂.heap, slotsUsed := s₂.slotsUsed } : State).setVm s₂.vm).setTop { g with pc := g.pc + len₂, stack := v.toList ++ g.stack })
    rw [← hs₂]
    exact hsteps
  · obtain ⟨e2, q2, q3, q4, q5, q6⟩ := id hsm
    have e3 : s₂ = ({ (U.calling g mk a).setFrames s₂.frames with heap := s₂.heap, slotsUsed := s₂.slotsUsed } : State).setVm s₂.vm := by
      have : s₂ = ({ s₂ with vm := (U.calling g mk a).vm } : State).setVm s₂.vm := rfl
      rw [e2] at this
      exact this
    have hf₂ : s₂.frames = .throwing q :: .java g :: U.frames.tail := hend
    have hW' : U.WarmedH s₂.vm := hW₂
    have hs₂ : s₂ = ((({ U with heap := s₂.heap, slotsUsed := s₂.slotsUsed } : State).setVm s₂.vm).setTop g).pushFrame (.throwing q) := by
      refine e3.trans ?_
      rw [hf₂, State.calling_eq h.top, State.setFrames_setFrames, State.pushFrame, State.frames_setTop _ hr', State.setTop_of_frames _ hr', State.setFrames_setFrames, hr]
      rfl
    have hsame : U.sameButNew ({ U with heap := s₂.heap, slotsUsed := s₂.slotsUsed } : State) L mc ms := by
      refine ⟨?_, q2, q3, q4, q5, q6⟩
      obtain ⟨t, ht, -⟩ := State.frames_cons hr
      show ({ U with heap := s₂.heap, slotsUsed := s₂.slotsUsed } : State) = { U.setFrames U.frames with heap := s₂.heap, slotsUsed := s₂.slotsUsed }
      rw [State.setFrames_self ht]
    subst hg
    refine Or.inr ⟨q, ⟨(({ U with heap := s₂.heap, slotsUsed := s₂.slotsUsed } : State).setVm s₂.vm), Ls ++ L, c0 + mc, s0 + ms⟩,
      ⟨X.admits, X.cas, X.clock, X.frames, X.room, X.hears, X.method, X.code, (X.here.setHeapUsed s₂.heap s₂.slotsUsed).setVm hW'.alike, X.tail, State.WarmedH.trans X.warmed hW', X.limits, X.bytes, X.same.trans (hsame.setVm s.vm)⟩,
      ⟨g, mk, s₂, L, E, ce, rfl, rfl, hx, hce, hcv, hcl, rfl, hL, rfl, rfl⟩, ?_⟩
    show Steps p.tables e below _ (((({ U with heap := s₂.heap, slotsUsed := s₂.slotsUsed } : State).setVm s₂.vm).setTop g).pushFrame (.throwing q))
    rw [← hs₂]
    exact hsteps
end
variable {p : Program} {l : Launch} {e : Env} {R : Room} {s : State} {m : MethodId} {args : Array Value} {below : List Frame} {meth : Method} {c : Code} {T : State} {H : Heap} {locs : List Loc} {cells slots : Nat}
theorem vx_callVX (X : Stand p l e R s m args below meth c T locs cells slots) (hexec : p.tables.exec = Jvm.exec) {own C : String} {index : Nat} {y : MethodName} {bytes : ByteArray} {maxL : Nat} {ret : Option FieldType} {hh : List (Nat × Nat × Nat × Nat)}
    (hown : s.vm.findClass own = some m.cls) (hlink : (Cond.methodLink own index y).before args s = true) (hinst : (Cond.instanceMethod y).before args s = true) (hsel : (Cond.selects C y y).before args s = true)
    (hcode : (Cond.codeWith y bytes maxL ret hh).before args s = true) (hy : y.cls ≠ "java/lang/invoke/MethodHandle" ∧ y.cls ≠ "java/lang/invoke/VarHandle")
    {W9 : Nat} {Pre : Pt → Array Value → Prop} {Post : Pt → Array Value → Option Value → Pt → Prop} {PostX : Pt → Array Value → Addr → Pt → Prop} (hK : vx_Back l R p e below s args y 3 W9 Pre Post PostX)
    {b : Addr} {cellB : Cell} (hcell : T.heap[b]? = some cellB) (hobj : cellB.vm.isStatics = false) (hcls : s.vm.findClass C = some cellB.cls)
    {g : JFrame} (hg : g.method = m) (hsize : g.locals.size = c.maxLocals) {argsL rest : List Value} (hlen : ∀ sig, parseMethodDescriptor y.desc = some sig → argsL.length = sig.parameters.length)
    (hstack : g.stack = argsL.reverse ++ .ref b :: rest) (hW : 2 * g.monitorRoom + (rest.map fun v => v.category).sum ≤ W9) (hdg : decode c.code g.pc = .ok (.invokevirtual index, 3))
    (hpre : ∀ vm₁, s.WarmedH vm₁ → Pre ⟨T.setVm vm₁, locs, cells, slots⟩ (Value.ref b :: argsL).toArray) :
    (∃ (v : Option Value) (vm₁ : Vm) (B : Pt), s.WarmedH vm₁ ∧ Stand p l e R s m args below meth c B.U B.locs B.cells B.slots ∧ Post ⟨T.setVm vm₁, locs, cells, slots⟩ (Value.ref b :: argsL).toArray v B ∧
      ∀ target, Steps p.tables e below (B.U.setTop { g with pc := g.pc + 3, stack := v.toList ++ rest }) target → Steps p.tables e below (T.setTop g) target) ∨
    (∃ (q : Addr) (vm₁ : Vm) (B : Pt), s.WarmedH vm₁ ∧ Stand p l e R s m args below meth c B.U B.locs B.cells B.slots ∧ PostX ⟨T.setVm vm₁, locs, cells, slots⟩ (Value.ref b :: argsL).toArray q B ∧
      Steps p.tables e below (T.setTop g) ((B.U.setTop { g with stack := rest }).pushFrame (.throwing q))) := by
  obtain ⟨mk, methM, hnamed, hmethM, hstM, habM⟩ := Cond.instanceMethod_spec hinst
  obtain ⟨m8, methM', cM, hn8, hmethM', -, -, -, -, -, -, hsigM⟩ := Cond.codeWith_spec hcode
  cases Option.some.inj (hn8.symm.trans hnamed)
  cases hmethM.symm.trans hmethM'
  obtain ⟨c2, r2, m2, q1, q2, q3, q4, kP, hkP, hkPi⟩ := Cond.selects_spec hsel
  cases hcls.symm.trans q1
  cases (State.methodFound?_of_named hnamed hy).symm.trans q2
  cases hnamed.symm.trans q3
  have hselP : selectMethod e.platform s.vm cellB.cls mk = .method mk := by rw [Launch.admits_selectMethod X.admits]; exact q4
  obtain ⟨vm₁, X₁, hstep₁⟩ := X.invokevirtual hexec hown hlink hnamed hmethM hstM hkP hkPi hy (a := b) (cell := cellB) hcell
    (fun z h => by rw [h] at hobj; cases hobj) hselP hmethM habM hkP hkPi (g := g) hg (argsL := argsL) (rest := rest) (hlen _ hsigM) hstack hdg
  rcases hK m meth c ⟨T.setVm vm₁, locs, cells, slots⟩ { g with stack := rest } (.invokevirtual index) mk (Value.ref b :: argsL).toArray X₁ hg hsize hdg hW (X₁.named hnamed) (hpre vm₁ X₁.warmed) with ⟨v, B, X', hpost, hsteps⟩ | ⟨q, B, X', hpost, hsteps⟩
  · exact Or.inl ⟨v, vm₁, B, X₁.warmed, X', hpost, fun target h => hstep₁ _ fun acts => by rw [doInvoke_state]; exact hsteps.trans h⟩
  · exact Or.inr ⟨q, vm₁, B, X₁.warmed, X', hpost, hstep₁ _ fun acts => by rw [doInvoke_state]; exact hsteps⟩
theorem vx_callSX (X : Stand p l e R s m args below meth c T locs cells slots) (hexec : p.tables.exec = Jvm.exec) {own : String} {index : Nat} {y : MethodName} {bytes : ByteArray} {maxL : Nat} {ret : Option FieldType} {hh : List (Nat × Nat × Nat × Nat)}
    (hown : s.vm.findClass own = some m.cls) (hlink : (Cond.methodLink own index y).before args s = true) (hstat : (Cond.static y).before args s = true) (hinit : (Cond.initialized y.cls).before args s = true)
    (hcode : (Cond.codeWith y bytes maxL ret hh).before args s = true) (hy : y.cls ≠ "java/lang/invoke/MethodHandle" ∧ y.cls ≠ "java/lang/invoke/VarHandle")
    {W9 : Nat} {Pre : Pt → Array Value → Prop} {Post : Pt → Array Value → Option Value → Pt → Prop} {PostX : Pt → Array Value → Addr → Pt → Prop} (hK : vx_Back l R p e below s args y 3 W9 Pre Post PostX)
    {g : JFrame} (hg : g.method = m) (hsize : g.locals.size = c.maxLocals) {argsL rest : List Value} (hlen : ∀ sig, parseMethodDescriptor y.desc = some sig → argsL.length = sig.parameters.length)
    (hstack : g.stack = argsL.reverse ++ rest) (hW : 2 * g.monitorRoom + (rest.map fun v => v.category).sum ≤ W9) (hdg : decode c.code g.pc = .ok (.invokestatic index, 3))
    (hpre : ∀ vm₁, s.WarmedH vm₁ → Pre ⟨T.setVm vm₁, locs, cells, slots⟩ argsL.toArray) :
    (∃ (v : Option Value) (vm₁ : Vm) (B : Pt), s.WarmedH vm₁ ∧ Stand p l e R s m args below meth c B.U B.locs B.cells B.slots ∧ Post ⟨T.setVm vm₁, locs, cells, slots⟩ argsL.toArray v B ∧
      ∀ target, Steps p.tables e below (B.U.setTop { g with pc := g.pc + 3, stack := v.toList ++ rest }) target → Steps p.tables e below (T.setTop g) target) ∨
    (∃ (q : Addr) (vm₁ : Vm) (B : Pt), s.WarmedH vm₁ ∧ Stand p l e R s m args below meth c B.U B.locs B.cells B.slots ∧ PostX ⟨T.setVm vm₁, locs, cells, slots⟩ argsL.toArray q B ∧
      Steps p.tables e below (T.setTop g) ((B.U.setTop { g with stack := rest }).pushFrame (.throwing q))) := by
  obtain ⟨mk, methM, cM, hnamed, hmethM, -, -, -, -, -, -, hsigM⟩ := Cond.codeWith_spec hcode
  have hstatic : methM.isStatic = true := Cond.static_spec hnamed hmethM hstat
  obtain ⟨kP, hkP, -⟩ := className_of_methodNamed hnamed
  have hinitP : kP.init = .initialized := Cond.initialized_spec (findClass_of_methodNamed hnamed) hkP hinit
  obtain ⟨vm₁, X₁, hstep₁⟩ := X.invokestatic hexec hown hlink hnamed hmethM hstatic hkP hinitP hy (g := g) hg (argsL := argsL) (rest := rest) (hlen _ hsigM) hstack hdg
  rcases hK m meth c ⟨T.setVm vm₁, locs, cells, slots⟩ { g with stack := rest } (.invokestatic index) mk argsL.toArray X₁ hg hsize hdg hW (X₁.named hnamed) (hpre vm₁ X₁.warmed) with ⟨v, B, X', hpost, hsteps⟩ | ⟨q, B, X', hpost, hsteps⟩
  · exact Or.inl ⟨v, vm₁, B, X₁.warmed, X', hpost, fun target h => hstep₁ _ fun acts => by rw [doInvoke_state]; exact hsteps.trans h⟩
  · exact Or.inr ⟨q, vm₁, B, X₁.warmed, X', hpost, hstep₁ _ fun acts => by rw [doInvoke_state]; exact hsteps⟩
theorem vx_callVW (X : Stand p l e R s m args below meth c T locs cells slots) (hexec : p.tables.exec = Jvm.exec) {own C : String} {index : Nat} {y : MethodName} {bytes : ByteArray} {maxL : Nat} {ret : Option FieldType} {hh : List (Nat × Nat × Nat × Nat)}
    (hown : s.vm.findClass own = some m.cls) (hlink : (Cond.methodLink own index y).before args s = true) (hinst : (Cond.instanceMethod y).before args s = true) (hsel : (Cond.selects C y y).before args s = true)
    (hcode : (Cond.codeWith y bytes maxL ret hh).before args s = true) (hy : y.cls ≠ "java/lang/invoke/MethodHandle" ∧ y.cls ≠ "java/lang/invoke/VarHandle")
    {W9 : Nat} {Pre : Pt → Array Value → Prop} {Post : Pt → Array Value → Option Value → Pt → Prop} (hK : Back l R p e below s args y 3 W9 Pre Post)
    {b : Addr} {cellB : Cell} (hcell : T.heap[b]? = some cellB) (hobj : cellB.vm.isStatics = false) (hcls : s.vm.findClass C = some cellB.cls)
    {g : JFrame} (hg : g.method = m) (hsize : g.locals.size = c.maxLocals) {argsL rest : List Value} (hlen : ∀ sig, parseMethodDescriptor y.desc = some sig → argsL.length = sig.parameters.length)
    (hstack : g.stack = argsL.reverse ++ .ref b :: rest) (hW : 2 * g.monitorRoom + (rest.map fun v => v.category).sum ≤ W9) (hdg : decode c.code g.pc = .ok (.invokevirtual index, 3))
    (hpre : ∀ vm₁, s.WarmedH vm₁ → Pre ⟨T.setVm vm₁, locs, cells, slots⟩ (Value.ref b :: argsL).toArray) :
    ∃ (v : Option Value) (vm₁ : Vm) (B : Pt), s.WarmedH vm₁ ∧ Stand p l e R s m args below meth c B.U B.locs B.cells B.slots ∧ Post ⟨T.setVm vm₁, locs, cells, slots⟩ (Value.ref b :: argsL).toArray v B ∧
      ∀ target, Steps p.tables e below (B.U.setTop { g with pc := g.pc + 3, stack := v.toList ++ rest }) target → Steps p.tables e below (T.setTop g) target := by
  obtain ⟨mk, methM, hnamed, hmethM, hstM, habM⟩ := Cond.instanceMethod_spec hinst
  obtain ⟨m8, methM', cM, hn8, hmethM', -, -, -, -, -, -, hsigM⟩ := Cond.codeWith_spec hcode
  cases Option.some.inj (hn8.symm.trans hnamed)
  cases hmethM.symm.trans hmethM'
  obtain ⟨c2, r2, m2, q1, q2, q3, q4, kP, hkP, hkPi⟩ := Cond.selects_spec hsel
  cases hcls.symm.trans q1
  cases (State.methodFound?_of_named hnamed hy).symm.trans q2
  cases hnamed.symm.trans q3
  have hselP : selectMethod e.platform s.vm cellB.cls mk = .method mk := by rw [Launch.admits_selectMethod X.admits]; exact q4
  obtain ⟨vm₁, X₁, hstep₁⟩ := X.invokevirtual hexec hown hlink hnamed hmethM hstM hkP hkPi hy (a := b) (cell := cellB) hcell
    (fun z h => by rw [h] at hobj; cases hobj) hselP hmethM habM hkP hkPi (g := g) hg (argsL := argsL) (rest := rest) (hlen _ hsigM) hstack hdg
  obtain ⟨v, B, X', hpost, hsteps⟩ := hK m meth c ⟨T.setVm vm₁, locs, cells, slots⟩ { g with stack := rest } (.invokevirtual index) mk (Value.ref b :: argsL).toArray X₁ hg hsize hdg hW (X₁.named hnamed) (hpre vm₁ X₁.warmed)
  exact ⟨v, vm₁, B, X₁.warmed, X', hpost, fun target h => hstep₁ _ fun acts => by rw [doInvoke_state]; exact hsteps.trans h⟩
abbrev vx_CVW (R : Room) (s : State) (args : Array Value) (own C : String) (index : Nat) (y : MethodName) (bytes : ByteArray) (maxL : Nat) (ret : Option FieldType) (hh : List (Nat × Nat × Nat × Nat)) (ws : List Cond) (rm : Room) (mc ms n : Nat) : Prop :=
  (rm.cells = mc ∧ rm.slots = ms ∧ rm.frames + 1 ≤ R.frames ∧ 8 + (maxL + 11) + rm.locals ≤ R.locals ∧ (∀ w ∈ ws, ∀ (a' : Array Value) (U : State), s.WarmedH U.vm → w.before a' U = true) ∧ Cond.codeWith y bytes maxL ret hh ∈ ws) ∧
  (Cond.codeWith y bytes maxL ret hh).before args s = true ∧ (Cond.initialized y.cls).before args s = true ∧ (y.cls ≠ "java/lang/invoke/MethodHandle" ∧ y.cls ≠ "java/lang/invoke/VarHandle") ∧
  (∀ sig, parseMethodDescriptor y.desc = some sig → n = sig.parameters.length) ∧ (Cond.methodLink own index y).before args s = true ∧ (Cond.instanceMethod y).before args s = true ∧ (Cond.selects C y y).before args s = true
theorem vx_cwVW {own C : String} {index maxL mc ms : Nat} {y : MethodName} {bytes : ByteArray} {ret : Option FieldType} {hh : List (Nat × Nat × Nat × Nat)} {Ts ws ws' : List Cond} {rm : Room} (n : Nat) (ht : ∀ w ∈ Ts, w.before args s = true) (hT : GoodIn Ts (wsV own index C y ws)) (hw : ws = Cond.codeWith y bytes maxL ret hh :: ws') (hrc : rm.cells = mc) (hrs : rm.slots = ms)
    (hd : y.cls = C ∧ y.cls ≠ "java/lang/invoke/MethodHandle" ∧ y.cls ≠ "java/lang/invoke/VarHandle" ∧ (parseMethodDescriptor y.desc).map (fun d => d.parameters.length) = some n) (hR : rm.frames + 1 ≤ R.frames ∧ 8 + (maxL + 11) + rm.locals ≤ R.locals) :
    vx_CVW R s args own C index y bytes maxL ret hh ws rm mc ms n := by
  obtain ⟨hC, hd⟩ := hd
  subst hC
  have ok : ∀ w ∈ wsV own index y.cls y ws, w.before args s = true := fun w h => ht w (hT w h).1
  have hG : GoodIn Ts ws := fun w h => hT w (by unfold wsV; exact List.mem_append_right _ h)
  have hc : Cond.codeWith y bytes maxL ret hh ∈ ws := by rw [hw]; exact List.mem_cons_self
  refine ⟨⟨hrc, hrs, hR.1, hR.2, pay_in ht hG, hc⟩, ht _ (hG _ hc).1, ok _ (by simp [wsV]), ⟨hd.1, hd.2.1⟩, fun sig h => ?_, ok _ (by simp [wsV]), ok _ (by simp [wsV]), ok _ (by simp [wsV])⟩
  have h2 := hd.2.2
  rw [h] at h2
  exact (Option.some.inj h2).symm
theorem vx_runVW {y : MethodName} {bytes cc : ByteArray} {maxL nL mc ms n index : Nat} {ret : Option FieldType} {hh : List (Nat × Nat × Nat × Nat)} {ws : List Cond} {rm : Room} {Pc : Array Value → State → Prop} {Qc : Array Value → State → Outcome → State → Prop} {free : Addr → Prop} {Ts : List Cond} {own C : String} {b : Addr} {As rest : List Value} {g : JFrame}
    (S : CallFix p m c cc nL s args Ts own) (hM : Met l y ws rm Pc Qc mc ms free) (cw : vx_CVW R s args own C index y bytes maxL ret hh ws rm mc ms n) (hp : PreV s H C b Pc As)
    (hg : g.method = m) (hn : As.length = n) (hsize : g.locals.size = nL) (hstack : g.stack = As.reverse ++ .ref b :: rest) (hW : 2 * g.monitorRoom + (rest.map fun v => v.category).sum ≤ 8) (hdg : decode cc g.pc = .ok (.invokevirtual index, 3)) (hf : cells + mc ≤ R.cells ∧ slots + ms ≤ R.slots) :
    va_Run p l e R s m args below meth c H locs cells slots mc ms g rest (Qc (Value.ref b :: As).toArray) free := by
  obtain ⟨⟨hrc, hrs, hfr, hlo, hws, hcw⟩, hcode, hini, hy, hlen, hl, hin, hse⟩ := cw
  have hK : Back l R p e below s args y 3 8 (PreOf R mc ms Pc) (PostOf Qc mc ms free) := va_backW (hh := hh) (bytes := bytes) (maxL := maxL) (ret := ret) hM hp.1 hrc hrs hfr hlo hws hcw (fun a' U hW => word_at hW (Or.inl (by first | rfl | simp [Cond.onTables, Cond.keeps, Cond.steady])) hini)
  obtain ⟨hx, hb, hml, ho, -⟩ := S
  obtain ⟨-, ⟨cellB, hcB, hoB, hclB⟩, hPc⟩ := hp
  intro T hT X
  obtain ⟨v, vm₁, ⟨U', l2, c2, s2⟩, hW₁, X', ⟨g', mk, t, L, e1, e2, hq, h1, hL, h2, h3⟩, st⟩ := vx_callVW X hx (C := C) (hh := hh) (bytes := bytes) (maxL := maxL) (ret := ret) ho hl hin hse hcode hy hK (by rw [hT]; exact hcB) hoB hclB hg (hsize.trans hml.symm) (argsL := As) (rest := rest) (fun sig h => hn.trans (hlen sig h)) hstack hW (by rw [hb]; exact hdg)
    (fun vm₁ hW₁ => ⟨hf.1, hf.2, hPc (T.setVm vm₁) hT hW₁⟩)
  dsimp only [Pt.U, Pt.locs, Pt.cells, Pt.slots] at X' e1 e2 h1 h2 h3 st
  subst h1; subst h2; subst h3
  exact ⟨v, (T.setVm vm₁).calling g' mk (Value.ref b :: As).toArray, t, U', L, hT, X', hL, e1, e2, hq, st⟩
section
variable {y : MethodName} {bytes cc : ByteArray} {maxL nL mc ms n index : Nat} {ret : Option FieldType} {ws : List Cond} {rm : Room} {Pc : Array Value → State → Prop} {Qc : Array Value → State → Outcome → State → Prop} {XC : String → State → State → Prop} {free : Addr → Prop} {Ts : List Cond} {own C : String} {b : Addr} {As rest : List Value} {g : JFrame}
theorem vx_runVX {hh : List (Nat × Nat × Nat × Nat)} (S : CallFix p m c cc nL s args Ts own) (hM : vx_Met l y ws rm Pc Qc XC mc ms free) (cw : vx_CVW R s args own C index y bytes maxL ret hh ws rm mc ms n) (hp : PreV s H C b Pc As)
    (hg : g.method = m) (hn : As.length = n) (hsize : g.locals.size = nL) (hstack : g.stack = As.reverse ++ .ref b :: rest) (hW : 2 * g.monitorRoom + (rest.map fun v => v.category).sum ≤ 8) (hdg : decode cc g.pc = .ok (.invokevirtual index, 3)) (hf : cells + mc ≤ R.cells ∧ slots + ms ≤ R.slots) :
    vx_Run p l e R s m args below meth c H locs cells slots mc ms g rest (Qc (Value.ref b :: As).toArray) XC free := by
  obtain ⟨⟨hrc, hrs, hfr, hlo, hws, hcw⟩, hcode, hini, hy, hlen, hl, hin, hse⟩ := cw
  have hK : vx_Back l R p e below s args y 3 8 (PreOf R mc ms Pc) (PostOf Qc mc ms free) (vx_Post XC mc ms free) := vx_backW (hh := hh) (bytes := bytes) (maxL := maxL) (ret := ret) hM hp.1 hrc hrs hfr hlo hws hcw (fun a' U hW => word_at hW (Or.inl (by first | rfl | simp [Cond.onTables, Cond.keeps, Cond.steady])) hini)
  obtain ⟨hx, hb, hml, ho, -⟩ := S
  obtain ⟨-, ⟨cellB, hcB, hoB, hclB⟩, hPc⟩ := hp
  intro T hT X
  rcases vx_callVX X hx (C := C) (hh := hh) (bytes := bytes) (maxL := maxL) (ret := ret) ho hl hin hse hcode hy hK (by rw [hT]; exact hcB) hoB hclB hg (hsize.trans hml.symm) (argsL := As) (rest := rest) (fun sig h => hn.trans (hlen sig h)) hstack hW (by rw [hb]; exact hdg)
    (fun vm₁ hW₁ => ⟨hf.1, hf.2, hPc (T.setVm vm₁) hT hW₁⟩) with ⟨v, vm₁, ⟨U', l2, c2, s2⟩, hW₁, X', ⟨g', mk, t, L, e1, e2, hq, h1, hL, h2, h3⟩, st⟩ | ⟨q, vm₁, ⟨U', l2, c2, s2⟩, hW₁, X', ⟨g', mk, t, L, E, ce, e1, e2, hq, hce, hcv, hcl, h1, hL, h2, h3⟩, st⟩
  · dsimp only [Pt.U, Pt.locs, Pt.cells, Pt.slots] at X' e1 e2 h1 h2 h3 st
    subst h1; subst h2; subst h3
    exact Or.inl ⟨v, (T.setVm vm₁).calling g' mk (Value.ref b :: As).toArray, t, U', L, hT, X', hL, e1, e2, hq, st⟩
  · dsimp only [Pt.U, Pt.locs, Pt.cells, Pt.slots] at X' e1 e2 h1 h2 h3 st hcl
    subst h1; subst h2; subst h3
    exact Or.inr ⟨q, (T.setVm vm₁).calling g' mk (Value.ref b :: As).toArray, t, U', L, E, ce, hT, X', hL, e1, e2, hq, hce, hcv, vx_cls hW₁ hcl, st⟩
theorem vx_runSX {hh : List (Nat × Nat × Nat × Nat)} (S : CallFix p m c cc nL s args Ts own) (hM : vx_Met l y ws rm Pc Qc XC mc ms free) (cw : vx_CSW R s args own index y bytes maxL ret hh ws rm mc ms n) (hp : PreS s H Pc As)
    (hg : g.method = m) (hn : As.length = n) (hsize : g.locals.size = nL) (hstack : g.stack = As.reverse ++ rest) (hW : 2 * g.monitorRoom + (rest.map fun v => v.category).sum ≤ 8) (hdg : decode cc g.pc = .ok (.invokestatic index, 3)) (hf : cells + mc ≤ R.cells ∧ slots + ms ≤ R.slots) :
    vx_Run p l e R s m args below meth c H locs cells slots mc ms g rest (Qc As.toArray) XC free := by
  obtain ⟨⟨hrc, hrs, hfr, hlo, hws, hcw⟩, hcode, hini, hy, hlen, hl, hstt⟩ := cw
  have hK : vx_Back l R p e below s args y 3 8 (PreOf R mc ms Pc) (PostOf Qc mc ms free) (vx_Post XC mc ms free) := vx_backW (hh := hh) (bytes := bytes) (maxL := maxL) (ret := ret) hM hp.1 hrc hrs hfr hlo hws hcw (fun a' U hW => word_at hW (Or.inl (by first | rfl | simp [Cond.onTables, Cond.keeps, Cond.steady])) hini)
  obtain ⟨hx, hb, hml, ho, -⟩ := S
  intro T hT X
  rcases vx_callSX X hx (hh := hh) (bytes := bytes) (maxL := maxL) (ret := ret) ho hl hstt hini hcode hy hK hg (hsize.trans hml.symm) (argsL := As) (rest := rest) (fun sig h => hn.trans (hlen sig h)) hstack hW (by rw [hb]; exact hdg)
    (fun vm₁ hW₁ => ⟨hf.1, hf.2, hp.2 (T.setVm vm₁) hT hW₁⟩) with ⟨v, vm₁, ⟨U', l2, c2, s2⟩, hW₁, X', ⟨g', mk, t, L, e1, e2, hq, h1, hL, h2, h3⟩, st⟩ | ⟨q, vm₁, ⟨U', l2, c2, s2⟩, hW₁, X', ⟨g', mk, t, L, E, ce, e1, e2, hq, hce, hcv, hcl, h1, hL, h2, h3⟩, st⟩
  · dsimp only [Pt.U, Pt.locs, Pt.cells, Pt.slots] at X' e1 e2 h1 h2 h3 st
    subst h1; subst h2; subst h3
    exact Or.inl ⟨v, (T.setVm vm₁).calling g' mk As.toArray, t, U', L, hT, X', hL, e1, e2, hq, st⟩
  · dsimp only [Pt.U, Pt.locs, Pt.cells, Pt.slots] at X' e1 e2 h1 h2 h3 st hcl
    subst h1; subst h2; subst h3
    exact Or.inr ⟨q, (T.setVm vm₁).calling g' mk As.toArray, t, U', L, E, ce, hT, X', hL, e1, e2, hq, hce, hcv, vx_cls hW₁ hcl, st⟩
end
end VXH
theorem vx_ofWH {l : Launch} {y : MethodName} {ws ws' : List Cond} {rm : Room} {Pc : Array Value → State → Prop} {Qc : Array Value → State → Outcome → State → Prop} {XC : String → State → State → Prop} {mc ms : Nat} {free : Addr → Prop} {cc : ByteArray} {maxL : Nat} {ret : Option FieldType} {hh : List (Nat × Nat × Nat × Nat)}
    (hy : plainName y.cls = true) (hw : ws = Cond.codeWith y cc maxL ret hh :: ws')
    (body : ∀ p e s m args below meth c s₁, BodyLoose p l y (headSpec ws rm) cc maxL ret e s m args below meth c s₁ → c.maxLocals = maxL → Pc args s →
      W p l e (headSpec ws rm).room s m args below meth c s.heap [] 0 0 (vx_MQ below Qc XC args s mc ms free) (entryFrame m args maxL)) : vx_Met l y ws rm Pc Qc XC mc ms free := by
  refine MetFree.of_bodyS (code := cc) (maxLocals := maxL) (ret := ret) hy ?_ ?_
  · intro args s m h hn
    obtain ⟨m9, meth, c, hn9, h1, h2, h3, h4, -, h5, h6, -⟩ := Cond.codeWith_spec (atoms_spec (ws := ws) h _ (by rw [hw]; exact List.mem_cons_self))
    cases hn.symm.trans hn9
    exact ⟨meth, c, h1, h2, h3, h4, h5, h6⟩
  · intro p e s m args below meth c s₁ B hml hP _
    have hh0 : s₁.heap = s.heap := by rw [B.state]; rfl
    obtain ⟨t, a1, o, b1, b2, b3⟩ := body p e s m args below meth c s₁ B hml hP s₁ hh0 (Stand.of_body B)
    exact ⟨t, o, a1, b1, b2, b3⟩
/-! ===== END ===== -/
end
section
def RX0 : String := "PalletGram$Chains"
def TX0 : u_T := fun k => match k with
  | 0 => ("PalletGram$Chains", "lengths", "[I", true)
  | 1 => ("PalletGram$Chains", "numbers", "[I", true)
  | 2 => ("PalletGram$Chains", "proofs", "[I", true)
  | 3 => ("PalletGram$Chains", "copies", "[I", true)
  | _ => ("PalletGram$Chains", "amountsMade", "[I", true)
def tyX0 : Nat → FieldType := fun k => match k with
  | 0 => .array .int
  | 1 => .array .int
  | 2 => .array .int
  | 3 => .array .int
  | _ => .array .int
abbrev wsX00 : List Cond := u_ws RX0 TX0 5
theorem nmX0 : ∀ a, a < 5 → ∀ b, b < 5 → a ≠ b → (TX0 a).2.1 ≠ (TX0 b).2.1 := by decide +kernel
theorem tyX0_ok : ∀ k, k < 5 → parseFieldDescriptor (TX0 k).2.2.1 = some (tyX0 k) := by decide +kernel
abbrev cX0_init : ByteArray := prog_2_method_1_code
def yX0_init : MethodName := ⟨RX0, "<init>", "()V"⟩
abbrev cX0_length : ByteArray := prog_2_method_2_code
def yX0_length : MethodName := ⟨RX0, "length", "(I)I"⟩
abbrev cX0_has : ByteArray := prog_2_method_3_code
def yX0_has : MethodName := ⟨RX0, "has", "(II)Z"⟩
abbrev cX0_hasRoom : ByteArray := prog_2_method_4_code
def yX0_hasRoom : MethodName := ⟨RX0, "hasRoom", "(I)Z"⟩
abbrev cX0_lastKind : ByteArray := prog_2_method_5_code
def yX0_lastKind : MethodName := ⟨RX0, "lastKind", "(I)I"⟩
abbrev cX0_number : ByteArray := prog_2_method_6_code
def yX0_number : MethodName := ⟨RX0, "number", "(III)I"⟩
abbrev cX0_proof : ByteArray := prog_2_method_7_code
def yX0_proof : MethodName := ⟨RX0, "proof", "(II)I"⟩
abbrev cX0_copies : ByteArray := prog_2_method_8_code
def yX0_copies : MethodName := ⟨RX0, "copies", "(II)I"⟩
abbrev cX0_add : ByteArray := prog_2_method_9_code
def yX0_add : MethodName := ⟨RX0, "add", "(IIIIIII)V"⟩
abbrev cX0_putAmount : ByteArray := prog_2_method_10_code
def yX0_putAmount : MethodName := ⟨RX0, "putAmount", "(III)V"⟩
abbrev cX0_putAmountBack : ByteArray := prog_2_method_11_code
def yX0_putAmountBack : MethodName := ⟨RX0, "putAmountBack", "(II)V"⟩
abbrev cX0_dropCopies : ByteArray := prog_2_method_12_code
def yX0_dropCopies : MethodName := ⟨RX0, "dropCopies", "(I)I"⟩
abbrev cX0_isBroken : ByteArray := prog_2_method_13_code
def yX0_isBroken : MethodName := ⟨RX0, "isBroken", "(II)Z"⟩
abbrev cX0_firstBroken : ByteArray := prog_2_method_14_code
def yX0_firstBroken : MethodName := ⟨RX0, "firstBroken", "(I)I"⟩
abbrev cX0_reach : ByteArray := prog_2_method_15_code
def yX0_reach : MethodName := ⟨RX0, "reach", "(IZ)I"⟩
abbrev cX0_toldByOwnEntries : ByteArray := prog_2_method_16_code
def yX0_toldByOwnEntries : MethodName := ⟨RX0, "toldByOwnEntries", "(II)I"⟩
abbrev cX0_row : ByteArray := prog_2_method_17_code
def yX0_row : MethodName := ⟨RX0, "row", "(II)I"⟩
abbrev cX0_proofMade : ByteArray := prog_2_method_18_code
def yX0_proofMade : MethodName := ⟨RX0, "proofMade", "(II)I"⟩
abbrev cX0_witnesses : ByteArray := prog_2_method_19_code
def yX0_witnesses : MethodName := ⟨RX0, "witnesses", "(III)I"⟩
abbrev cX0_toldPallets : ByteArray := prog_2_method_20_code
def yX0_toldPallets : MethodName := ⟨RX0, "toldPallets", "(IZ)I"⟩
abbrev cX0_sign : ByteArray := prog_2_method_21_code
def yX0_sign : MethodName := ⟨RX0, "sign", "(I)I"⟩
def RX1 : String := "PalletGram"
def TX1 : u_T := fun k => match k with
  | 0 => ("PalletGram", "chains", "LPalletGram$Chains;", true)
  | 1 => ("PalletGram", "holders", "[I", true)
  | 2 => ("PalletGram", "goods", "[I", true)
  | 3 => ("PalletGram", "declared", "[I", true)
  | 4 => ("PalletGram", "fees", "[I", true)
  | 5 => ("PalletGram", "debts", "[I", true)
  | _ => ("PalletGram", "pallets", "I", false)
def tyX1 : Nat → FieldType := fun k => match k with
  | 0 => .object "PalletGram$Chains"
  | 1 => .array .int
  | 2 => .array .int
  | 3 => .array .int
  | 4 => .array .int
  | 5 => .array .int
  | _ => .int
abbrev wsX10 : List Cond := u_ws RX1 TX1 7
theorem nmX1 : ∀ a, a < 7 → ∀ b, b < 7 → a ≠ b → (TX1 a).2.1 ≠ (TX1 b).2.1 := by decide +kernel
theorem tyX1_ok : ∀ k, k < 7 → parseFieldDescriptor (TX1 k).2.2.1 = some (tyX1 k) := by decide +kernel
abbrev cX1_init : ByteArray := prog_1_method_1_code
def yX1_init : MethodName := ⟨RX1, "<init>", "()V"⟩
abbrev cX1_make : ByteArray := prog_1_method_2_code
def yX1_make : MethodName := ⟨RX1, "make", "(I)I"⟩
abbrev cX1_load : ByteArray := prog_1_method_3_code
def yX1_load : MethodName := ⟨RX1, "load", "(III)I"⟩
abbrev cX1_part : ByteArray := prog_1_method_4_code
def yX1_part : MethodName := ⟨RX1, "part", "(III)I"⟩
abbrev cX1_join : ByteArray := prog_1_method_5_code
def yX1_join : MethodName := ⟨RX1, "join", "(II)I"⟩
abbrev cX1_move : ByteArray := prog_1_method_6_code
def yX1_move : MethodName := ⟨RX1, "move", "(II)I"⟩
abbrev cX1_hold : ByteArray := prog_1_method_7_code
def yX1_hold : MethodName := ⟨RX1, "hold", "(I)Z"⟩
abbrev cX1_spoil : ByteArray := prog_1_method_8_code
def yX1_spoil : MethodName := ⟨RX1, "spoil", "(III)I"⟩
abbrev cX1_lose : ByteArray := prog_1_method_9_code
def yX1_lose : MethodName := ⟨RX1, "lose", "(I)I"⟩
abbrev cX1_repair : ByteArray := prog_1_method_10_code
def yX1_repair : MethodName := ⟨RX1, "repair", "(II)I"⟩
abbrev cX1_broken : ByteArray := prog_1_method_11_code
def yX1_broken : MethodName := ⟨RX1, "broken", "(I)I"⟩
abbrev cX1_isSound : ByteArray := prog_1_method_12_code
def yX1_isSound : MethodName := ⟨RX1, "isSound", "(I)Z"⟩
abbrev cX1_pallet : ByteArray := prog_1_method_13_code
def yX1_pallet : MethodName := ⟨RX1, "pallet", "(II)I"⟩
abbrev cX1_entry : ByteArray := prog_1_method_14_code
def yX1_entry : MethodName := ⟨RX1, "entry", "(III)I"⟩
abbrev cX1_contents : ByteArray := prog_1_method_15_code
def yX1_contents : MethodName := ⟨RX1, "contents", "(II)I"⟩
abbrev cX1_contentsAnew : ByteArray := prog_1_method_16_code
def yX1_contentsAnew : MethodName := ⟨RX1, "contentsAnew", "(II)I"⟩
abbrev cX1_declare : ByteArray := prog_1_method_17_code
def yX1_declare : MethodName := ⟨RX1, "declare", "(III)I"⟩
abbrev cX1_mismatch : ByteArray := prog_1_method_18_code
def yX1_mismatch : MethodName := ⟨RX1, "mismatch", "(I)I"⟩
abbrev cX1_fee : ByteArray := prog_1_method_19_code
def yX1_fee : MethodName := ⟨RX1, "fee", "(II)I"⟩
abbrev cX1_owed : ByteArray := prog_1_method_20_code
def yX1_owed : MethodName := ⟨RX1, "owed", "(I)I"⟩
abbrev cX1_needThere : ByteArray := prog_1_method_21_code
def yX1_needThere : MethodName := ⟨RX1, "needThere", "(Z)V"⟩
abbrev cX1_needRange : ByteArray := prog_1_method_22_code
def yX1_needRange : MethodName := ⟨RX1, "needRange", "(Z)V"⟩
abbrev cX1_needState : ByteArray := prog_1_method_23_code
def yX1_needState : MethodName := ⟨RX1, "needState", "(Z)V"⟩
abbrev cX1_isWithin : ByteArray := prog_1_method_24_code
def yX1_isWithin : MethodName := ⟨RX1, "isWithin", "(III)Z"⟩
abbrev cX1_isPallet : ByteArray := prog_1_method_25_code
def yX1_isPallet : MethodName := ⟨RX1, "isPallet", "(I)Z"⟩
abbrev cX1_isGood : ByteArray := prog_1_method_26_code
def yX1_isGood : MethodName := ⟨RX1, "isGood", "(I)Z"⟩
abbrev cX1_isDock : ByteArray := prog_1_method_27_code
def yX1_isDock : MethodName := ⟨RX1, "isDock", "(I)Z"⟩
abbrev cX1_isTruck : ByteArray := prog_1_method_28_code
def yX1_isTruck : MethodName := ⟨RX1, "isTruck", "(I)Z"⟩
abbrev cX1_isHolder : ByteArray := prog_1_method_29_code
def yX1_isHolder : MethodName := ⟨RX1, "isHolder", "(I)Z"⟩
abbrev cX1_isOwer : ByteArray := prog_1_method_30_code
def yX1_isOwer : MethodName := ⟨RX1, "isOwer", "(I)Z"⟩
abbrev cX1_stand : ByteArray := prog_1_method_31_code
def yX1_stand : MethodName := ⟨RX1, "stand", "(I)I"⟩
abbrev cX1_write : ByteArray := prog_1_method_32_code
def yX1_write : MethodName := ⟨RX1, "write", "(IIIIII)V"⟩
abbrev cX1_isHeld : ByteArray := prog_1_method_33_code
def yX1_isHeld : MethodName := ⟨RX1, "isHeld", "(I)Z"⟩
abbrev cX1_isGone : ByteArray := prog_1_method_34_code
def yX1_isGone : MethodName := ⟨RX1, "isGone", "(I)Z"⟩
abbrev cX1_isWorkable : ByteArray := prog_1_method_35_code
def yX1_isWorkable : MethodName := ⟨RX1, "isWorkable", "(I)Z"⟩
abbrev cX1_allAreUnbroken : ByteArray := prog_1_method_36_code
def yX1_allAreUnbroken : MethodName := ⟨RX1, "allAreUnbroken", "(I)Z"⟩
abbrev cX1_canComeTogether : ByteArray := prog_1_method_37_code
def yX1_canComeTogether : MethodName := ⟨RX1, "canComeTogether", "(II)Z"⟩
abbrev cX1_weightOfOne : ByteArray := prog_1_method_38_code
def yX1_weightOfOne : MethodName := ⟨RX1, "weightOfOne", "(I)I"⟩
abbrev cX1_weightOf : ByteArray := prog_1_method_39_code
def yX1_weightOf : MethodName := ⟨RX1, "weightOf", "(I)I"⟩
abbrev cX1_hasRoom : ByteArray := prog_1_method_40_code
def yX1_hasRoom : MethodName := ⟨RX1, "hasRoom", "(II)Z"⟩
abbrev cX1_toldByPapers : ByteArray := prog_1_method_41_code
def yX1_toldByPapers : MethodName := ⟨RX1, "toldByPapers", "(II)I"⟩
abbrev cX1_toldOfTruck : ByteArray := prog_1_method_42_code
def yX1_toldOfTruck : MethodName := ⟨RX1, "toldOfTruck", "(II)I"⟩
abbrev cX1_isIn : ByteArray := prog_1_method_43_code
def yX1_isIn : MethodName := ⟨RX1, "isIn", "(II)Z"⟩
abbrev cX1_lowestOf : ByteArray := prog_1_method_44_code
def yX1_lowestOf : MethodName := ⟨RX1, "lowestOf", "(I)I"⟩
def RX2 : String := "PalletGramModel"
def TX2 : u_T := fun k => match k with
  | 0 => ("PalletGramModel", "thrown", "I", false)
  | 1 => ("PalletGramModel", "holder", "[I", true)
  | 2 => ("PalletGramModel", "goods", "[I", true)
  | 3 => ("PalletGramModel", "many", "[I", true)
  | 4 => ("PalletGramModel", "isHeld", "[Z", true)
  | 5 => ("PalletGramModel", "isGone", "[Z", true)
  | 6 => ("PalletGramModel", "pallets", "I", false)
  | 7 => ("PalletGramModel", "went", "[I", true)
  | 8 => ("PalletGramModel", "goers", "I", false)
  | 9 => ("PalletGramModel", "kind", "[I", true)
  | 10 => ("PalletGramModel", "maker", "[I", true)
  | 11 => ("PalletGramModel", "good", "[I", true)
  | 12 => ("PalletGramModel", "amount", "[I", true)
  | 13 => ("PalletGramModel", "other", "[I", true)
  | 14 => ("PalletGramModel", "its", "[I", true)
  | 15 => ("PalletGramModel", "was", "[I", true)
  | 16 => ("PalletGramModel", "proof", "[I", true)
  | 17 => ("PalletGramModel", "copies", "[I", true)
  | 18 => ("PalletGramModel", "declared", "[I", true)
  | 19 => ("PalletGramModel", "fee", "[I", true)
  | 20 => ("PalletGramModel", "owed", "[I", true)
  | _ => ("PalletGramModel", "told", "[I", true)
def tyX2 : Nat → FieldType := fun k => match k with
  | 0 => .int
  | 1 => .array .int
  | 2 => .array .int
  | 3 => .array .int
  | 4 => .array .boolean
  | 5 => .array .boolean
  | 6 => .int
  | 7 => .array .int
  | 8 => .int
  | 9 => .array .int
  | 10 => .array .int
  | 11 => .array .int
  | 12 => .array .int
  | 13 => .array .int
  | 14 => .array .int
  | 15 => .array .int
  | 16 => .array .int
  | 17 => .array .int
  | 18 => .array .int
  | 19 => .array .int
  | 20 => .array .int
  | _ => .array .int
abbrev wsX20 : List Cond := u_ws RX2 TX2 22
theorem nmX2 : ∀ a, a < 22 → ∀ b, b < 22 → a ≠ b → (TX2 a).2.1 ≠ (TX2 b).2.1 := by decide +kernel
theorem tyX2_ok : ∀ k, k < 22 → parseFieldDescriptor (TX2 k).2.2.1 = some (tyX2 k) := by decide +kernel
abbrev cX2_init : ByteArray := prog_4_method_1_code
def yX2_init : MethodName := ⟨RX2, "<init>", "()V"⟩
abbrev cX2_thrown : ByteArray := prog_4_method_2_code
def yX2_thrown : MethodName := ⟨RX2, "thrown", "()I"⟩
abbrev cX2_holds : ByteArray := prog_4_method_3_code
def yX2_holds : MethodName := ⟨RX2, "holds", "(I)Z"⟩
abbrev cX2_isIn : ByteArray := prog_4_method_4_code
def yX2_isIn : MethodName := ⟨RX2, "isIn", "(III)Z"⟩
abbrev cX2_isPallet : ByteArray := prog_4_method_5_code
def yX2_isPallet : MethodName := ⟨RX2, "isPallet", "(I)Z"⟩
abbrev cX2_isGood : ByteArray := prog_4_method_6_code
def yX2_isGood : MethodName := ⟨RX2, "isGood", "(I)Z"⟩
abbrev cX2_isEntry : ByteArray := prog_4_method_7_code
def yX2_isEntry : MethodName := ⟨RX2, "isEntry", "(II)Z"⟩
abbrev cX2_proofOf : ByteArray := prog_4_method_8_code
def yX2_proofOf : MethodName := ⟨RX2, "proofOf", "(II)I"⟩
abbrev cX2_writes : ByteArray := prog_4_method_9_code
def yX2_writes : MethodName := ⟨RX2, "writes", "(IIIIII)V"⟩
abbrev cX2_isBroken : ByteArray := prog_4_method_10_code
def yX2_isBroken : MethodName := ⟨RX2, "isBroken", "(II)Z"⟩
abbrev cX2_firstBroken : ByteArray := prog_4_method_11_code
def yX2_firstBroken : MethodName := ⟨RX2, "firstBroken", "(I)I"⟩
abbrev cX2_sound : ByteArray := prog_4_method_12_code
def yX2_sound : MethodName := ⟨RX2, "sound", "(I)Z"⟩
abbrev cX2_canWork : ByteArray := prog_4_method_13_code
def yX2_canWork : MethodName := ⟨RX2, "canWork", "(I)Z"⟩
abbrev cX2_weight : ByteArray := prog_4_method_14_code
def yX2_weight : MethodName := ⟨RX2, "weight", "(I)I"⟩
abbrev cX2_hasRoom : ByteArray := prog_4_method_15_code
def yX2_hasRoom : MethodName := ⟨RX2, "hasRoom", "(II)Z"⟩
abbrev cX2_makes : ByteArray := prog_4_method_16_code
def yX2_makes : MethodName := ⟨RX2, "makes", "(I)I"⟩
abbrev cX2_make : ByteArray := prog_4_method_17_code
def yX2_make : MethodName := ⟨RX2, "make", "(I)I"⟩
abbrev cX2_canLoad : ByteArray := prog_4_method_18_code
def yX2_canLoad : MethodName := ⟨RX2, "canLoad", "(III)Z"⟩
abbrev cX2_load : ByteArray := prog_4_method_19_code
def yX2_load : MethodName := ⟨RX2, "load", "(III)I"⟩
abbrev cX2_part : ByteArray := prog_4_method_20_code
def yX2_part : MethodName := ⟨RX2, "part", "(III)I"⟩
abbrev cX2_canJoin : ByteArray := prog_4_method_21_code
def yX2_canJoin : MethodName := ⟨RX2, "canJoin", "(II)Z"⟩
abbrev cX2_join : ByteArray := prog_4_method_22_code
def yX2_join : MethodName := ⟨RX2, "join", "(II)I"⟩
abbrev cX2_move : ByteArray := prog_4_method_23_code
def yX2_move : MethodName := ⟨RX2, "move", "(II)I"⟩
abbrev cX2_hold : ByteArray := prog_4_method_24_code
def yX2_hold : MethodName := ⟨RX2, "hold", "(I)Z"⟩
abbrev cX2_spoil : ByteArray := prog_4_method_25_code
def yX2_spoil : MethodName := ⟨RX2, "spoil", "(III)I"⟩
abbrev cX2_lose : ByteArray := prog_4_method_26_code
def yX2_lose : MethodName := ⟨RX2, "lose", "(I)I"⟩
abbrev cX2_repair : ByteArray := prog_4_method_27_code
def yX2_repair : MethodName := ⟨RX2, "repair", "(II)I"⟩
abbrev cX2_broken : ByteArray := prog_4_method_28_code
def yX2_broken : MethodName := ⟨RX2, "broken", "(I)I"⟩
abbrev cX2_isSound : ByteArray := prog_4_method_29_code
def yX2_isSound : MethodName := ⟨RX2, "isSound", "(I)Z"⟩
abbrev cX2_pallet : ByteArray := prog_4_method_30_code
def yX2_pallet : MethodName := ⟨RX2, "pallet", "(II)I"⟩
abbrev cX2_entry : ByteArray := prog_4_method_31_code
def yX2_entry : MethodName := ⟨RX2, "entry", "(III)I"⟩
abbrev cX2_contents : ByteArray := prog_4_method_32_code
def yX2_contents : MethodName := ⟨RX2, "contents", "(II)I"⟩
abbrev cX2_papers : ByteArray := prog_4_method_33_code
def yX2_papers : MethodName := ⟨RX2, "papers", "(II)I"⟩
abbrev cX2_tells : ByteArray := prog_4_method_34_code
def yX2_tells : MethodName := ⟨RX2, "tells", "(I)V"⟩
abbrev cX2_anew : ByteArray := prog_4_method_35_code
def yX2_anew : MethodName := ⟨RX2, "anew", "(II)I"⟩
abbrev cX2_contentsAnew : ByteArray := prog_4_method_36_code
def yX2_contentsAnew : MethodName := ⟨RX2, "contentsAnew", "(II)I"⟩
abbrev cX2_isTruck : ByteArray := prog_4_method_37_code
def yX2_isTruck : MethodName := ⟨RX2, "isTruck", "(I)Z"⟩
abbrev cX2_declare : ByteArray := prog_4_method_38_code
def yX2_declare : MethodName := ⟨RX2, "declare", "(III)I"⟩
abbrev cX2_mismatchOf : ByteArray := prog_4_method_39_code
def yX2_mismatchOf : MethodName := ⟨RX2, "mismatchOf", "(I)I"⟩
abbrev cX2_mismatch : ByteArray := prog_4_method_40_code
def yX2_mismatch : MethodName := ⟨RX2, "mismatch", "(I)I"⟩
abbrev cX2_fee : ByteArray := prog_4_method_41_code
def yX2_fee : MethodName := ⟨RX2, "fee", "(II)I"⟩
abbrev cX2_owed : ByteArray := prog_4_method_42_code
def yX2_owed : MethodName := ⟨RX2, "owed", "(I)I"⟩
def RJ9 : String := "java/lang/Math"
def TJ9 : u_T := fun k => match k with
  | _ => ("", "", "", false)
def tyJ9 : Nat → FieldType := fun k => match k with
  | _ => .int
abbrev wsJ90 : List Cond := u_ws RJ9 TJ9 0
theorem nmJ9 : ∀ a, a < 0 → ∀ b, b < 0 → a ≠ b → (TJ9 a).2.1 ≠ (TJ9 b).2.1 := by decide +kernel
theorem tyJ9_ok : ∀ k, k < 0 → parseFieldDescriptor (TJ9 k).2.2.1 = some (tyJ9 k) := by decide +kernel
abbrev cJ9_abs_0f7a4 : ByteArray := prog_9_method_59_code
def yJ9_abs_0f7a4 : MethodName := ⟨RJ9, "abs", "(I)I"⟩
def RJ0 : String := "java/lang/String"
def TJ0 : u_T := fun k => match k with
  | _ => ("", "", "", false)
def tyJ0 : Nat → FieldType := fun k => match k with
  | _ => .int
abbrev wsJ00 : List Cond := u_ws RJ0 TJ0 0
theorem nmJ0 : ∀ a, a < 0 → ∀ b, b < 0 → a ≠ b → (TJ0 a).2.1 ≠ (TJ0 b).2.1 := by decide +kernel
theorem tyJ0_ok : ∀ k, k < 0 → parseFieldDescriptor (TJ0 k).2.2.1 = some (tyJ0 k) := by decide +kernel
def RL : String := "PalletGramLaw"
abbrev cL_make : ByteArray := method_3_code
def yL_make : MethodName := ⟨RL, "make", "(LPalletGram;I[J)I"⟩
abbrev cL_load : ByteArray := method_4_code
def yL_load : MethodName := ⟨RL, "load", "(LPalletGram;III[J)I"⟩
abbrev cL_part : ByteArray := method_5_code
def yL_part : MethodName := ⟨RL, "part", "(LPalletGram;III[J)I"⟩
abbrev cL_join : ByteArray := method_6_code
def yL_join : MethodName := ⟨RL, "join", "(LPalletGram;II[J)I"⟩
abbrev cL_move : ByteArray := method_7_code
def yL_move : MethodName := ⟨RL, "move", "(LPalletGram;II[J)I"⟩
abbrev cL_hold : ByteArray := method_8_code
def yL_hold : MethodName := ⟨RL, "hold", "(LPalletGram;I[J)I"⟩
abbrev cL_spoil : ByteArray := method_9_code
def yL_spoil : MethodName := ⟨RL, "spoil", "(LPalletGram;III[J)I"⟩
abbrev cL_lose : ByteArray := method_10_code
def yL_lose : MethodName := ⟨RL, "lose", "(LPalletGram;I[J)I"⟩
abbrev cL_repair : ByteArray := method_11_code
def yL_repair : MethodName := ⟨RL, "repair", "(LPalletGram;II[J)I"⟩
abbrev cL_broken : ByteArray := method_12_code
def yL_broken : MethodName := ⟨RL, "broken", "(LPalletGram;I[J)I"⟩
abbrev cL_isSound : ByteArray := method_13_code
def yL_isSound : MethodName := ⟨RL, "isSound", "(LPalletGram;I[J)I"⟩
abbrev cL_pallet : ByteArray := method_14_code
def yL_pallet : MethodName := ⟨RL, "pallet", "(LPalletGram;II[J)I"⟩
abbrev cL_entry : ByteArray := method_15_code
def yL_entry : MethodName := ⟨RL, "entry", "(LPalletGram;III[J)I"⟩
abbrev cL_contents : ByteArray := method_16_code
def yL_contents : MethodName := ⟨RL, "contents", "(LPalletGram;II[J)I"⟩
abbrev cL_contentsAnew : ByteArray := method_17_code
def yL_contentsAnew : MethodName := ⟨RL, "contentsAnew", "(LPalletGram;II[J)I"⟩
abbrev cL_declare : ByteArray := method_18_code
def yL_declare : MethodName := ⟨RL, "declare", "(LPalletGram;III[J)I"⟩
abbrev cL_mismatch : ByteArray := method_19_code
def yL_mismatch : MethodName := ⟨RL, "mismatch", "(LPalletGram;I[J)I"⟩
abbrev cL_fee : ByteArray := method_20_code
def yL_fee : MethodName := ⟨RL, "fee", "(LPalletGram;II[J)I"⟩
abbrev cL_owed : ByteArray := method_21_code
def yL_owed : MethodName := ⟨RL, "owed", "(LPalletGram;I[J)I"⟩
abbrev cL_law : ByteArray := code
def yL_law : MethodName := ⟨RL, "law", "([I)Z"⟩
def wsX0_init : List Cond := .code yX0_init cX0_init 1 none :: ([.methodLink RX0 3 objectInit, .instanceMethod objectInit, .code objectInit ⟨#[0xb1]⟩ 1 none, .arrayClass .int, .fieldLink RX0 9 "PalletGram$Chains" "lengths" "[I", .fieldLink RX0 15 "PalletGram$Chains" "numbers" "[I", .fieldLink RX0 18 "PalletGram$Chains" "proofs" "[I", .fieldLink RX0 21 "PalletGram$Chains" "copies" "[I", .fieldLink RX0 24 "PalletGram$Chains" "amountsMade" "[I"] ++ wsX00)
def wsX0_length : List Cond := .code yX0_length cX0_length 2 (some .int) :: ([.fieldLink RX0 9 "PalletGram$Chains" "lengths" "[I"] ++ wsX00)
def wsX0_has : List Cond := .code yX0_has cX0_has 3 (some .boolean) :: ([.fieldLink RX0 9 "PalletGram$Chains" "lengths" "[I"] ++ wsX00)
def wsX0_hasRoom : List Cond := .code yX0_hasRoom cX0_hasRoom 2 (some .boolean) :: ([.fieldLink RX0 9 "PalletGram$Chains" "lengths" "[I"] ++ wsX00)
def wsX0_row : List Cond := .code yX0_row cX0_row 2 (some .int) :: ([])
def wsX0_number : List Cond := .code yX0_number cX0_number 4 (some .int) :: ([.fieldLink RX0 15 "PalletGram$Chains" "numbers" "[I", .methodLink RX0 31 yX0_row, .static yX0_row, .initialized RX0, .code yX0_row cX0_row 2 (some .int)] ++ wsX00)
def wsX0_lastKind : List Cond := .code yX0_lastKind cX0_lastKind 3 (some .int) :: ([.fieldLink RX0 9 "PalletGram$Chains" "lengths" "[I", .methodLink RX0 27 yX0_number, .instanceMethod yX0_number, .selects RX0 yX0_number yX0_number, .initialized RX0, .code yX0_number cX0_number 4 (some .int), .fieldLink RX0 15 "PalletGram$Chains" "numbers" "[I", .methodLink RX0 31 yX0_row, .static yX0_row, .code yX0_row cX0_row 2 (some .int)] ++ wsX00)
def wsX0_proof : List Cond := .code yX0_proof cX0_proof 3 (some .int) :: ([.fieldLink RX0 18 "PalletGram$Chains" "proofs" "[I", .methodLink RX0 31 yX0_row, .static yX0_row, .initialized RX0, .code yX0_row cX0_row 2 (some .int)] ++ wsX00)
def wsX0_copies : List Cond := .code yX0_copies cX0_copies 3 (some .int) :: ([.fieldLink RX0 21 "PalletGram$Chains" "copies" "[I", .methodLink RX0 31 yX0_row, .static yX0_row, .initialized RX0, .code yX0_row cX0_row 2 (some .int)] ++ wsX00)
def wsX0_proofMade : List Cond := .code yX0_proofMade cX0_proofMade 6 (some .int) :: ([.fieldLink RX0 18 "PalletGram$Chains" "proofs" "[I", .fieldLink RX0 15 "PalletGram$Chains" "numbers" "[I", .methodLink RX0 31 yX0_row, .static yX0_row, .initialized RX0, .code yX0_row cX0_row 2 (some .int)] ++ wsX00)
def wsX0_witnesses : List Cond := .code yX0_witnesses cX0_witnesses 4 (some .int) :: ([])
def wsX0_add : List Cond := .code yX0_add cX0_add 10 none :: ([.fieldLink RX0 9 "PalletGram$Chains" "lengths" "[I", .fieldLink RX0 15 "PalletGram$Chains" "numbers" "[I", .fieldLink RX0 18 "PalletGram$Chains" "proofs" "[I", .fieldLink RX0 21 "PalletGram$Chains" "copies" "[I", .fieldLink RX0 24 "PalletGram$Chains" "amountsMade" "[I", .methodLink RX0 31 yX0_row, .static yX0_row, .initialized RX0, .code yX0_row cX0_row 2 (some .int), .methodLink RX0 35 yX0_proofMade, .instanceMethod yX0_proofMade, .selects RX0 yX0_proofMade yX0_proofMade, .code yX0_proofMade cX0_proofMade 6 (some .int), .methodLink RX0 38 yX0_witnesses, .static yX0_witnesses, .code yX0_witnesses cX0_witnesses 4 (some .int)] ++ wsX00)
def wsX0_putAmount : List Cond := .code yX0_putAmount cX0_putAmount 4 none :: ([.fieldLink RX0 15 "PalletGram$Chains" "numbers" "[I", .methodLink RX0 31 yX0_row, .static yX0_row, .initialized RX0, .code yX0_row cX0_row 2 (some .int)] ++ wsX00)
def wsX0_putAmountBack : List Cond := .code yX0_putAmountBack cX0_putAmountBack 3 none :: ([.fieldLink RX0 24 "PalletGram$Chains" "amountsMade" "[I", .methodLink RX0 31 yX0_row, .static yX0_row, .initialized RX0, .code yX0_row cX0_row 2 (some .int), .methodLink RX0 41 yX0_putAmount, .instanceMethod yX0_putAmount, .selects RX0 yX0_putAmount yX0_putAmount, .code yX0_putAmount cX0_putAmount 4 none, .fieldLink RX0 15 "PalletGram$Chains" "numbers" "[I"] ++ wsX00)
def wsX1_isIn : List Cond := .code yX1_isIn cX1_isIn 2 (some .boolean) :: ([])
def wsX0_dropCopies : List Cond := .code yX0_dropCopies cX0_dropCopies 4 (some .int) :: ([.fieldLink RX0 21 "PalletGram$Chains" "copies" "[I", .static yX1_isIn, .initialized RX1, .code yX1_isIn cX1_isIn 2 (some .boolean)] ++ wsX00)
def wsX0_isBroken : List Cond := .code yX0_isBroken cX0_isBroken 3 (some .boolean) :: ([.methodLink RX0 49 yX0_proof, .instanceMethod yX0_proof, .selects RX0 yX0_proof yX0_proof, .initialized RX0, .code yX0_proof cX0_proof 3 (some .int), .fieldLink RX0 18 "PalletGram$Chains" "proofs" "[I", .methodLink RX0 31 yX0_row, .static yX0_row, .code yX0_row cX0_row 2 (some .int), .methodLink RX0 35 yX0_proofMade, .instanceMethod yX0_proofMade, .selects RX0 yX0_proofMade yX0_proofMade, .code yX0_proofMade cX0_proofMade 6 (some .int), .fieldLink RX0 15 "PalletGram$Chains" "numbers" "[I"] ++ wsX00)
def wsX0_firstBroken : List Cond := .code yX0_firstBroken cX0_firstBroken 3 (some .int) :: ([.fieldLink RX0 9 "PalletGram$Chains" "lengths" "[I", .methodLink RX0 52 yX0_isBroken, .instanceMethod yX0_isBroken, .selects RX0 yX0_isBroken yX0_isBroken, .initialized RX0, .code yX0_isBroken cX0_isBroken 3 (some .boolean), .methodLink RX0 49 yX0_proof, .instanceMethod yX0_proof, .selects RX0 yX0_proof yX0_proof, .code yX0_proof cX0_proof 3 (some .int), .fieldLink RX0 18 "PalletGram$Chains" "proofs" "[I", .methodLink RX0 31 yX0_row, .static yX0_row, .code yX0_row cX0_row 2 (some .int), .methodLink RX0 35 yX0_proofMade, .instanceMethod yX0_proofMade, .selects RX0 yX0_proofMade yX0_proofMade, .code yX0_proofMade cX0_proofMade 6 (some .int), .fieldLink RX0 15 "PalletGram$Chains" "numbers" "[I"] ++ wsX00)
def wsX0_toldPallets : List Cond := .code yX0_toldPallets cX0_toldPallets 6 (some .int) :: ([.fieldLink RX0 9 "PalletGram$Chains" "lengths" "[I", .methodLink RX0 27 yX0_number, .instanceMethod yX0_number, .selects RX0 yX0_number yX0_number, .initialized RX0, .code yX0_number cX0_number 4 (some .int), .fieldLink RX0 15 "PalletGram$Chains" "numbers" "[I", .methodLink RX0 31 yX0_row, .static yX0_row, .code yX0_row cX0_row 2 (some .int)] ++ wsX00)
def wsX0_reach : List Cond := .code yX0_reach cX0_reach 7 (some .int) :: ([.static yX1_isIn, .initialized RX1, .code yX1_isIn cX1_isIn 2 (some .boolean), .methodLink RX0 55 yX0_toldPallets, .instanceMethod yX0_toldPallets, .selects RX0 yX0_toldPallets yX0_toldPallets, .initialized RX0, .code yX0_toldPallets cX0_toldPallets 6 (some .int), .fieldLink RX0 9 "PalletGram$Chains" "lengths" "[I", .methodLink RX0 27 yX0_number, .instanceMethod yX0_number, .selects RX0 yX0_number yX0_number, .code yX0_number cX0_number 4 (some .int), .fieldLink RX0 15 "PalletGram$Chains" "numbers" "[I", .methodLink RX0 31 yX0_row, .static yX0_row, .code yX0_row cX0_row 2 (some .int)] ++ wsX00)
def wsX0_sign : List Cond := .code yX0_sign cX0_sign 1 (some .int) :: ([])
def wsX0_toldByOwnEntries : List Cond := .code yX0_toldByOwnEntries cX0_toldByOwnEntries 5 (some .int) :: ([.fieldLink RX0 9 "PalletGram$Chains" "lengths" "[I", .methodLink RX0 27 yX0_number, .instanceMethod yX0_number, .selects RX0 yX0_number yX0_number, .initialized RX0, .code yX0_number cX0_number 4 (some .int), .fieldLink RX0 15 "PalletGram$Chains" "numbers" "[I", .methodLink RX0 31 yX0_row, .static yX0_row, .code yX0_row cX0_row 2 (some .int), .methodLink RX0 59 yX0_sign, .static yX0_sign, .code yX0_sign cX0_sign 1 (some .int)] ++ wsX00)
def wsX1_init : List Cond := .code yX1_init cX1_init 2 none :: ([.methodLink RX1 1 objectInit, .instanceMethod objectInit, .code objectInit ⟨#[0xb1]⟩ 1 none, .classLink RX1 7 RX0, .instantiable RX0 5, .initialized RX0, .fieldLink RX1 10 "PalletGram" "chains" "LPalletGram$Chains;", .arrayClass .int, .fieldLink RX1 16 "PalletGram" "holders" "[I", .fieldLink RX1 20 "PalletGram" "goods" "[I", .fieldLink RX1 23 "PalletGram" "declared" "[I", .fieldLink RX1 26 "PalletGram" "fees" "[I", .fieldLink RX1 29 "PalletGram" "debts" "[I", .instanceMethod yX0_init, .code yX0_init cX0_init 1 none, .methodLink RX0 3 objectInit, .fieldLink RX0 9 "PalletGram$Chains" "lengths" "[I", .fieldLink RX0 15 "PalletGram$Chains" "numbers" "[I", .fieldLink RX0 18 "PalletGram$Chains" "proofs" "[I", .fieldLink RX0 21 "PalletGram$Chains" "copies" "[I", .fieldLink RX0 24 "PalletGram$Chains" "amountsMade" "[I"] ++ wsX00 ++ wsX10)
def wsX1_isDock : List Cond := .code yX1_isDock cX1_isDock 1 (some .boolean) :: ([])
def wsX1_needThere : List Cond := .code yX1_needThere cX1_needThere 1 none :: ([.classLink RX1 152 "java/lang/IndexOutOfBoundsException", .initialized "java/lang/IndexOutOfBoundsException"] ++ (vx_atS RX1 156 "java/lang/IndexOutOfBoundsException" ["java/lang/RuntimeException", "java/lang/Exception"]).filter goodWord)
def wsX1_needState : List Cond := .code yX1_needState cX1_needState 1 none :: ([.classLink RX1 164 "java/lang/IllegalStateException", .initialized "java/lang/IllegalStateException"] ++ (vx_atS RX1 168 "java/lang/IllegalStateException" ["java/lang/RuntimeException", "java/lang/Exception"]).filter goodWord)
def wsX1_stand : List Cond := .code yX1_stand cX1_stand 3 (some .int) :: ([.fieldLink RX1 40 "PalletGram" "pallets" "I", .fieldLink RX1 16 "PalletGram" "holders" "[I"] ++ wsX10)
def wsX1_write : List Cond := .code yX1_write cX1_write 8 none :: ([.fieldLink RX1 16 "PalletGram" "holders" "[I", .fieldLink RX1 10 "PalletGram" "chains" "LPalletGram$Chains;", .fieldLink RX1 29 "PalletGram" "debts" "[I", .fieldLink RX1 26 "PalletGram" "fees" "[I", .methodLink RX1 169 yX0_add, .instanceMethod yX0_add, .selects RX0 yX0_add yX0_add, .initialized RX0, .code yX0_add cX0_add 10 none, .fieldLink RX0 9 "PalletGram$Chains" "lengths" "[I", .fieldLink RX0 15 "PalletGram$Chains" "numbers" "[I", .fieldLink RX0 18 "PalletGram$Chains" "proofs" "[I", .fieldLink RX0 21 "PalletGram$Chains" "copies" "[I", .fieldLink RX0 24 "PalletGram$Chains" "amountsMade" "[I", .methodLink RX0 31 yX0_row, .static yX0_row, .code yX0_row cX0_row 2 (some .int), .methodLink RX0 35 yX0_proofMade, .instanceMethod yX0_proofMade, .selects RX0 yX0_proofMade yX0_proofMade, .code yX0_proofMade cX0_proofMade 6 (some .int), .methodLink RX0 38 yX0_witnesses, .static yX0_witnesses, .code yX0_witnesses cX0_witnesses 4 (some .int)] ++ wsX10 ++ wsX00)
def wsX1_make_r1 : List Cond := [Cond.fieldLink RX1 40 "PalletGram" "pallets" "I", Cond.methodLink RX1 32 yX1_isDock, Cond.static yX1_isDock, Cond.initialized RX1, Cond.code yX1_isDock cX1_isDock 1 (some .boolean), Cond.methodLink RX1 36 yX1_needThere, Cond.static yX1_needThere, Cond.code yX1_needThere cX1_needThere 1 none, Cond.classLink RX1 152 "java/lang/IndexOutOfBoundsException", Cond.initialized "java/lang/IndexOutOfBoundsException", Cond.methodLink RX1 44 yX1_needState, Cond.static yX1_needState, Cond.code yX1_needState cX1_needState 1 none, Cond.classLink RX1 164 "java/lang/IllegalStateException", Cond.initialized "java/lang/IllegalStateException", Cond.methodLink RX1 47 yX1_stand, Cond.instanceMethod yX1_stand, Cond.selects RX1 yX1_stand yX1_stand, Cond.code yX1_stand cX1_stand 3 (some .int), Cond.fieldLink RX1 16 "PalletGram" "holders" "[I", Cond.methodLink RX1 51 yX1_write, Cond.instanceMethod yX1_write, Cond.selects RX1 yX1_write yX1_write, Cond.code yX1_write cX1_write 8 none]
def wsX1_make_r2 : List Cond := [Cond.fieldLink RX1 10 "PalletGram" "chains" "LPalletGram$Chains;", Cond.fieldLink RX1 29 "PalletGram" "debts" "[I", Cond.fieldLink RX1 26 "PalletGram" "fees" "[I", Cond.methodLink RX1 169 yX0_add, Cond.instanceMethod yX0_add, Cond.selects RX0 yX0_add yX0_add, Cond.initialized RX0, Cond.code yX0_add cX0_add 10 none, Cond.fieldLink RX0 9 "PalletGram$Chains" "lengths" "[I", Cond.fieldLink RX0 15 "PalletGram$Chains" "numbers" "[I", Cond.fieldLink RX0 18 "PalletGram$Chains" "proofs" "[I", Cond.fieldLink RX0 21 "PalletGram$Chains" "copies" "[I", Cond.fieldLink RX0 24 "PalletGram$Chains" "amountsMade" "[I", Cond.methodLink RX0 31 yX0_row, Cond.static yX0_row, Cond.code yX0_row cX0_row 2 (some .int), Cond.methodLink RX0 35 yX0_proofMade, Cond.instanceMethod yX0_proofMade, Cond.selects RX0 yX0_proofMade yX0_proofMade, Cond.code yX0_proofMade cX0_proofMade 6 (some .int), Cond.methodLink RX0 38 yX0_witnesses, Cond.static yX0_witnesses, Cond.code yX0_witnesses cX0_witnesses 4 (some .int)]
def wsX1_make : List Cond := .code yX1_make cX1_make 3 (some .int) :: ((wsX1_make_r1 ++ wsX1_make_r2) ++ wsX10 ++ wsX00 ++ (vx_atS RX1 156 "java/lang/IndexOutOfBoundsException" ["java/lang/RuntimeException", "java/lang/Exception"]).filter goodWord ++ (vx_atS RX1 168 "java/lang/IllegalStateException" ["java/lang/RuntimeException", "java/lang/Exception"]).filter goodWord)
def wsX1_isPallet : List Cond := .code yX1_isPallet cX1_isPallet 2 (some .boolean) :: ([.fieldLink RX1 40 "PalletGram" "pallets" "I"] ++ wsX10)
def wsX1_isGood : List Cond := .code yX1_isGood cX1_isGood 1 (some .boolean) :: ([])
def wsX1_isWithin : List Cond := .code yX1_isWithin cX1_isWithin 3 (some .boolean) :: ([])
def wsX1_needRange : List Cond := .code yX1_needRange cX1_needRange 1 none :: ([.classLink RX1 159 "java/lang/IllegalArgumentException", .initialized "java/lang/IllegalArgumentException"] ++ (vx_atS RX1 163 "java/lang/IllegalArgumentException" ["java/lang/RuntimeException", "java/lang/Exception"]).filter goodWord)
def wsX1_isHeld : List Cond := .code yX1_isHeld cX1_isHeld 2 (some .boolean) :: ([.fieldLink RX1 10 "PalletGram" "chains" "LPalletGram$Chains;", .methodLink RX1 173 yX0_lastKind, .instanceMethod yX0_lastKind, .selects RX0 yX0_lastKind yX0_lastKind, .initialized RX0, .code yX0_lastKind cX0_lastKind 3 (some .int), .fieldLink RX0 9 "PalletGram$Chains" "lengths" "[I", .methodLink RX0 27 yX0_number, .instanceMethod yX0_number, .selects RX0 yX0_number yX0_number, .code yX0_number cX0_number 4 (some .int), .fieldLink RX0 15 "PalletGram$Chains" "numbers" "[I", .methodLink RX0 31 yX0_row, .static yX0_row, .code yX0_row cX0_row 2 (some .int)] ++ wsX10 ++ wsX00)
def wsX1_isGone : List Cond := .code yX1_isGone cX1_isGone 2 (some .boolean) :: ([.fieldLink RX1 10 "PalletGram" "chains" "LPalletGram$Chains;", .methodLink RX1 173 yX0_lastKind, .instanceMethod yX0_lastKind, .selects RX0 yX0_lastKind yX0_lastKind, .initialized RX0, .code yX0_lastKind cX0_lastKind 3 (some .int), .fieldLink RX0 9 "PalletGram$Chains" "lengths" "[I", .methodLink RX0 27 yX0_number, .instanceMethod yX0_number, .selects RX0 yX0_number yX0_number, .code yX0_number cX0_number 4 (some .int), .fieldLink RX0 15 "PalletGram$Chains" "numbers" "[I", .methodLink RX0 31 yX0_row, .static yX0_row, .code yX0_row cX0_row 2 (some .int)] ++ wsX10 ++ wsX00)
def wsX1_allAreUnbroken_r1 : List Cond := [Cond.fieldLink RX1 10 "PalletGram" "chains" "LPalletGram$Chains;", Cond.fieldLink RX1 40 "PalletGram" "pallets" "I", Cond.methodLink RX1 176 yX0_reach, Cond.instanceMethod yX0_reach, Cond.selects RX0 yX0_reach yX0_reach, Cond.initialized RX0, Cond.code yX0_reach cX0_reach 7 (some .int), Cond.static yX1_isIn, Cond.initialized RX1, Cond.code yX1_isIn cX1_isIn 2 (some .boolean), Cond.methodLink RX0 55 yX0_toldPallets, Cond.instanceMethod yX0_toldPallets, Cond.selects RX0 yX0_toldPallets yX0_toldPallets, Cond.code yX0_toldPallets cX0_toldPallets 6 (some .int), Cond.fieldLink RX0 9 "PalletGram$Chains" "lengths" "[I", Cond.methodLink RX0 27 yX0_number, Cond.instanceMethod yX0_number, Cond.selects RX0 yX0_number yX0_number, Cond.code yX0_number cX0_number 4 (some .int), Cond.fieldLink RX0 15 "PalletGram$Chains" "numbers" "[I", Cond.methodLink RX0 31 yX0_row, Cond.static yX0_row, Cond.code yX0_row cX0_row 2 (some .int), Cond.methodLink RX1 180 yX1_isIn]
def wsX1_allAreUnbroken_r2 : List Cond := [Cond.methodLink RX1 129 yX0_firstBroken, Cond.instanceMethod yX0_firstBroken, Cond.selects RX0 yX0_firstBroken yX0_firstBroken, Cond.code yX0_firstBroken cX0_firstBroken 3 (some .int), Cond.methodLink RX0 52 yX0_isBroken, Cond.instanceMethod yX0_isBroken, Cond.selects RX0 yX0_isBroken yX0_isBroken, Cond.code yX0_isBroken cX0_isBroken 3 (some .boolean), Cond.methodLink RX0 49 yX0_proof, Cond.instanceMethod yX0_proof, Cond.selects RX0 yX0_proof yX0_proof, Cond.code yX0_proof cX0_proof 3 (some .int), Cond.fieldLink RX0 18 "PalletGram$Chains" "proofs" "[I", Cond.methodLink RX0 35 yX0_proofMade, Cond.instanceMethod yX0_proofMade, Cond.selects RX0 yX0_proofMade yX0_proofMade, Cond.code yX0_proofMade cX0_proofMade 6 (some .int)]
def wsX1_allAreUnbroken : List Cond := .code yX1_allAreUnbroken cX1_allAreUnbroken 4 (some .boolean) :: ((wsX1_allAreUnbroken_r1 ++ wsX1_allAreUnbroken_r2) ++ wsX10 ++ wsX00)
def wsX1_isWorkable_r1 : List Cond := [Cond.fieldLink RX1 10 "PalletGram" "chains" "LPalletGram$Chains;", Cond.methodLink RX1 95 yX1_isHeld, Cond.instanceMethod yX1_isHeld, Cond.selects RX1 yX1_isHeld yX1_isHeld, Cond.initialized RX1, Cond.code yX1_isHeld cX1_isHeld 2 (some .boolean), Cond.methodLink RX1 173 yX0_lastKind, Cond.instanceMethod yX0_lastKind, Cond.selects RX0 yX0_lastKind yX0_lastKind, Cond.initialized RX0, Cond.code yX0_lastKind cX0_lastKind 3 (some .int), Cond.fieldLink RX0 9 "PalletGram$Chains" "lengths" "[I", Cond.methodLink RX0 27 yX0_number, Cond.instanceMethod yX0_number, Cond.selects RX0 yX0_number yX0_number, Cond.code yX0_number cX0_number 4 (some .int), Cond.fieldLink RX0 15 "PalletGram$Chains" "numbers" "[I", Cond.methodLink RX0 31 yX0_row, Cond.static yX0_row, Cond.code yX0_row cX0_row 2 (some .int), Cond.methodLink RX1 90 yX1_isGone, Cond.instanceMethod yX1_isGone, Cond.selects RX1 yX1_isGone yX1_isGone, Cond.code yX1_isGone cX1_isGone 2 (some .boolean)]
def wsX1_isWorkable_r2 : List Cond := [Cond.methodLink RX1 93 yX0_hasRoom, Cond.instanceMethod yX0_hasRoom, Cond.selects RX0 yX0_hasRoom yX0_hasRoom, Cond.code yX0_hasRoom cX0_hasRoom 2 (some .boolean), Cond.methodLink RX1 132 yX1_allAreUnbroken, Cond.instanceMethod yX1_allAreUnbroken, Cond.selects RX1 yX1_allAreUnbroken yX1_allAreUnbroken, Cond.code yX1_allAreUnbroken cX1_allAreUnbroken 4 (some .boolean), Cond.fieldLink RX1 40 "PalletGram" "pallets" "I", Cond.methodLink RX1 176 yX0_reach, Cond.instanceMethod yX0_reach, Cond.selects RX0 yX0_reach yX0_reach, Cond.code yX0_reach cX0_reach 7 (some .int), Cond.static yX1_isIn, Cond.code yX1_isIn cX1_isIn 2 (some .boolean), Cond.methodLink RX0 55 yX0_toldPallets, Cond.instanceMethod yX0_toldPallets, Cond.selects RX0 yX0_toldPallets yX0_toldPallets, Cond.code yX0_toldPallets cX0_toldPallets 6 (some .int), Cond.methodLink RX1 180 yX1_isIn, Cond.methodLink RX1 129 yX0_firstBroken, Cond.instanceMethod yX0_firstBroken, Cond.selects RX0 yX0_firstBroken yX0_firstBroken, Cond.code yX0_firstBroken cX0_firstBroken 3 (some .int)]
def wsX1_isWorkable_r3 : List Cond := [Cond.methodLink RX0 52 yX0_isBroken, Cond.instanceMethod yX0_isBroken, Cond.selects RX0 yX0_isBroken yX0_isBroken, Cond.code yX0_isBroken cX0_isBroken 3 (some .boolean), Cond.methodLink RX0 49 yX0_proof, Cond.instanceMethod yX0_proof, Cond.selects RX0 yX0_proof yX0_proof, Cond.code yX0_proof cX0_proof 3 (some .int), Cond.fieldLink RX0 18 "PalletGram$Chains" "proofs" "[I", Cond.methodLink RX0 35 yX0_proofMade, Cond.instanceMethod yX0_proofMade, Cond.selects RX0 yX0_proofMade yX0_proofMade, Cond.code yX0_proofMade cX0_proofMade 6 (some .int)]
def wsX1_isWorkable : List Cond := .code yX1_isWorkable cX1_isWorkable 2 (some .boolean) :: ((wsX1_isWorkable_r1 ++ (wsX1_isWorkable_r2 ++ wsX1_isWorkable_r3)) ++ wsX10 ++ wsX00)
def wsX1_weightOfOne : List Cond := .code yX1_weightOfOne cX1_weightOfOne 1 (some .int) :: ([])
def wsX1_weightOf : List Cond := .code yX1_weightOf cX1_weightOf 4 (some .int) :: ([.fieldLink RX1 20 "PalletGram" "goods" "[I", .methodLink RX1 71 yX1_weightOfOne, .static yX1_weightOfOne, .initialized RX1, .code yX1_weightOfOne cX1_weightOfOne 1 (some .int)] ++ wsX10)
def wsX1_hasRoom : List Cond := .code yX1_hasRoom cX1_hasRoom 5 (some .boolean) :: ([.fieldLink RX1 40 "PalletGram" "pallets" "I", .fieldLink RX1 16 "PalletGram" "holders" "[I", .methodLink RX1 32 yX1_isDock, .static yX1_isDock, .initialized RX1, .code yX1_isDock cX1_isDock 1 (some .boolean), .methodLink RX1 87 yX1_weightOf, .instanceMethod yX1_weightOf, .selects RX1 yX1_weightOf yX1_weightOf, .code yX1_weightOf cX1_weightOf 4 (some .int), .fieldLink RX1 20 "PalletGram" "goods" "[I", .methodLink RX1 71 yX1_weightOfOne, .static yX1_weightOfOne, .code yX1_weightOfOne cX1_weightOfOne 1 (some .int)] ++ wsX10)
def wsX1_load_r1 : List Cond := [Cond.fieldLink RX1 20 "PalletGram" "goods" "[I", Cond.fieldLink RX1 16 "PalletGram" "holders" "[I", Cond.methodLink RX1 55 yX1_isPallet, Cond.instanceMethod yX1_isPallet, Cond.selects RX1 yX1_isPallet yX1_isPallet, Cond.initialized RX1, Cond.code yX1_isPallet cX1_isPallet 2 (some .boolean), Cond.fieldLink RX1 40 "PalletGram" "pallets" "I", Cond.methodLink RX1 58 yX1_isGood, Cond.static yX1_isGood, Cond.code yX1_isGood cX1_isGood 1 (some .boolean), Cond.methodLink RX1 36 yX1_needThere, Cond.static yX1_needThere, Cond.code yX1_needThere cX1_needThere 1 none, Cond.classLink RX1 152 "java/lang/IndexOutOfBoundsException", Cond.initialized "java/lang/IndexOutOfBoundsException", Cond.methodLink RX1 61 yX1_isWithin, Cond.static yX1_isWithin, Cond.code yX1_isWithin cX1_isWithin 3 (some .boolean), Cond.methodLink RX1 65 yX1_needRange, Cond.static yX1_needRange, Cond.code yX1_needRange cX1_needRange 1 none, Cond.classLink RX1 159 "java/lang/IllegalArgumentException", Cond.initialized "java/lang/IllegalArgumentException"]
def wsX1_load_r2 : List Cond := [Cond.methodLink RX1 68 yX1_isWorkable, Cond.instanceMethod yX1_isWorkable, Cond.selects RX1 yX1_isWorkable yX1_isWorkable, Cond.code yX1_isWorkable cX1_isWorkable 2 (some .boolean), Cond.fieldLink RX1 10 "PalletGram" "chains" "LPalletGram$Chains;", Cond.methodLink RX1 95 yX1_isHeld, Cond.instanceMethod yX1_isHeld, Cond.selects RX1 yX1_isHeld yX1_isHeld, Cond.code yX1_isHeld cX1_isHeld 2 (some .boolean), Cond.methodLink RX1 173 yX0_lastKind, Cond.instanceMethod yX0_lastKind, Cond.selects RX0 yX0_lastKind yX0_lastKind, Cond.initialized RX0, Cond.code yX0_lastKind cX0_lastKind 3 (some .int), Cond.fieldLink RX0 9 "PalletGram$Chains" "lengths" "[I", Cond.methodLink RX0 27 yX0_number, Cond.instanceMethod yX0_number, Cond.selects RX0 yX0_number yX0_number, Cond.code yX0_number cX0_number 4 (some .int), Cond.fieldLink RX0 15 "PalletGram$Chains" "numbers" "[I", Cond.methodLink RX0 31 yX0_row, Cond.static yX0_row, Cond.code yX0_row cX0_row 2 (some .int), Cond.methodLink RX1 90 yX1_isGone]
def wsX1_load_r3 : List Cond := [Cond.instanceMethod yX1_isGone, Cond.selects RX1 yX1_isGone yX1_isGone, Cond.code yX1_isGone cX1_isGone 2 (some .boolean), Cond.methodLink RX1 93 yX0_hasRoom, Cond.instanceMethod yX0_hasRoom, Cond.selects RX0 yX0_hasRoom yX0_hasRoom, Cond.code yX0_hasRoom cX0_hasRoom 2 (some .boolean), Cond.methodLink RX1 132 yX1_allAreUnbroken, Cond.instanceMethod yX1_allAreUnbroken, Cond.selects RX1 yX1_allAreUnbroken yX1_allAreUnbroken, Cond.code yX1_allAreUnbroken cX1_allAreUnbroken 4 (some .boolean), Cond.methodLink RX1 176 yX0_reach, Cond.instanceMethod yX0_reach, Cond.selects RX0 yX0_reach yX0_reach, Cond.code yX0_reach cX0_reach 7 (some .int), Cond.static yX1_isIn, Cond.code yX1_isIn cX1_isIn 2 (some .boolean), Cond.methodLink RX0 55 yX0_toldPallets, Cond.instanceMethod yX0_toldPallets, Cond.selects RX0 yX0_toldPallets yX0_toldPallets, Cond.code yX0_toldPallets cX0_toldPallets 6 (some .int), Cond.methodLink RX1 180 yX1_isIn, Cond.methodLink RX1 129 yX0_firstBroken, Cond.instanceMethod yX0_firstBroken]
def wsX1_load_r4 : List Cond := [Cond.selects RX0 yX0_firstBroken yX0_firstBroken, Cond.code yX0_firstBroken cX0_firstBroken 3 (some .int), Cond.methodLink RX0 52 yX0_isBroken, Cond.instanceMethod yX0_isBroken, Cond.selects RX0 yX0_isBroken yX0_isBroken, Cond.code yX0_isBroken cX0_isBroken 3 (some .boolean), Cond.methodLink RX0 49 yX0_proof, Cond.instanceMethod yX0_proof, Cond.selects RX0 yX0_proof yX0_proof, Cond.code yX0_proof cX0_proof 3 (some .int), Cond.fieldLink RX0 18 "PalletGram$Chains" "proofs" "[I", Cond.methodLink RX0 35 yX0_proofMade, Cond.instanceMethod yX0_proofMade, Cond.selects RX0 yX0_proofMade yX0_proofMade, Cond.code yX0_proofMade cX0_proofMade 6 (some .int), Cond.methodLink RX1 71 yX1_weightOfOne, Cond.static yX1_weightOfOne, Cond.code yX1_weightOfOne cX1_weightOfOne 1 (some .int), Cond.methodLink RX1 74 yX1_hasRoom, Cond.instanceMethod yX1_hasRoom, Cond.selects RX1 yX1_hasRoom yX1_hasRoom, Cond.code yX1_hasRoom cX1_hasRoom 5 (some .boolean), Cond.methodLink RX1 32 yX1_isDock, Cond.static yX1_isDock]
def wsX1_load_r5 : List Cond := [Cond.code yX1_isDock cX1_isDock 1 (some .boolean), Cond.methodLink RX1 87 yX1_weightOf, Cond.instanceMethod yX1_weightOf, Cond.selects RX1 yX1_weightOf yX1_weightOf, Cond.code yX1_weightOf cX1_weightOf 4 (some .int), Cond.methodLink RX1 44 yX1_needState, Cond.static yX1_needState, Cond.code yX1_needState cX1_needState 1 none, Cond.classLink RX1 164 "java/lang/IllegalStateException", Cond.initialized "java/lang/IllegalStateException", Cond.methodLink RX1 51 yX1_write, Cond.instanceMethod yX1_write, Cond.selects RX1 yX1_write yX1_write, Cond.code yX1_write cX1_write 8 none, Cond.fieldLink RX1 29 "PalletGram" "debts" "[I", Cond.fieldLink RX1 26 "PalletGram" "fees" "[I", Cond.methodLink RX1 169 yX0_add, Cond.instanceMethod yX0_add, Cond.selects RX0 yX0_add yX0_add, Cond.code yX0_add cX0_add 10 none, Cond.fieldLink RX0 21 "PalletGram$Chains" "copies" "[I", Cond.fieldLink RX0 24 "PalletGram$Chains" "amountsMade" "[I", Cond.methodLink RX0 38 yX0_witnesses, Cond.static yX0_witnesses]
def wsX1_load_r6 : List Cond := [Cond.code yX0_witnesses cX0_witnesses 4 (some .int)]
def wsX1_load : List Cond := .code yX1_load cX1_load 5 (some .int) :: ((wsX1_load_r1 ++ (wsX1_load_r2 ++ (wsX1_load_r3 ++ (wsX1_load_r4 ++ (wsX1_load_r5 ++ wsX1_load_r6))))) ++ wsX10 ++ wsX00 ++ (vx_atS RX1 156 "java/lang/IndexOutOfBoundsException" ["java/lang/RuntimeException", "java/lang/Exception"]).filter goodWord ++ (vx_atS RX1 163 "java/lang/IllegalArgumentException" ["java/lang/RuntimeException", "java/lang/Exception"]).filter goodWord ++ (vx_atS RX1 168 "java/lang/IllegalStateException" ["java/lang/RuntimeException", "java/lang/Exception"]).filter goodWord)
def wsX1_part_r1 : List Cond := [Cond.fieldLink RX1 20 "PalletGram" "goods" "[I", Cond.fieldLink RX1 40 "PalletGram" "pallets" "I", Cond.fieldLink RX1 16 "PalletGram" "holders" "[I", Cond.fieldLink RX1 10 "PalletGram" "chains" "LPalletGram$Chains;", Cond.methodLink RX1 55 yX1_isPallet, Cond.instanceMethod yX1_isPallet, Cond.selects RX1 yX1_isPallet yX1_isPallet, Cond.initialized RX1, Cond.code yX1_isPallet cX1_isPallet 2 (some .boolean), Cond.methodLink RX1 58 yX1_isGood, Cond.static yX1_isGood, Cond.code yX1_isGood cX1_isGood 1 (some .boolean), Cond.methodLink RX1 36 yX1_needThere, Cond.static yX1_needThere, Cond.code yX1_needThere cX1_needThere 1 none, Cond.classLink RX1 152 "java/lang/IndexOutOfBoundsException", Cond.initialized "java/lang/IndexOutOfBoundsException", Cond.methodLink RX1 61 yX1_isWithin, Cond.static yX1_isWithin, Cond.code yX1_isWithin cX1_isWithin 3 (some .boolean), Cond.methodLink RX1 65 yX1_needRange, Cond.static yX1_needRange, Cond.code yX1_needRange cX1_needRange 1 none, Cond.classLink RX1 159 "java/lang/IllegalArgumentException"]
def wsX1_part_r2 : List Cond := [Cond.initialized "java/lang/IllegalArgumentException", Cond.methodLink RX1 68 yX1_isWorkable, Cond.instanceMethod yX1_isWorkable, Cond.selects RX1 yX1_isWorkable yX1_isWorkable, Cond.code yX1_isWorkable cX1_isWorkable 2 (some .boolean), Cond.methodLink RX1 95 yX1_isHeld, Cond.instanceMethod yX1_isHeld, Cond.selects RX1 yX1_isHeld yX1_isHeld, Cond.code yX1_isHeld cX1_isHeld 2 (some .boolean), Cond.methodLink RX1 173 yX0_lastKind, Cond.instanceMethod yX0_lastKind, Cond.selects RX0 yX0_lastKind yX0_lastKind, Cond.initialized RX0, Cond.code yX0_lastKind cX0_lastKind 3 (some .int), Cond.fieldLink RX0 9 "PalletGram$Chains" "lengths" "[I", Cond.methodLink RX0 27 yX0_number, Cond.instanceMethod yX0_number, Cond.selects RX0 yX0_number yX0_number, Cond.code yX0_number cX0_number 4 (some .int), Cond.fieldLink RX0 15 "PalletGram$Chains" "numbers" "[I", Cond.methodLink RX0 31 yX0_row, Cond.static yX0_row, Cond.code yX0_row cX0_row 2 (some .int), Cond.methodLink RX1 90 yX1_isGone]
def wsX1_part_r3 : List Cond := [Cond.instanceMethod yX1_isGone, Cond.selects RX1 yX1_isGone yX1_isGone, Cond.code yX1_isGone cX1_isGone 2 (some .boolean), Cond.methodLink RX1 93 yX0_hasRoom, Cond.instanceMethod yX0_hasRoom, Cond.selects RX0 yX0_hasRoom yX0_hasRoom, Cond.code yX0_hasRoom cX0_hasRoom 2 (some .boolean), Cond.methodLink RX1 132 yX1_allAreUnbroken, Cond.instanceMethod yX1_allAreUnbroken, Cond.selects RX1 yX1_allAreUnbroken yX1_allAreUnbroken, Cond.code yX1_allAreUnbroken cX1_allAreUnbroken 4 (some .boolean), Cond.methodLink RX1 176 yX0_reach, Cond.instanceMethod yX0_reach, Cond.selects RX0 yX0_reach yX0_reach, Cond.code yX0_reach cX0_reach 7 (some .int), Cond.static yX1_isIn, Cond.code yX1_isIn cX1_isIn 2 (some .boolean), Cond.methodLink RX0 55 yX0_toldPallets, Cond.instanceMethod yX0_toldPallets, Cond.selects RX0 yX0_toldPallets yX0_toldPallets, Cond.code yX0_toldPallets cX0_toldPallets 6 (some .int), Cond.methodLink RX1 180 yX1_isIn, Cond.methodLink RX1 129 yX0_firstBroken, Cond.instanceMethod yX0_firstBroken]
def wsX1_part_r4 : List Cond := [Cond.selects RX0 yX0_firstBroken yX0_firstBroken, Cond.code yX0_firstBroken cX0_firstBroken 3 (some .int), Cond.methodLink RX0 52 yX0_isBroken, Cond.instanceMethod yX0_isBroken, Cond.selects RX0 yX0_isBroken yX0_isBroken, Cond.code yX0_isBroken cX0_isBroken 3 (some .boolean), Cond.methodLink RX0 49 yX0_proof, Cond.instanceMethod yX0_proof, Cond.selects RX0 yX0_proof yX0_proof, Cond.code yX0_proof cX0_proof 3 (some .int), Cond.fieldLink RX0 18 "PalletGram$Chains" "proofs" "[I", Cond.methodLink RX0 35 yX0_proofMade, Cond.instanceMethod yX0_proofMade, Cond.selects RX0 yX0_proofMade yX0_proofMade, Cond.code yX0_proofMade cX0_proofMade 6 (some .int), Cond.methodLink RX1 44 yX1_needState, Cond.static yX1_needState, Cond.code yX1_needState cX1_needState 1 none, Cond.classLink RX1 164 "java/lang/IllegalStateException", Cond.initialized "java/lang/IllegalStateException", Cond.methodLink RX1 47 yX1_stand, Cond.instanceMethod yX1_stand, Cond.selects RX1 yX1_stand yX1_stand, Cond.code yX1_stand cX1_stand 3 (some .int)]
def wsX1_part_r5 : List Cond := [Cond.methodLink RX1 78 yX0_length, Cond.instanceMethod yX0_length, Cond.selects RX0 yX0_length yX0_length, Cond.code yX0_length cX0_length 2 (some .int), Cond.methodLink RX1 51 yX1_write, Cond.instanceMethod yX1_write, Cond.selects RX1 yX1_write yX1_write, Cond.code yX1_write cX1_write 8 none, Cond.fieldLink RX1 29 "PalletGram" "debts" "[I", Cond.fieldLink RX1 26 "PalletGram" "fees" "[I", Cond.methodLink RX1 169 yX0_add, Cond.instanceMethod yX0_add, Cond.selects RX0 yX0_add yX0_add, Cond.code yX0_add cX0_add 10 none, Cond.fieldLink RX0 21 "PalletGram$Chains" "copies" "[I", Cond.fieldLink RX0 24 "PalletGram$Chains" "amountsMade" "[I", Cond.methodLink RX0 38 yX0_witnesses, Cond.static yX0_witnesses, Cond.code yX0_witnesses cX0_witnesses 4 (some .int)]
def wsX1_part : List Cond := .code yX1_part cX1_part 6 (some .int) :: ((wsX1_part_r1 ++ (wsX1_part_r2 ++ (wsX1_part_r3 ++ (wsX1_part_r4 ++ wsX1_part_r5)))) ++ wsX10 ++ wsX00 ++ (vx_atS RX1 156 "java/lang/IndexOutOfBoundsException" ["java/lang/RuntimeException", "java/lang/Exception"]).filter goodWord ++ (vx_atS RX1 163 "java/lang/IllegalArgumentException" ["java/lang/RuntimeException", "java/lang/Exception"]).filter goodWord ++ (vx_atS RX1 168 "java/lang/IllegalStateException" ["java/lang/RuntimeException", "java/lang/Exception"]).filter goodWord)
def wsX1_canComeTogether : List Cond := .code yX1_canComeTogether cX1_canComeTogether 4 (some .boolean) :: ([.fieldLink RX1 20 "PalletGram" "goods" "[I"] ++ wsX10)
def wsX1_join_r1 : List Cond := [Cond.fieldLink RX1 16 "PalletGram" "holders" "[I", Cond.fieldLink RX1 20 "PalletGram" "goods" "[I", Cond.fieldLink RX1 10 "PalletGram" "chains" "LPalletGram$Chains;", Cond.methodLink RX1 55 yX1_isPallet, Cond.instanceMethod yX1_isPallet, Cond.selects RX1 yX1_isPallet yX1_isPallet, Cond.initialized RX1, Cond.code yX1_isPallet cX1_isPallet 2 (some .boolean), Cond.fieldLink RX1 40 "PalletGram" "pallets" "I", Cond.methodLink RX1 36 yX1_needThere, Cond.static yX1_needThere, Cond.code yX1_needThere cX1_needThere 1 none, Cond.classLink RX1 152 "java/lang/IndexOutOfBoundsException", Cond.initialized "java/lang/IndexOutOfBoundsException", Cond.methodLink RX1 65 yX1_needRange, Cond.static yX1_needRange, Cond.code yX1_needRange cX1_needRange 1 none, Cond.classLink RX1 159 "java/lang/IllegalArgumentException", Cond.initialized "java/lang/IllegalArgumentException", Cond.methodLink RX1 68 yX1_isWorkable, Cond.instanceMethod yX1_isWorkable, Cond.selects RX1 yX1_isWorkable yX1_isWorkable, Cond.code yX1_isWorkable cX1_isWorkable 2 (some .boolean), Cond.methodLink RX1 95 yX1_isHeld]
def wsX1_join_r2 : List Cond := [Cond.instanceMethod yX1_isHeld, Cond.selects RX1 yX1_isHeld yX1_isHeld, Cond.code yX1_isHeld cX1_isHeld 2 (some .boolean), Cond.methodLink RX1 173 yX0_lastKind, Cond.instanceMethod yX0_lastKind, Cond.selects RX0 yX0_lastKind yX0_lastKind, Cond.initialized RX0, Cond.code yX0_lastKind cX0_lastKind 3 (some .int), Cond.fieldLink RX0 9 "PalletGram$Chains" "lengths" "[I", Cond.methodLink RX0 27 yX0_number, Cond.instanceMethod yX0_number, Cond.selects RX0 yX0_number yX0_number, Cond.code yX0_number cX0_number 4 (some .int), Cond.fieldLink RX0 15 "PalletGram$Chains" "numbers" "[I", Cond.methodLink RX0 31 yX0_row, Cond.static yX0_row, Cond.code yX0_row cX0_row 2 (some .int), Cond.methodLink RX1 90 yX1_isGone, Cond.instanceMethod yX1_isGone, Cond.selects RX1 yX1_isGone yX1_isGone, Cond.code yX1_isGone cX1_isGone 2 (some .boolean), Cond.methodLink RX1 93 yX0_hasRoom, Cond.instanceMethod yX0_hasRoom, Cond.selects RX0 yX0_hasRoom yX0_hasRoom]
def wsX1_join_r3 : List Cond := [Cond.code yX0_hasRoom cX0_hasRoom 2 (some .boolean), Cond.methodLink RX1 132 yX1_allAreUnbroken, Cond.instanceMethod yX1_allAreUnbroken, Cond.selects RX1 yX1_allAreUnbroken yX1_allAreUnbroken, Cond.code yX1_allAreUnbroken cX1_allAreUnbroken 4 (some .boolean), Cond.methodLink RX1 176 yX0_reach, Cond.instanceMethod yX0_reach, Cond.selects RX0 yX0_reach yX0_reach, Cond.code yX0_reach cX0_reach 7 (some .int), Cond.static yX1_isIn, Cond.code yX1_isIn cX1_isIn 2 (some .boolean), Cond.methodLink RX0 55 yX0_toldPallets, Cond.instanceMethod yX0_toldPallets, Cond.selects RX0 yX0_toldPallets yX0_toldPallets, Cond.code yX0_toldPallets cX0_toldPallets 6 (some .int), Cond.methodLink RX1 180 yX1_isIn, Cond.methodLink RX1 129 yX0_firstBroken, Cond.instanceMethod yX0_firstBroken, Cond.selects RX0 yX0_firstBroken yX0_firstBroken, Cond.code yX0_firstBroken cX0_firstBroken 3 (some .int), Cond.methodLink RX0 52 yX0_isBroken, Cond.instanceMethod yX0_isBroken, Cond.selects RX0 yX0_isBroken yX0_isBroken, Cond.code yX0_isBroken cX0_isBroken 3 (some .boolean)]
def wsX1_join_r4 : List Cond := [Cond.methodLink RX0 49 yX0_proof, Cond.instanceMethod yX0_proof, Cond.selects RX0 yX0_proof yX0_proof, Cond.code yX0_proof cX0_proof 3 (some .int), Cond.fieldLink RX0 18 "PalletGram$Chains" "proofs" "[I", Cond.methodLink RX0 35 yX0_proofMade, Cond.instanceMethod yX0_proofMade, Cond.selects RX0 yX0_proofMade yX0_proofMade, Cond.code yX0_proofMade cX0_proofMade 6 (some .int), Cond.methodLink RX1 81 yX1_canComeTogether, Cond.instanceMethod yX1_canComeTogether, Cond.selects RX1 yX1_canComeTogether yX1_canComeTogether, Cond.code yX1_canComeTogether cX1_canComeTogether 4 (some .boolean), Cond.methodLink RX1 44 yX1_needState, Cond.static yX1_needState, Cond.code yX1_needState cX1_needState 1 none, Cond.classLink RX1 164 "java/lang/IllegalStateException", Cond.initialized "java/lang/IllegalStateException", Cond.methodLink RX1 78 yX0_length, Cond.instanceMethod yX0_length, Cond.selects RX0 yX0_length yX0_length, Cond.code yX0_length cX0_length 2 (some .int), Cond.methodLink RX1 51 yX1_write, Cond.instanceMethod yX1_write]
def wsX1_join_r5 : List Cond := [Cond.selects RX1 yX1_write yX1_write, Cond.code yX1_write cX1_write 8 none, Cond.fieldLink RX1 29 "PalletGram" "debts" "[I", Cond.fieldLink RX1 26 "PalletGram" "fees" "[I", Cond.methodLink RX1 169 yX0_add, Cond.instanceMethod yX0_add, Cond.selects RX0 yX0_add yX0_add, Cond.code yX0_add cX0_add 10 none, Cond.fieldLink RX0 21 "PalletGram$Chains" "copies" "[I", Cond.fieldLink RX0 24 "PalletGram$Chains" "amountsMade" "[I", Cond.methodLink RX0 38 yX0_witnesses, Cond.static yX0_witnesses, Cond.code yX0_witnesses cX0_witnesses 4 (some .int)]
def wsX1_join : List Cond := .code yX1_join cX1_join 6 (some .int) :: ((wsX1_join_r1 ++ (wsX1_join_r2 ++ (wsX1_join_r3 ++ (wsX1_join_r4 ++ wsX1_join_r5)))) ++ wsX10 ++ wsX00 ++ (vx_atS RX1 156 "java/lang/IndexOutOfBoundsException" ["java/lang/RuntimeException", "java/lang/Exception"]).filter goodWord ++ (vx_atS RX1 163 "java/lang/IllegalArgumentException" ["java/lang/RuntimeException", "java/lang/Exception"]).filter goodWord ++ (vx_atS RX1 168 "java/lang/IllegalStateException" ["java/lang/RuntimeException", "java/lang/Exception"]).filter goodWord)
def wsX1_isHolder : List Cond := .code yX1_isHolder cX1_isHolder 1 (some .boolean) :: ([])
def wsX1_move_r1 : List Cond := [Cond.fieldLink RX1 16 "PalletGram" "holders" "[I", Cond.methodLink RX1 55 yX1_isPallet, Cond.instanceMethod yX1_isPallet, Cond.selects RX1 yX1_isPallet yX1_isPallet, Cond.initialized RX1, Cond.code yX1_isPallet cX1_isPallet 2 (some .boolean), Cond.fieldLink RX1 40 "PalletGram" "pallets" "I", Cond.methodLink RX1 84 yX1_isHolder, Cond.static yX1_isHolder, Cond.code yX1_isHolder cX1_isHolder 1 (some .boolean), Cond.methodLink RX1 36 yX1_needThere, Cond.static yX1_needThere, Cond.code yX1_needThere cX1_needThere 1 none, Cond.classLink RX1 152 "java/lang/IndexOutOfBoundsException", Cond.initialized "java/lang/IndexOutOfBoundsException", Cond.methodLink RX1 87 yX1_weightOf, Cond.instanceMethod yX1_weightOf, Cond.selects RX1 yX1_weightOf yX1_weightOf, Cond.code yX1_weightOf cX1_weightOf 4 (some .int), Cond.fieldLink RX1 20 "PalletGram" "goods" "[I", Cond.methodLink RX1 71 yX1_weightOfOne, Cond.static yX1_weightOfOne, Cond.code yX1_weightOfOne cX1_weightOfOne 1 (some .int), Cond.methodLink RX1 68 yX1_isWorkable]
def wsX1_move_r2 : List Cond := [Cond.instanceMethod yX1_isWorkable, Cond.selects RX1 yX1_isWorkable yX1_isWorkable, Cond.code yX1_isWorkable cX1_isWorkable 2 (some .boolean), Cond.fieldLink RX1 10 "PalletGram" "chains" "LPalletGram$Chains;", Cond.methodLink RX1 95 yX1_isHeld, Cond.instanceMethod yX1_isHeld, Cond.selects RX1 yX1_isHeld yX1_isHeld, Cond.code yX1_isHeld cX1_isHeld 2 (some .boolean), Cond.methodLink RX1 173 yX0_lastKind, Cond.instanceMethod yX0_lastKind, Cond.selects RX0 yX0_lastKind yX0_lastKind, Cond.initialized RX0, Cond.code yX0_lastKind cX0_lastKind 3 (some .int), Cond.fieldLink RX0 9 "PalletGram$Chains" "lengths" "[I", Cond.methodLink RX0 27 yX0_number, Cond.instanceMethod yX0_number, Cond.selects RX0 yX0_number yX0_number, Cond.code yX0_number cX0_number 4 (some .int), Cond.fieldLink RX0 15 "PalletGram$Chains" "numbers" "[I", Cond.methodLink RX0 31 yX0_row, Cond.static yX0_row, Cond.code yX0_row cX0_row 2 (some .int), Cond.methodLink RX1 90 yX1_isGone, Cond.instanceMethod yX1_isGone]
def wsX1_move_r3 : List Cond := [Cond.selects RX1 yX1_isGone yX1_isGone, Cond.code yX1_isGone cX1_isGone 2 (some .boolean), Cond.methodLink RX1 93 yX0_hasRoom, Cond.instanceMethod yX0_hasRoom, Cond.selects RX0 yX0_hasRoom yX0_hasRoom, Cond.code yX0_hasRoom cX0_hasRoom 2 (some .boolean), Cond.methodLink RX1 132 yX1_allAreUnbroken, Cond.instanceMethod yX1_allAreUnbroken, Cond.selects RX1 yX1_allAreUnbroken yX1_allAreUnbroken, Cond.code yX1_allAreUnbroken cX1_allAreUnbroken 4 (some .boolean), Cond.methodLink RX1 176 yX0_reach, Cond.instanceMethod yX0_reach, Cond.selects RX0 yX0_reach yX0_reach, Cond.code yX0_reach cX0_reach 7 (some .int), Cond.static yX1_isIn, Cond.code yX1_isIn cX1_isIn 2 (some .boolean), Cond.methodLink RX0 55 yX0_toldPallets, Cond.instanceMethod yX0_toldPallets, Cond.selects RX0 yX0_toldPallets yX0_toldPallets, Cond.code yX0_toldPallets cX0_toldPallets 6 (some .int), Cond.methodLink RX1 180 yX1_isIn, Cond.methodLink RX1 129 yX0_firstBroken, Cond.instanceMethod yX0_firstBroken, Cond.selects RX0 yX0_firstBroken yX0_firstBroken]
def wsX1_move_r4 : List Cond := [Cond.code yX0_firstBroken cX0_firstBroken 3 (some .int), Cond.methodLink RX0 52 yX0_isBroken, Cond.instanceMethod yX0_isBroken, Cond.selects RX0 yX0_isBroken yX0_isBroken, Cond.code yX0_isBroken cX0_isBroken 3 (some .boolean), Cond.methodLink RX0 49 yX0_proof, Cond.instanceMethod yX0_proof, Cond.selects RX0 yX0_proof yX0_proof, Cond.code yX0_proof cX0_proof 3 (some .int), Cond.fieldLink RX0 18 "PalletGram$Chains" "proofs" "[I", Cond.methodLink RX0 35 yX0_proofMade, Cond.instanceMethod yX0_proofMade, Cond.selects RX0 yX0_proofMade yX0_proofMade, Cond.code yX0_proofMade cX0_proofMade 6 (some .int), Cond.methodLink RX1 32 yX1_isDock, Cond.static yX1_isDock, Cond.code yX1_isDock cX1_isDock 1 (some .boolean), Cond.methodLink RX1 74 yX1_hasRoom, Cond.instanceMethod yX1_hasRoom, Cond.selects RX1 yX1_hasRoom yX1_hasRoom, Cond.code yX1_hasRoom cX1_hasRoom 5 (some .boolean), Cond.methodLink RX1 44 yX1_needState, Cond.static yX1_needState, Cond.code yX1_needState cX1_needState 1 none]
def wsX1_move_r5 : List Cond := [Cond.classLink RX1 164 "java/lang/IllegalStateException", Cond.initialized "java/lang/IllegalStateException", Cond.methodLink RX1 51 yX1_write, Cond.instanceMethod yX1_write, Cond.selects RX1 yX1_write yX1_write, Cond.code yX1_write cX1_write 8 none, Cond.fieldLink RX1 29 "PalletGram" "debts" "[I", Cond.fieldLink RX1 26 "PalletGram" "fees" "[I", Cond.methodLink RX1 169 yX0_add, Cond.instanceMethod yX0_add, Cond.selects RX0 yX0_add yX0_add, Cond.code yX0_add cX0_add 10 none, Cond.fieldLink RX0 21 "PalletGram$Chains" "copies" "[I", Cond.fieldLink RX0 24 "PalletGram$Chains" "amountsMade" "[I", Cond.methodLink RX0 38 yX0_witnesses, Cond.static yX0_witnesses, Cond.code yX0_witnesses cX0_witnesses 4 (some .int)]
def wsX1_move : List Cond := .code yX1_move cX1_move 4 (some .int) :: ((wsX1_move_r1 ++ (wsX1_move_r2 ++ (wsX1_move_r3 ++ (wsX1_move_r4 ++ wsX1_move_r5)))) ++ wsX10 ++ wsX00 ++ (vx_atS RX1 156 "java/lang/IndexOutOfBoundsException" ["java/lang/RuntimeException", "java/lang/Exception"]).filter goodWord ++ (vx_atS RX1 168 "java/lang/IllegalStateException" ["java/lang/RuntimeException", "java/lang/Exception"]).filter goodWord)
def wsX1_hold_r1 : List Cond := [Cond.fieldLink RX1 10 "PalletGram" "chains" "LPalletGram$Chains;", Cond.methodLink RX1 55 yX1_isPallet, Cond.instanceMethod yX1_isPallet, Cond.selects RX1 yX1_isPallet yX1_isPallet, Cond.initialized RX1, Cond.code yX1_isPallet cX1_isPallet 2 (some .boolean), Cond.fieldLink RX1 40 "PalletGram" "pallets" "I", Cond.methodLink RX1 36 yX1_needThere, Cond.static yX1_needThere, Cond.code yX1_needThere cX1_needThere 1 none, Cond.classLink RX1 152 "java/lang/IndexOutOfBoundsException", Cond.initialized "java/lang/IndexOutOfBoundsException", Cond.methodLink RX1 90 yX1_isGone, Cond.instanceMethod yX1_isGone, Cond.selects RX1 yX1_isGone yX1_isGone, Cond.code yX1_isGone cX1_isGone 2 (some .boolean), Cond.methodLink RX1 173 yX0_lastKind, Cond.instanceMethod yX0_lastKind, Cond.selects RX0 yX0_lastKind yX0_lastKind, Cond.initialized RX0, Cond.code yX0_lastKind cX0_lastKind 3 (some .int), Cond.fieldLink RX0 9 "PalletGram$Chains" "lengths" "[I", Cond.methodLink RX0 27 yX0_number, Cond.instanceMethod yX0_number]
def wsX1_hold_r2 : List Cond := [Cond.selects RX0 yX0_number yX0_number, Cond.code yX0_number cX0_number 4 (some .int), Cond.fieldLink RX0 15 "PalletGram$Chains" "numbers" "[I", Cond.methodLink RX0 31 yX0_row, Cond.static yX0_row, Cond.code yX0_row cX0_row 2 (some .int), Cond.methodLink RX1 93 yX0_hasRoom, Cond.instanceMethod yX0_hasRoom, Cond.selects RX0 yX0_hasRoom yX0_hasRoom, Cond.code yX0_hasRoom cX0_hasRoom 2 (some .boolean), Cond.methodLink RX1 44 yX1_needState, Cond.static yX1_needState, Cond.code yX1_needState cX1_needState 1 none, Cond.classLink RX1 164 "java/lang/IllegalStateException", Cond.initialized "java/lang/IllegalStateException", Cond.methodLink RX1 95 yX1_isHeld, Cond.instanceMethod yX1_isHeld, Cond.selects RX1 yX1_isHeld yX1_isHeld, Cond.code yX1_isHeld cX1_isHeld 2 (some .boolean), Cond.methodLink RX1 51 yX1_write, Cond.instanceMethod yX1_write, Cond.selects RX1 yX1_write yX1_write, Cond.code yX1_write cX1_write 8 none, Cond.fieldLink RX1 16 "PalletGram" "holders" "[I"]
def wsX1_hold_r3 : List Cond := [Cond.fieldLink RX1 29 "PalletGram" "debts" "[I", Cond.fieldLink RX1 26 "PalletGram" "fees" "[I", Cond.methodLink RX1 169 yX0_add, Cond.instanceMethod yX0_add, Cond.selects RX0 yX0_add yX0_add, Cond.code yX0_add cX0_add 10 none, Cond.fieldLink RX0 18 "PalletGram$Chains" "proofs" "[I", Cond.fieldLink RX0 21 "PalletGram$Chains" "copies" "[I", Cond.fieldLink RX0 24 "PalletGram$Chains" "amountsMade" "[I", Cond.methodLink RX0 35 yX0_proofMade, Cond.instanceMethod yX0_proofMade, Cond.selects RX0 yX0_proofMade yX0_proofMade, Cond.code yX0_proofMade cX0_proofMade 6 (some .int), Cond.methodLink RX0 38 yX0_witnesses, Cond.static yX0_witnesses, Cond.code yX0_witnesses cX0_witnesses 4 (some .int)]
def wsX1_hold : List Cond := .code yX1_hold cX1_hold 3 (some .boolean) :: ((wsX1_hold_r1 ++ (wsX1_hold_r2 ++ wsX1_hold_r3)) ++ wsX10 ++ wsX00 ++ (vx_atS RX1 156 "java/lang/IndexOutOfBoundsException" ["java/lang/RuntimeException", "java/lang/Exception"]).filter goodWord ++ (vx_atS RX1 168 "java/lang/IllegalStateException" ["java/lang/RuntimeException", "java/lang/Exception"]).filter goodWord)
def wsX1_spoil_r1 : List Cond := [Cond.fieldLink RX1 10 "PalletGram" "chains" "LPalletGram$Chains;", Cond.methodLink RX1 55 yX1_isPallet, Cond.instanceMethod yX1_isPallet, Cond.selects RX1 yX1_isPallet yX1_isPallet, Cond.initialized RX1, Cond.code yX1_isPallet cX1_isPallet 2 (some .boolean), Cond.fieldLink RX1 40 "PalletGram" "pallets" "I", Cond.methodLink RX1 98 yX0_has, Cond.instanceMethod yX0_has, Cond.selects RX0 yX0_has yX0_has, Cond.initialized RX0, Cond.code yX0_has cX0_has 3 (some .boolean), Cond.fieldLink RX0 9 "PalletGram$Chains" "lengths" "[I", Cond.methodLink RX1 36 yX1_needThere, Cond.static yX1_needThere, Cond.code yX1_needThere cX1_needThere 1 none, Cond.classLink RX1 152 "java/lang/IndexOutOfBoundsException", Cond.initialized "java/lang/IndexOutOfBoundsException", Cond.methodLink RX1 61 yX1_isWithin, Cond.static yX1_isWithin, Cond.code yX1_isWithin cX1_isWithin 3 (some .boolean), Cond.methodLink RX1 65 yX1_needRange, Cond.static yX1_needRange, Cond.code yX1_needRange cX1_needRange 1 none]
def wsX1_spoil_r2 : List Cond := [Cond.classLink RX1 159 "java/lang/IllegalArgumentException", Cond.initialized "java/lang/IllegalArgumentException", Cond.methodLink RX1 101 yX0_number, Cond.instanceMethod yX0_number, Cond.selects RX0 yX0_number yX0_number, Cond.code yX0_number cX0_number 4 (some .int), Cond.fieldLink RX0 15 "PalletGram$Chains" "numbers" "[I", Cond.methodLink RX0 31 yX0_row, Cond.static yX0_row, Cond.code yX0_row cX0_row 2 (some .int), Cond.methodLink RX1 105 yX0_putAmount, Cond.instanceMethod yX0_putAmount, Cond.selects RX0 yX0_putAmount yX0_putAmount, Cond.code yX0_putAmount cX0_putAmount 4 none]
def wsX1_spoil : List Cond := .code yX1_spoil cX1_spoil 5 (some .int) :: ((wsX1_spoil_r1 ++ wsX1_spoil_r2) ++ wsX10 ++ wsX00 ++ (vx_atS RX1 156 "java/lang/IndexOutOfBoundsException" ["java/lang/RuntimeException", "java/lang/Exception"]).filter goodWord ++ (vx_atS RX1 163 "java/lang/IllegalArgumentException" ["java/lang/RuntimeException", "java/lang/Exception"]).filter goodWord)
def wsX1_isOwer : List Cond := .code yX1_isOwer cX1_isOwer 1 (some .boolean) :: ([])
def wsX1_lose : List Cond := .code yX1_lose cX1_lose 2 (some .int) :: ([.fieldLink RX1 10 "PalletGram" "chains" "LPalletGram$Chains;", .methodLink RX1 109 yX1_isOwer, .static yX1_isOwer, .initialized RX1, .code yX1_isOwer cX1_isOwer 1 (some .boolean), .methodLink RX1 36 yX1_needThere, .static yX1_needThere, .code yX1_needThere cX1_needThere 1 none, .classLink RX1 152 "java/lang/IndexOutOfBoundsException", .initialized "java/lang/IndexOutOfBoundsException", .methodLink RX1 112 yX0_dropCopies, .instanceMethod yX0_dropCopies, .selects RX0 yX0_dropCopies yX0_dropCopies, .initialized RX0, .code yX0_dropCopies cX0_dropCopies 4 (some .int), .fieldLink RX0 21 "PalletGram$Chains" "copies" "[I", .static yX1_isIn, .code yX1_isIn cX1_isIn 2 (some .boolean)] ++ wsX10 ++ wsX00 ++ (vx_atS RX1 156 "java/lang/IndexOutOfBoundsException" ["java/lang/RuntimeException", "java/lang/Exception"]).filter goodWord)
def wsX1_lowestOf : List Cond := .code yX1_lowestOf cX1_lowestOf 2 (some .int) :: ([.methodLink RX1 180 yX1_isIn, .static yX1_isIn, .initialized RX1, .code yX1_isIn cX1_isIn 2 (some .boolean)])
def wsX1_repair_r1 : List Cond := [Cond.fieldLink RX1 10 "PalletGram" "chains" "LPalletGram$Chains;", Cond.fieldLink RX1 29 "PalletGram" "debts" "[I", Cond.fieldLink RX1 16 "PalletGram" "holders" "[I", Cond.methodLink RX1 55 yX1_isPallet, Cond.instanceMethod yX1_isPallet, Cond.selects RX1 yX1_isPallet yX1_isPallet, Cond.initialized RX1, Cond.code yX1_isPallet cX1_isPallet 2 (some .boolean), Cond.fieldLink RX1 40 "PalletGram" "pallets" "I", Cond.methodLink RX1 98 yX0_has, Cond.instanceMethod yX0_has, Cond.selects RX0 yX0_has yX0_has, Cond.initialized RX0, Cond.code yX0_has cX0_has 3 (some .boolean), Cond.fieldLink RX0 9 "PalletGram$Chains" "lengths" "[I", Cond.methodLink RX1 36 yX1_needThere, Cond.static yX1_needThere, Cond.code yX1_needThere cX1_needThere 1 none, Cond.classLink RX1 152 "java/lang/IndexOutOfBoundsException", Cond.initialized "java/lang/IndexOutOfBoundsException", Cond.methodLink RX1 115 yX0_copies, Cond.instanceMethod yX0_copies, Cond.selects RX0 yX0_copies yX0_copies, Cond.code yX0_copies cX0_copies 3 (some .int)]
def wsX1_repair_r2 : List Cond := [Cond.fieldLink RX0 21 "PalletGram$Chains" "copies" "[I", Cond.methodLink RX0 31 yX0_row, Cond.static yX0_row, Cond.code yX0_row cX0_row 2 (some .int), Cond.methodLink RX1 119 yX1_lowestOf, Cond.static yX1_lowestOf, Cond.code yX1_lowestOf cX1_lowestOf 2 (some .int), Cond.methodLink RX1 180 yX1_isIn, Cond.static yX1_isIn, Cond.code yX1_isIn cX1_isIn 2 (some .boolean), Cond.methodLink RX1 122 yX0_isBroken, Cond.instanceMethod yX0_isBroken, Cond.selects RX0 yX0_isBroken yX0_isBroken, Cond.code yX0_isBroken cX0_isBroken 3 (some .boolean), Cond.methodLink RX0 49 yX0_proof, Cond.instanceMethod yX0_proof, Cond.selects RX0 yX0_proof yX0_proof, Cond.code yX0_proof cX0_proof 3 (some .int), Cond.fieldLink RX0 18 "PalletGram$Chains" "proofs" "[I", Cond.methodLink RX0 35 yX0_proofMade, Cond.instanceMethod yX0_proofMade, Cond.selects RX0 yX0_proofMade yX0_proofMade, Cond.code yX0_proofMade cX0_proofMade 6 (some .int), Cond.fieldLink RX0 15 "PalletGram$Chains" "numbers" "[I"]
def wsX1_repair_r3 : List Cond := [Cond.methodLink RX1 44 yX1_needState, Cond.static yX1_needState, Cond.code yX1_needState cX1_needState 1 none, Cond.classLink RX1 164 "java/lang/IllegalStateException", Cond.initialized "java/lang/IllegalStateException", Cond.methodLink RX1 125 yX0_putAmountBack, Cond.instanceMethod yX0_putAmountBack, Cond.selects RX0 yX0_putAmountBack yX0_putAmountBack, Cond.code yX0_putAmountBack cX0_putAmountBack 3 none, Cond.fieldLink RX0 24 "PalletGram$Chains" "amountsMade" "[I", Cond.methodLink RX0 41 yX0_putAmount, Cond.instanceMethod yX0_putAmount, Cond.selects RX0 yX0_putAmount yX0_putAmount, Cond.code yX0_putAmount cX0_putAmount 4 none]
def wsX1_repair : List Cond := .code yX1_repair cX1_repair 4 (some .int) :: ((wsX1_repair_r1 ++ (wsX1_repair_r2 ++ wsX1_repair_r3)) ++ wsX10 ++ wsX00 ++ (vx_atS RX1 156 "java/lang/IndexOutOfBoundsException" ["java/lang/RuntimeException", "java/lang/Exception"]).filter goodWord ++ (vx_atS RX1 168 "java/lang/IllegalStateException" ["java/lang/RuntimeException", "java/lang/Exception"]).filter goodWord)
def wsX1_broken_r1 : List Cond := [Cond.fieldLink RX1 10 "PalletGram" "chains" "LPalletGram$Chains;", Cond.methodLink RX1 55 yX1_isPallet, Cond.instanceMethod yX1_isPallet, Cond.selects RX1 yX1_isPallet yX1_isPallet, Cond.initialized RX1, Cond.code yX1_isPallet cX1_isPallet 2 (some .boolean), Cond.fieldLink RX1 40 "PalletGram" "pallets" "I", Cond.methodLink RX1 36 yX1_needThere, Cond.static yX1_needThere, Cond.code yX1_needThere cX1_needThere 1 none, Cond.classLink RX1 152 "java/lang/IndexOutOfBoundsException", Cond.initialized "java/lang/IndexOutOfBoundsException", Cond.methodLink RX1 129 yX0_firstBroken, Cond.instanceMethod yX0_firstBroken, Cond.selects RX0 yX0_firstBroken yX0_firstBroken, Cond.initialized RX0, Cond.code yX0_firstBroken cX0_firstBroken 3 (some .int), Cond.fieldLink RX0 9 "PalletGram$Chains" "lengths" "[I", Cond.methodLink RX0 52 yX0_isBroken, Cond.instanceMethod yX0_isBroken, Cond.selects RX0 yX0_isBroken yX0_isBroken, Cond.code yX0_isBroken cX0_isBroken 3 (some .boolean), Cond.methodLink RX0 49 yX0_proof, Cond.instanceMethod yX0_proof]
def wsX1_broken_r2 : List Cond := [Cond.selects RX0 yX0_proof yX0_proof, Cond.code yX0_proof cX0_proof 3 (some .int), Cond.fieldLink RX0 18 "PalletGram$Chains" "proofs" "[I", Cond.methodLink RX0 31 yX0_row, Cond.static yX0_row, Cond.code yX0_row cX0_row 2 (some .int), Cond.methodLink RX0 35 yX0_proofMade, Cond.instanceMethod yX0_proofMade, Cond.selects RX0 yX0_proofMade yX0_proofMade, Cond.code yX0_proofMade cX0_proofMade 6 (some .int), Cond.fieldLink RX0 15 "PalletGram$Chains" "numbers" "[I"]
def wsX1_broken : List Cond := .code yX1_broken cX1_broken 2 (some .int) :: ((wsX1_broken_r1 ++ wsX1_broken_r2) ++ wsX10 ++ wsX00 ++ (vx_atS RX1 156 "java/lang/IndexOutOfBoundsException" ["java/lang/RuntimeException", "java/lang/Exception"]).filter goodWord)
def wsX1_isSound_r1 : List Cond := [Cond.methodLink RX1 55 yX1_isPallet, Cond.instanceMethod yX1_isPallet, Cond.selects RX1 yX1_isPallet yX1_isPallet, Cond.initialized RX1, Cond.code yX1_isPallet cX1_isPallet 2 (some .boolean), Cond.fieldLink RX1 40 "PalletGram" "pallets" "I", Cond.methodLink RX1 36 yX1_needThere, Cond.static yX1_needThere, Cond.code yX1_needThere cX1_needThere 1 none, Cond.classLink RX1 152 "java/lang/IndexOutOfBoundsException", Cond.initialized "java/lang/IndexOutOfBoundsException", Cond.methodLink RX1 132 yX1_allAreUnbroken, Cond.instanceMethod yX1_allAreUnbroken, Cond.selects RX1 yX1_allAreUnbroken yX1_allAreUnbroken, Cond.code yX1_allAreUnbroken cX1_allAreUnbroken 4 (some .boolean), Cond.fieldLink RX1 10 "PalletGram" "chains" "LPalletGram$Chains;", Cond.methodLink RX1 176 yX0_reach, Cond.instanceMethod yX0_reach, Cond.selects RX0 yX0_reach yX0_reach, Cond.initialized RX0, Cond.code yX0_reach cX0_reach 7 (some .int), Cond.static yX1_isIn, Cond.code yX1_isIn cX1_isIn 2 (some .boolean), Cond.methodLink RX0 55 yX0_toldPallets]
def wsX1_isSound_r2 : List Cond := [Cond.instanceMethod yX0_toldPallets, Cond.selects RX0 yX0_toldPallets yX0_toldPallets, Cond.code yX0_toldPallets cX0_toldPallets 6 (some .int), Cond.fieldLink RX0 9 "PalletGram$Chains" "lengths" "[I", Cond.methodLink RX0 27 yX0_number, Cond.instanceMethod yX0_number, Cond.selects RX0 yX0_number yX0_number, Cond.code yX0_number cX0_number 4 (some .int), Cond.fieldLink RX0 15 "PalletGram$Chains" "numbers" "[I", Cond.methodLink RX0 31 yX0_row, Cond.static yX0_row, Cond.code yX0_row cX0_row 2 (some .int), Cond.methodLink RX1 180 yX1_isIn, Cond.methodLink RX1 129 yX0_firstBroken, Cond.instanceMethod yX0_firstBroken, Cond.selects RX0 yX0_firstBroken yX0_firstBroken, Cond.code yX0_firstBroken cX0_firstBroken 3 (some .int), Cond.methodLink RX0 52 yX0_isBroken, Cond.instanceMethod yX0_isBroken, Cond.selects RX0 yX0_isBroken yX0_isBroken, Cond.code yX0_isBroken cX0_isBroken 3 (some .boolean), Cond.methodLink RX0 49 yX0_proof, Cond.instanceMethod yX0_proof, Cond.selects RX0 yX0_proof yX0_proof]
def wsX1_isSound_r3 : List Cond := [Cond.code yX0_proof cX0_proof 3 (some .int), Cond.fieldLink RX0 18 "PalletGram$Chains" "proofs" "[I", Cond.methodLink RX0 35 yX0_proofMade, Cond.instanceMethod yX0_proofMade, Cond.selects RX0 yX0_proofMade yX0_proofMade, Cond.code yX0_proofMade cX0_proofMade 6 (some .int)]
def wsX1_isSound : List Cond := .code yX1_isSound cX1_isSound 2 (some .boolean) :: ((wsX1_isSound_r1 ++ (wsX1_isSound_r2 ++ wsX1_isSound_r3)) ++ wsX10 ++ wsX00 ++ (vx_atS RX1 156 "java/lang/IndexOutOfBoundsException" ["java/lang/RuntimeException", "java/lang/Exception"]).filter goodWord)
def wsX1_pallet_r1 : List Cond := [Cond.fieldLink RX1 16 "PalletGram" "holders" "[I", Cond.fieldLink RX1 10 "PalletGram" "chains" "LPalletGram$Chains;", Cond.methodLink RX1 55 yX1_isPallet, Cond.instanceMethod yX1_isPallet, Cond.selects RX1 yX1_isPallet yX1_isPallet, Cond.initialized RX1, Cond.code yX1_isPallet cX1_isPallet 2 (some .boolean), Cond.fieldLink RX1 40 "PalletGram" "pallets" "I", Cond.methodLink RX1 36 yX1_needThere, Cond.static yX1_needThere, Cond.code yX1_needThere cX1_needThere 1 none, Cond.classLink RX1 152 "java/lang/IndexOutOfBoundsException", Cond.initialized "java/lang/IndexOutOfBoundsException", Cond.methodLink RX1 61 yX1_isWithin, Cond.static yX1_isWithin, Cond.code yX1_isWithin cX1_isWithin 3 (some .boolean), Cond.methodLink RX1 65 yX1_needRange, Cond.static yX1_needRange, Cond.code yX1_needRange cX1_needRange 1 none, Cond.classLink RX1 159 "java/lang/IllegalArgumentException", Cond.initialized "java/lang/IllegalArgumentException", Cond.methodLink RX1 78 yX0_length, Cond.instanceMethod yX0_length, Cond.selects RX0 yX0_length yX0_length]
def wsX1_pallet_r2 : List Cond := [Cond.initialized RX0, Cond.code yX0_length cX0_length 2 (some .int), Cond.fieldLink RX0 9 "PalletGram$Chains" "lengths" "[I", Cond.methodLink RX1 87 yX1_weightOf, Cond.instanceMethod yX1_weightOf, Cond.selects RX1 yX1_weightOf yX1_weightOf, Cond.code yX1_weightOf cX1_weightOf 4 (some .int), Cond.fieldLink RX1 20 "PalletGram" "goods" "[I", Cond.methodLink RX1 71 yX1_weightOfOne, Cond.static yX1_weightOfOne, Cond.code yX1_weightOfOne cX1_weightOfOne 1 (some .int), Cond.methodLink RX1 95 yX1_isHeld, Cond.instanceMethod yX1_isHeld, Cond.selects RX1 yX1_isHeld yX1_isHeld, Cond.code yX1_isHeld cX1_isHeld 2 (some .boolean), Cond.methodLink RX1 173 yX0_lastKind, Cond.instanceMethod yX0_lastKind, Cond.selects RX0 yX0_lastKind yX0_lastKind, Cond.code yX0_lastKind cX0_lastKind 3 (some .int), Cond.methodLink RX0 27 yX0_number, Cond.instanceMethod yX0_number, Cond.selects RX0 yX0_number yX0_number, Cond.code yX0_number cX0_number 4 (some .int), Cond.fieldLink RX0 15 "PalletGram$Chains" "numbers" "[I"]
def wsX1_pallet_r3 : List Cond := [Cond.methodLink RX0 31 yX0_row, Cond.static yX0_row, Cond.code yX0_row cX0_row 2 (some .int), Cond.methodLink RX1 90 yX1_isGone, Cond.instanceMethod yX1_isGone, Cond.selects RX1 yX1_isGone yX1_isGone, Cond.code yX1_isGone cX1_isGone 2 (some .boolean)]
def wsX1_pallet : List Cond := .code yX1_pallet cX1_pallet 3 (some .int) :: ((wsX1_pallet_r1 ++ (wsX1_pallet_r2 ++ wsX1_pallet_r3)) ++ wsX10 ++ wsX00 ++ (vx_atS RX1 156 "java/lang/IndexOutOfBoundsException" ["java/lang/RuntimeException", "java/lang/Exception"]).filter goodWord ++ (vx_atS RX1 163 "java/lang/IllegalArgumentException" ["java/lang/RuntimeException", "java/lang/Exception"]).filter goodWord)
def wsX1_entry_r1 : List Cond := [Cond.fieldLink RX1 10 "PalletGram" "chains" "LPalletGram$Chains;", Cond.methodLink RX1 55 yX1_isPallet, Cond.instanceMethod yX1_isPallet, Cond.selects RX1 yX1_isPallet yX1_isPallet, Cond.initialized RX1, Cond.code yX1_isPallet cX1_isPallet 2 (some .boolean), Cond.fieldLink RX1 40 "PalletGram" "pallets" "I", Cond.methodLink RX1 98 yX0_has, Cond.instanceMethod yX0_has, Cond.selects RX0 yX0_has yX0_has, Cond.initialized RX0, Cond.code yX0_has cX0_has 3 (some .boolean), Cond.fieldLink RX0 9 "PalletGram$Chains" "lengths" "[I", Cond.methodLink RX1 36 yX1_needThere, Cond.static yX1_needThere, Cond.code yX1_needThere cX1_needThere 1 none, Cond.classLink RX1 152 "java/lang/IndexOutOfBoundsException", Cond.initialized "java/lang/IndexOutOfBoundsException", Cond.methodLink RX1 61 yX1_isWithin, Cond.static yX1_isWithin, Cond.code yX1_isWithin cX1_isWithin 3 (some .boolean), Cond.methodLink RX1 65 yX1_needRange, Cond.static yX1_needRange, Cond.code yX1_needRange cX1_needRange 1 none]
def wsX1_entry_r2 : List Cond := [Cond.classLink RX1 159 "java/lang/IllegalArgumentException", Cond.initialized "java/lang/IllegalArgumentException", Cond.methodLink RX1 101 yX0_number, Cond.instanceMethod yX0_number, Cond.selects RX0 yX0_number yX0_number, Cond.code yX0_number cX0_number 4 (some .int), Cond.fieldLink RX0 15 "PalletGram$Chains" "numbers" "[I", Cond.methodLink RX0 31 yX0_row, Cond.static yX0_row, Cond.code yX0_row cX0_row 2 (some .int), Cond.methodLink RX1 135 yX0_proof, Cond.instanceMethod yX0_proof, Cond.selects RX0 yX0_proof yX0_proof, Cond.code yX0_proof cX0_proof 3 (some .int), Cond.fieldLink RX0 18 "PalletGram$Chains" "proofs" "[I", Cond.methodLink RX1 115 yX0_copies, Cond.instanceMethod yX0_copies, Cond.selects RX0 yX0_copies yX0_copies, Cond.code yX0_copies cX0_copies 3 (some .int), Cond.fieldLink RX0 21 "PalletGram$Chains" "copies" "[I"]
def wsX1_entry : List Cond := .code yX1_entry cX1_entry 4 (some .int) :: ((wsX1_entry_r1 ++ wsX1_entry_r2) ++ wsX10 ++ wsX00 ++ (vx_atS RX1 156 "java/lang/IndexOutOfBoundsException" ["java/lang/RuntimeException", "java/lang/Exception"]).filter goodWord ++ (vx_atS RX1 163 "java/lang/IllegalArgumentException" ["java/lang/RuntimeException", "java/lang/Exception"]).filter goodWord)
def wsX1_contents : List Cond := .code yX1_contents cX1_contents 3 (some .int) :: ([.fieldLink RX1 20 "PalletGram" "goods" "[I", .methodLink RX1 55 yX1_isPallet, .instanceMethod yX1_isPallet, .selects RX1 yX1_isPallet yX1_isPallet, .initialized RX1, .code yX1_isPallet cX1_isPallet 2 (some .boolean), .fieldLink RX1 40 "PalletGram" "pallets" "I", .methodLink RX1 58 yX1_isGood, .static yX1_isGood, .code yX1_isGood cX1_isGood 1 (some .boolean), .methodLink RX1 36 yX1_needThere, .static yX1_needThere, .code yX1_needThere cX1_needThere 1 none, .classLink RX1 152 "java/lang/IndexOutOfBoundsException", .initialized "java/lang/IndexOutOfBoundsException"] ++ wsX10 ++ (vx_atS RX1 156 "java/lang/IndexOutOfBoundsException" ["java/lang/RuntimeException", "java/lang/Exception"]).filter goodWord)
def wsX1_toldByPapers_r1 : List Cond := [Cond.fieldLink RX1 10 "PalletGram" "chains" "LPalletGram$Chains;", Cond.fieldLink RX1 40 "PalletGram" "pallets" "I", Cond.methodLink RX1 90 yX1_isGone, Cond.instanceMethod yX1_isGone, Cond.selects RX1 yX1_isGone yX1_isGone, Cond.initialized RX1, Cond.code yX1_isGone cX1_isGone 2 (some .boolean), Cond.methodLink RX1 173 yX0_lastKind, Cond.instanceMethod yX0_lastKind, Cond.selects RX0 yX0_lastKind yX0_lastKind, Cond.initialized RX0, Cond.code yX0_lastKind cX0_lastKind 3 (some .int), Cond.fieldLink RX0 9 "PalletGram$Chains" "lengths" "[I", Cond.methodLink RX0 27 yX0_number, Cond.instanceMethod yX0_number, Cond.selects RX0 yX0_number yX0_number, Cond.code yX0_number cX0_number 4 (some .int), Cond.fieldLink RX0 15 "PalletGram$Chains" "numbers" "[I", Cond.methodLink RX0 31 yX0_row, Cond.static yX0_row, Cond.code yX0_row cX0_row 2 (some .int), Cond.methodLink RX1 176 yX0_reach, Cond.instanceMethod yX0_reach, Cond.selects RX0 yX0_reach yX0_reach]
def wsX1_toldByPapers_r2 : List Cond := [Cond.code yX0_reach cX0_reach 7 (some .int), Cond.static yX1_isIn, Cond.code yX1_isIn cX1_isIn 2 (some .boolean), Cond.methodLink RX0 55 yX0_toldPallets, Cond.instanceMethod yX0_toldPallets, Cond.selects RX0 yX0_toldPallets yX0_toldPallets, Cond.code yX0_toldPallets cX0_toldPallets 6 (some .int), Cond.methodLink RX1 180 yX1_isIn, Cond.methodLink RX1 183 yX0_toldByOwnEntries, Cond.instanceMethod yX0_toldByOwnEntries, Cond.selects RX0 yX0_toldByOwnEntries yX0_toldByOwnEntries, Cond.code yX0_toldByOwnEntries cX0_toldByOwnEntries 5 (some .int), Cond.methodLink RX0 59 yX0_sign, Cond.static yX0_sign, Cond.code yX0_sign cX0_sign 1 (some .int)]
def wsX1_toldByPapers : List Cond := .code yX1_toldByPapers cX1_toldByPapers 6 (some .int) :: ((wsX1_toldByPapers_r1 ++ wsX1_toldByPapers_r2) ++ wsX10 ++ wsX00)
def wsX1_contentsAnew_r1 : List Cond := [Cond.methodLink RX1 55 yX1_isPallet, Cond.instanceMethod yX1_isPallet, Cond.selects RX1 yX1_isPallet yX1_isPallet, Cond.initialized RX1, Cond.code yX1_isPallet cX1_isPallet 2 (some .boolean), Cond.fieldLink RX1 40 "PalletGram" "pallets" "I", Cond.methodLink RX1 58 yX1_isGood, Cond.static yX1_isGood, Cond.code yX1_isGood cX1_isGood 1 (some .boolean), Cond.methodLink RX1 36 yX1_needThere, Cond.static yX1_needThere, Cond.code yX1_needThere cX1_needThere 1 none, Cond.classLink RX1 152 "java/lang/IndexOutOfBoundsException", Cond.initialized "java/lang/IndexOutOfBoundsException", Cond.methodLink RX1 138 yX1_toldByPapers, Cond.instanceMethod yX1_toldByPapers, Cond.selects RX1 yX1_toldByPapers yX1_toldByPapers, Cond.code yX1_toldByPapers cX1_toldByPapers 6 (some .int), Cond.fieldLink RX1 10 "PalletGram" "chains" "LPalletGram$Chains;", Cond.methodLink RX1 90 yX1_isGone, Cond.instanceMethod yX1_isGone, Cond.selects RX1 yX1_isGone yX1_isGone, Cond.code yX1_isGone cX1_isGone 2 (some .boolean), Cond.methodLink RX1 173 yX0_lastKind]
def wsX1_contentsAnew_r2 : List Cond := [Cond.instanceMethod yX0_lastKind, Cond.selects RX0 yX0_lastKind yX0_lastKind, Cond.initialized RX0, Cond.code yX0_lastKind cX0_lastKind 3 (some .int), Cond.fieldLink RX0 9 "PalletGram$Chains" "lengths" "[I", Cond.methodLink RX0 27 yX0_number, Cond.instanceMethod yX0_number, Cond.selects RX0 yX0_number yX0_number, Cond.code yX0_number cX0_number 4 (some .int), Cond.fieldLink RX0 15 "PalletGram$Chains" "numbers" "[I", Cond.methodLink RX0 31 yX0_row, Cond.static yX0_row, Cond.code yX0_row cX0_row 2 (some .int), Cond.methodLink RX1 176 yX0_reach, Cond.instanceMethod yX0_reach, Cond.selects RX0 yX0_reach yX0_reach, Cond.code yX0_reach cX0_reach 7 (some .int), Cond.static yX1_isIn, Cond.code yX1_isIn cX1_isIn 2 (some .boolean), Cond.methodLink RX0 55 yX0_toldPallets, Cond.instanceMethod yX0_toldPallets, Cond.selects RX0 yX0_toldPallets yX0_toldPallets, Cond.code yX0_toldPallets cX0_toldPallets 6 (some .int), Cond.methodLink RX1 180 yX1_isIn]
def wsX1_contentsAnew_r3 : List Cond := [Cond.methodLink RX1 183 yX0_toldByOwnEntries, Cond.instanceMethod yX0_toldByOwnEntries, Cond.selects RX0 yX0_toldByOwnEntries yX0_toldByOwnEntries, Cond.code yX0_toldByOwnEntries cX0_toldByOwnEntries 5 (some .int), Cond.methodLink RX0 59 yX0_sign, Cond.static yX0_sign, Cond.code yX0_sign cX0_sign 1 (some .int)]
def wsX1_contentsAnew : List Cond := .code yX1_contentsAnew cX1_contentsAnew 3 (some .int) :: ((wsX1_contentsAnew_r1 ++ (wsX1_contentsAnew_r2 ++ wsX1_contentsAnew_r3)) ++ wsX10 ++ wsX00 ++ (vx_atS RX1 156 "java/lang/IndexOutOfBoundsException" ["java/lang/RuntimeException", "java/lang/Exception"]).filter goodWord)
def wsX1_isTruck : List Cond := .code yX1_isTruck cX1_isTruck 1 (some .boolean) :: ([])
def wsX1_declare : List Cond := .code yX1_declare cX1_declare 6 (some .int) :: ([.fieldLink RX1 23 "PalletGram" "declared" "[I", .methodLink RX1 141 yX1_isTruck, .static yX1_isTruck, .initialized RX1, .code yX1_isTruck cX1_isTruck 1 (some .boolean), .methodLink RX1 58 yX1_isGood, .static yX1_isGood, .code yX1_isGood cX1_isGood 1 (some .boolean), .methodLink RX1 36 yX1_needThere, .static yX1_needThere, .code yX1_needThere cX1_needThere 1 none, .classLink RX1 152 "java/lang/IndexOutOfBoundsException", .initialized "java/lang/IndexOutOfBoundsException", .methodLink RX1 61 yX1_isWithin, .static yX1_isWithin, .code yX1_isWithin cX1_isWithin 3 (some .boolean), .methodLink RX1 65 yX1_needRange, .static yX1_needRange, .code yX1_needRange cX1_needRange 1 none, .classLink RX1 159 "java/lang/IllegalArgumentException", .initialized "java/lang/IllegalArgumentException"] ++ wsX10 ++ (vx_atS RX1 156 "java/lang/IndexOutOfBoundsException" ["java/lang/RuntimeException", "java/lang/Exception"]).filter goodWord ++ (vx_atS RX1 163 "java/lang/IllegalArgumentException" ["java/lang/RuntimeException", "java/lang/Exception"]).filter goodWord)
def wsX1_toldOfTruck_r1 : List Cond := [Cond.fieldLink RX1 40 "PalletGram" "pallets" "I", Cond.fieldLink RX1 16 "PalletGram" "holders" "[I", Cond.methodLink RX1 138 yX1_toldByPapers, Cond.instanceMethod yX1_toldByPapers, Cond.selects RX1 yX1_toldByPapers yX1_toldByPapers, Cond.initialized RX1, Cond.code yX1_toldByPapers cX1_toldByPapers 6 (some .int), Cond.fieldLink RX1 10 "PalletGram" "chains" "LPalletGram$Chains;", Cond.methodLink RX1 90 yX1_isGone, Cond.instanceMethod yX1_isGone, Cond.selects RX1 yX1_isGone yX1_isGone, Cond.code yX1_isGone cX1_isGone 2 (some .boolean), Cond.methodLink RX1 173 yX0_lastKind, Cond.instanceMethod yX0_lastKind, Cond.selects RX0 yX0_lastKind yX0_lastKind, Cond.initialized RX0, Cond.code yX0_lastKind cX0_lastKind 3 (some .int), Cond.fieldLink RX0 9 "PalletGram$Chains" "lengths" "[I", Cond.methodLink RX0 27 yX0_number, Cond.instanceMethod yX0_number, Cond.selects RX0 yX0_number yX0_number, Cond.code yX0_number cX0_number 4 (some .int), Cond.fieldLink RX0 15 "PalletGram$Chains" "numbers" "[I", Cond.methodLink RX0 31 yX0_row]
def wsX1_toldOfTruck_r2 : List Cond := [Cond.static yX0_row, Cond.code yX0_row cX0_row 2 (some .int), Cond.methodLink RX1 176 yX0_reach, Cond.instanceMethod yX0_reach, Cond.selects RX0 yX0_reach yX0_reach, Cond.code yX0_reach cX0_reach 7 (some .int), Cond.static yX1_isIn, Cond.code yX1_isIn cX1_isIn 2 (some .boolean), Cond.methodLink RX0 55 yX0_toldPallets, Cond.instanceMethod yX0_toldPallets, Cond.selects RX0 yX0_toldPallets yX0_toldPallets, Cond.code yX0_toldPallets cX0_toldPallets 6 (some .int), Cond.methodLink RX1 180 yX1_isIn, Cond.methodLink RX1 183 yX0_toldByOwnEntries, Cond.instanceMethod yX0_toldByOwnEntries, Cond.selects RX0 yX0_toldByOwnEntries yX0_toldByOwnEntries, Cond.code yX0_toldByOwnEntries cX0_toldByOwnEntries 5 (some .int), Cond.methodLink RX0 59 yX0_sign, Cond.static yX0_sign, Cond.code yX0_sign cX0_sign 1 (some .int)]
def wsX1_toldOfTruck : List Cond := .code yX1_toldOfTruck cX1_toldOfTruck 5 (some .int) :: ((wsX1_toldOfTruck_r1 ++ wsX1_toldOfTruck_r2) ++ wsX10 ++ wsX00)
def wsX1_mismatch_r1 : List Cond := [Cond.fieldLink RX1 23 "PalletGram" "declared" "[I", Cond.methodLink RX1 147 Lib.Math.abs.name, Cond.static Lib.Math.abs.name, Cond.initialized "java/lang/Math", Cond.code Lib.Math.abs.name Lib.Math.abs.code 1 (some .int), Cond.methodLink RX1 141 yX1_isTruck, Cond.static yX1_isTruck, Cond.initialized RX1, Cond.code yX1_isTruck cX1_isTruck 1 (some .boolean), Cond.methodLink RX1 36 yX1_needThere, Cond.static yX1_needThere, Cond.code yX1_needThere cX1_needThere 1 none, Cond.classLink RX1 152 "java/lang/IndexOutOfBoundsException", Cond.initialized "java/lang/IndexOutOfBoundsException", Cond.methodLink RX1 144 yX1_toldOfTruck, Cond.instanceMethod yX1_toldOfTruck, Cond.selects RX1 yX1_toldOfTruck yX1_toldOfTruck, Cond.code yX1_toldOfTruck cX1_toldOfTruck 5 (some .int), Cond.fieldLink RX1 40 "PalletGram" "pallets" "I", Cond.fieldLink RX1 16 "PalletGram" "holders" "[I", Cond.methodLink RX1 138 yX1_toldByPapers, Cond.instanceMethod yX1_toldByPapers, Cond.selects RX1 yX1_toldByPapers yX1_toldByPapers, Cond.code yX1_toldByPapers cX1_toldByPapers 6 (some .int)]
def wsX1_mismatch_r2 : List Cond := [Cond.fieldLink RX1 10 "PalletGram" "chains" "LPalletGram$Chains;", Cond.methodLink RX1 90 yX1_isGone, Cond.instanceMethod yX1_isGone, Cond.selects RX1 yX1_isGone yX1_isGone, Cond.code yX1_isGone cX1_isGone 2 (some .boolean), Cond.methodLink RX1 173 yX0_lastKind, Cond.instanceMethod yX0_lastKind, Cond.selects RX0 yX0_lastKind yX0_lastKind, Cond.initialized RX0, Cond.code yX0_lastKind cX0_lastKind 3 (some .int), Cond.fieldLink RX0 9 "PalletGram$Chains" "lengths" "[I", Cond.methodLink RX0 27 yX0_number, Cond.instanceMethod yX0_number, Cond.selects RX0 yX0_number yX0_number, Cond.code yX0_number cX0_number 4 (some .int), Cond.fieldLink RX0 15 "PalletGram$Chains" "numbers" "[I", Cond.methodLink RX0 31 yX0_row, Cond.static yX0_row, Cond.code yX0_row cX0_row 2 (some .int), Cond.methodLink RX1 176 yX0_reach, Cond.instanceMethod yX0_reach, Cond.selects RX0 yX0_reach yX0_reach, Cond.code yX0_reach cX0_reach 7 (some .int), Cond.static yX1_isIn]
def wsX1_mismatch_r3 : List Cond := [Cond.code yX1_isIn cX1_isIn 2 (some .boolean), Cond.methodLink RX0 55 yX0_toldPallets, Cond.instanceMethod yX0_toldPallets, Cond.selects RX0 yX0_toldPallets yX0_toldPallets, Cond.code yX0_toldPallets cX0_toldPallets 6 (some .int), Cond.methodLink RX1 180 yX1_isIn, Cond.methodLink RX1 183 yX0_toldByOwnEntries, Cond.instanceMethod yX0_toldByOwnEntries, Cond.selects RX0 yX0_toldByOwnEntries yX0_toldByOwnEntries, Cond.code yX0_toldByOwnEntries cX0_toldByOwnEntries 5 (some .int), Cond.methodLink RX0 59 yX0_sign, Cond.static yX0_sign, Cond.code yX0_sign cX0_sign 1 (some .int)]
def wsX1_mismatch : List Cond := .code yX1_mismatch cX1_mismatch 4 (some .int) :: ((wsX1_mismatch_r1 ++ (wsX1_mismatch_r2 ++ wsX1_mismatch_r3)) ++ wsX10 ++ wsX00 ++ (vx_atS RX1 156 "java/lang/IndexOutOfBoundsException" ["java/lang/RuntimeException", "java/lang/Exception"]).filter goodWord)
def wsX1_fee : List Cond := .code yX1_fee cX1_fee 4 (some .int) :: ([.fieldLink RX1 26 "PalletGram" "fees" "[I", .methodLink RX1 61 yX1_isWithin, .static yX1_isWithin, .initialized RX1, .code yX1_isWithin cX1_isWithin 3 (some .boolean), .methodLink RX1 65 yX1_needRange, .static yX1_needRange, .code yX1_needRange cX1_needRange 1 none, .classLink RX1 159 "java/lang/IllegalArgumentException", .initialized "java/lang/IllegalArgumentException"] ++ wsX10 ++ (vx_atS RX1 163 "java/lang/IllegalArgumentException" ["java/lang/RuntimeException", "java/lang/Exception"]).filter goodWord)
def wsX1_owed : List Cond := .code yX1_owed cX1_owed 2 (some .int) :: ([.fieldLink RX1 29 "PalletGram" "debts" "[I", .methodLink RX1 109 yX1_isOwer, .static yX1_isOwer, .initialized RX1, .code yX1_isOwer cX1_isOwer 1 (some .boolean), .methodLink RX1 36 yX1_needThere, .static yX1_needThere, .code yX1_needThere cX1_needThere 1 none, .classLink RX1 152 "java/lang/IndexOutOfBoundsException", .initialized "java/lang/IndexOutOfBoundsException"] ++ wsX10 ++ (vx_atS RX1 156 "java/lang/IndexOutOfBoundsException" ["java/lang/RuntimeException", "java/lang/Exception"]).filter goodWord)
def wsX2_init : List Cond := .code yX2_init cX2_init 2 none :: ([.methodLink RX2 1 objectInit, .instanceMethod objectInit, .code objectInit ⟨#[0xb1]⟩ 1 none, .arrayClass .int, .fieldLink RX2 7 "PalletGramModel" "holder" "[I", .fieldLink RX2 13 "PalletGramModel" "goods" "[I", .fieldLink RX2 16 "PalletGramModel" "many" "[I", .arrayClass .boolean, .fieldLink RX2 19 "PalletGramModel" "isHeld" "[Z", .fieldLink RX2 23 "PalletGramModel" "isGone" "[Z", .fieldLink RX2 26 "PalletGramModel" "went" "[I", .fieldLink RX2 29 "PalletGramModel" "kind" "[I", .fieldLink RX2 32 "PalletGramModel" "maker" "[I", .fieldLink RX2 35 "PalletGramModel" "good" "[I", .fieldLink RX2 38 "PalletGramModel" "amount" "[I", .fieldLink RX2 41 "PalletGramModel" "other" "[I", .fieldLink RX2 44 "PalletGramModel" "its" "[I", .fieldLink RX2 47 "PalletGramModel" "was" "[I", .fieldLink RX2 50 "PalletGramModel" "proof" "[I", .fieldLink RX2 53 "PalletGramModel" "copies" "[I", .fieldLink RX2 56 "PalletGramModel" "declared" "[I", .fieldLink RX2 59 "PalletGramModel" "fee" "[I", .fieldLink RX2 62 "PalletGramModel" "owed" "[I", .fieldLink RX2 65 "PalletGramModel" "told" "[I"] ++ wsX20)
def wsX2_thrown : List Cond := .code yX2_thrown cX2_thrown 1 (some .int) :: ([.fieldLink RX2 68 "PalletGramModel" "thrown" "I"] ++ wsX20)
def wsX2_holds : List Cond := .code yX2_holds cX2_holds 2 (some .boolean) :: ([.fieldLink RX2 68 "PalletGramModel" "thrown" "I"] ++ wsX20)
def wsX2_isIn : List Cond := .code yX2_isIn cX2_isIn 3 (some .boolean) :: ([])
def wsX2_isPallet : List Cond := .code yX2_isPallet cX2_isPallet 2 (some .boolean) :: ([.fieldLink RX2 72 "PalletGramModel" "pallets" "I", .methodLink RX2 75 yX2_isIn, .static yX2_isIn, .initialized RX2, .code yX2_isIn cX2_isIn 3 (some .boolean)] ++ wsX20)
def wsX2_isGood : List Cond := .code yX2_isGood cX2_isGood 1 (some .boolean) :: ([.methodLink RX2 75 yX2_isIn, .static yX2_isIn, .initialized RX2, .code yX2_isIn cX2_isIn 3 (some .boolean)])
def wsX2_isEntry : List Cond := .code yX2_isEntry cX2_isEntry 3 (some .boolean) :: ([.fieldLink RX2 16 "PalletGramModel" "many" "[I", .methodLink RX2 79 yX2_isPallet, .instanceMethod yX2_isPallet, .selects RX2 yX2_isPallet yX2_isPallet, .initialized RX2, .code yX2_isPallet cX2_isPallet 2 (some .boolean), .fieldLink RX2 72 "PalletGramModel" "pallets" "I", .methodLink RX2 75 yX2_isIn, .static yX2_isIn, .code yX2_isIn cX2_isIn 3 (some .boolean)] ++ wsX20)
def wsX2_proofOf : List Cond := .code yX2_proofOf cX2_proofOf 5 (some .int) :: ([.fieldLink RX2 50 "PalletGramModel" "proof" "[I", .fieldLink RX2 29 "PalletGramModel" "kind" "[I", .fieldLink RX2 32 "PalletGramModel" "maker" "[I", .fieldLink RX2 35 "PalletGramModel" "good" "[I", .fieldLink RX2 38 "PalletGramModel" "amount" "[I", .fieldLink RX2 41 "PalletGramModel" "other" "[I", .fieldLink RX2 44 "PalletGramModel" "its" "[I"] ++ wsX20)
def wsX2_writes : List Cond := .code yX2_writes cX2_writes 9 none :: ([.fieldLink RX2 16 "PalletGramModel" "many" "[I", .fieldLink RX2 7 "PalletGramModel" "holder" "[I", .fieldLink RX2 29 "PalletGramModel" "kind" "[I", .fieldLink RX2 32 "PalletGramModel" "maker" "[I", .fieldLink RX2 35 "PalletGramModel" "good" "[I", .fieldLink RX2 38 "PalletGramModel" "amount" "[I", .fieldLink RX2 41 "PalletGramModel" "other" "[I", .fieldLink RX2 44 "PalletGramModel" "its" "[I", .fieldLink RX2 47 "PalletGramModel" "was" "[I", .fieldLink RX2 50 "PalletGramModel" "proof" "[I", .fieldLink RX2 53 "PalletGramModel" "copies" "[I", .fieldLink RX2 62 "PalletGramModel" "owed" "[I", .fieldLink RX2 59 "PalletGramModel" "fee" "[I", .methodLink RX2 83 yX2_proofOf, .instanceMethod yX2_proofOf, .selects RX2 yX2_proofOf yX2_proofOf, .initialized RX2, .code yX2_proofOf cX2_proofOf 5 (some .int)] ++ wsX20)
def wsX2_isBroken : List Cond := .code yX2_isBroken cX2_isBroken 3 (some .boolean) :: ([.fieldLink RX2 50 "PalletGramModel" "proof" "[I", .methodLink RX2 83 yX2_proofOf, .instanceMethod yX2_proofOf, .selects RX2 yX2_proofOf yX2_proofOf, .initialized RX2, .code yX2_proofOf cX2_proofOf 5 (some .int), .fieldLink RX2 29 "PalletGramModel" "kind" "[I", .fieldLink RX2 32 "PalletGramModel" "maker" "[I", .fieldLink RX2 35 "PalletGramModel" "good" "[I", .fieldLink RX2 38 "PalletGramModel" "amount" "[I", .fieldLink RX2 41 "PalletGramModel" "other" "[I", .fieldLink RX2 44 "PalletGramModel" "its" "[I"] ++ wsX20)
def wsX2_firstBroken : List Cond := .code yX2_firstBroken cX2_firstBroken 3 (some .int) :: ([.fieldLink RX2 16 "PalletGramModel" "many" "[I", .methodLink RX2 87 yX2_isBroken, .instanceMethod yX2_isBroken, .selects RX2 yX2_isBroken yX2_isBroken, .initialized RX2, .code yX2_isBroken cX2_isBroken 3 (some .boolean), .fieldLink RX2 50 "PalletGramModel" "proof" "[I", .methodLink RX2 83 yX2_proofOf, .instanceMethod yX2_proofOf, .selects RX2 yX2_proofOf yX2_proofOf, .code yX2_proofOf cX2_proofOf 5 (some .int), .fieldLink RX2 29 "PalletGramModel" "kind" "[I", .fieldLink RX2 32 "PalletGramModel" "maker" "[I", .fieldLink RX2 35 "PalletGramModel" "good" "[I", .fieldLink RX2 38 "PalletGramModel" "amount" "[I", .fieldLink RX2 41 "PalletGramModel" "other" "[I", .fieldLink RX2 44 "PalletGramModel" "its" "[I"] ++ wsX20)
def wsX2_sound : List Cond := .code yX2_sound cX2_sound 6 (some .boolean) :: ([.fieldLink RX2 16 "PalletGramModel" "many" "[I", .fieldLink RX2 29 "PalletGramModel" "kind" "[I", .fieldLink RX2 41 "PalletGramModel" "other" "[I", .methodLink RX2 91 yX2_firstBroken, .instanceMethod yX2_firstBroken, .selects RX2 yX2_firstBroken yX2_firstBroken, .initialized RX2, .code yX2_firstBroken cX2_firstBroken 3 (some .int), .methodLink RX2 87 yX2_isBroken, .instanceMethod yX2_isBroken, .selects RX2 yX2_isBroken yX2_isBroken, .code yX2_isBroken cX2_isBroken 3 (some .boolean), .fieldLink RX2 50 "PalletGramModel" "proof" "[I", .methodLink RX2 83 yX2_proofOf, .instanceMethod yX2_proofOf, .selects RX2 yX2_proofOf yX2_proofOf, .code yX2_proofOf cX2_proofOf 5 (some .int), .fieldLink RX2 32 "PalletGramModel" "maker" "[I", .fieldLink RX2 35 "PalletGramModel" "good" "[I", .fieldLink RX2 38 "PalletGramModel" "amount" "[I", .fieldLink RX2 44 "PalletGramModel" "its" "[I"] ++ wsX20)
def wsX2_canWork_r1 : List Cond := [Cond.fieldLink RX2 19 "PalletGramModel" "isHeld" "[Z", Cond.fieldLink RX2 23 "PalletGramModel" "isGone" "[Z", Cond.fieldLink RX2 16 "PalletGramModel" "many" "[I", Cond.methodLink RX2 95 yX2_sound, Cond.instanceMethod yX2_sound, Cond.selects RX2 yX2_sound yX2_sound, Cond.initialized RX2, Cond.code yX2_sound cX2_sound 6 (some .boolean), Cond.fieldLink RX2 29 "PalletGramModel" "kind" "[I", Cond.fieldLink RX2 41 "PalletGramModel" "other" "[I", Cond.methodLink RX2 91 yX2_firstBroken, Cond.instanceMethod yX2_firstBroken, Cond.selects RX2 yX2_firstBroken yX2_firstBroken, Cond.code yX2_firstBroken cX2_firstBroken 3 (some .int), Cond.methodLink RX2 87 yX2_isBroken, Cond.instanceMethod yX2_isBroken, Cond.selects RX2 yX2_isBroken yX2_isBroken, Cond.code yX2_isBroken cX2_isBroken 3 (some .boolean), Cond.fieldLink RX2 50 "PalletGramModel" "proof" "[I", Cond.methodLink RX2 83 yX2_proofOf, Cond.instanceMethod yX2_proofOf, Cond.selects RX2 yX2_proofOf yX2_proofOf, Cond.code yX2_proofOf cX2_proofOf 5 (some .int), Cond.fieldLink RX2 32 "PalletGramModel" "maker" "[I"]
def wsX2_canWork_r2 : List Cond := [Cond.fieldLink RX2 35 "PalletGramModel" "good" "[I", Cond.fieldLink RX2 38 "PalletGramModel" "amount" "[I", Cond.fieldLink RX2 44 "PalletGramModel" "its" "[I"]
def wsX2_canWork : List Cond := .code yX2_canWork cX2_canWork 2 (some .boolean) :: ((wsX2_canWork_r1 ++ wsX2_canWork_r2) ++ wsX20)
def wsX2_weight : List Cond := .code yX2_weight cX2_weight 4 (some .int) :: ([.fieldLink RX2 13 "PalletGramModel" "goods" "[I"] ++ wsX20)
def wsX2_hasRoom : List Cond := .code yX2_hasRoom cX2_hasRoom 5 (some .boolean) :: ([.fieldLink RX2 72 "PalletGramModel" "pallets" "I", .fieldLink RX2 7 "PalletGramModel" "holder" "[I", .methodLink RX2 98 yX2_weight, .instanceMethod yX2_weight, .selects RX2 yX2_weight yX2_weight, .initialized RX2, .code yX2_weight cX2_weight 4 (some .int), .fieldLink RX2 13 "PalletGramModel" "goods" "[I"] ++ wsX20)
def wsX2_makes : List Cond := .code yX2_makes cX2_makes 3 (some .int) :: ([.fieldLink RX2 72 "PalletGramModel" "pallets" "I", .fieldLink RX2 7 "PalletGramModel" "holder" "[I"] ++ wsX20)
def wsX2_make_r1 : List Cond := [Cond.fieldLink RX2 72 "PalletGramModel" "pallets" "I", Cond.methodLink RX2 75 yX2_isIn, Cond.static yX2_isIn, Cond.initialized RX2, Cond.code yX2_isIn cX2_isIn 3 (some .boolean), Cond.methodLink RX2 101 yX2_holds, Cond.instanceMethod yX2_holds, Cond.selects RX2 yX2_holds yX2_holds, Cond.code yX2_holds cX2_holds 2 (some .boolean), Cond.fieldLink RX2 68 "PalletGramModel" "thrown" "I", Cond.methodLink RX2 104 yX2_makes, Cond.instanceMethod yX2_makes, Cond.selects RX2 yX2_makes yX2_makes, Cond.code yX2_makes cX2_makes 3 (some .int), Cond.fieldLink RX2 7 "PalletGramModel" "holder" "[I", Cond.methodLink RX2 107 yX2_writes, Cond.instanceMethod yX2_writes, Cond.selects RX2 yX2_writes yX2_writes, Cond.code yX2_writes cX2_writes 9 none, Cond.fieldLink RX2 16 "PalletGramModel" "many" "[I", Cond.fieldLink RX2 29 "PalletGramModel" "kind" "[I", Cond.fieldLink RX2 32 "PalletGramModel" "maker" "[I", Cond.fieldLink RX2 35 "PalletGramModel" "good" "[I", Cond.fieldLink RX2 38 "PalletGramModel" "amount" "[I"]
def wsX2_make_r2 : List Cond := [Cond.fieldLink RX2 41 "PalletGramModel" "other" "[I", Cond.fieldLink RX2 44 "PalletGramModel" "its" "[I", Cond.fieldLink RX2 47 "PalletGramModel" "was" "[I", Cond.fieldLink RX2 50 "PalletGramModel" "proof" "[I", Cond.fieldLink RX2 53 "PalletGramModel" "copies" "[I", Cond.fieldLink RX2 62 "PalletGramModel" "owed" "[I", Cond.fieldLink RX2 59 "PalletGramModel" "fee" "[I", Cond.methodLink RX2 83 yX2_proofOf, Cond.instanceMethod yX2_proofOf, Cond.selects RX2 yX2_proofOf yX2_proofOf, Cond.code yX2_proofOf cX2_proofOf 5 (some .int)]
def wsX2_make : List Cond := .code yX2_make cX2_make 4 (some .int) :: ((wsX2_make_r1 ++ wsX2_make_r2) ++ wsX20)
def wsX2_canLoad_r1 : List Cond := [Cond.fieldLink RX2 13 "PalletGramModel" "goods" "[I", Cond.fieldLink RX2 7 "PalletGramModel" "holder" "[I", Cond.methodLink RX2 111 yX2_canWork, Cond.instanceMethod yX2_canWork, Cond.selects RX2 yX2_canWork yX2_canWork, Cond.initialized RX2, Cond.code yX2_canWork cX2_canWork 2 (some .boolean), Cond.fieldLink RX2 19 "PalletGramModel" "isHeld" "[Z", Cond.fieldLink RX2 23 "PalletGramModel" "isGone" "[Z", Cond.fieldLink RX2 16 "PalletGramModel" "many" "[I", Cond.methodLink RX2 95 yX2_sound, Cond.instanceMethod yX2_sound, Cond.selects RX2 yX2_sound yX2_sound, Cond.code yX2_sound cX2_sound 6 (some .boolean), Cond.fieldLink RX2 29 "PalletGramModel" "kind" "[I", Cond.fieldLink RX2 41 "PalletGramModel" "other" "[I", Cond.methodLink RX2 91 yX2_firstBroken, Cond.instanceMethod yX2_firstBroken, Cond.selects RX2 yX2_firstBroken yX2_firstBroken, Cond.code yX2_firstBroken cX2_firstBroken 3 (some .int), Cond.methodLink RX2 87 yX2_isBroken, Cond.instanceMethod yX2_isBroken, Cond.selects RX2 yX2_isBroken yX2_isBroken, Cond.code yX2_isBroken cX2_isBroken 3 (some .boolean)]
def wsX2_canLoad_r2 : List Cond := [Cond.fieldLink RX2 50 "PalletGramModel" "proof" "[I", Cond.methodLink RX2 83 yX2_proofOf, Cond.instanceMethod yX2_proofOf, Cond.selects RX2 yX2_proofOf yX2_proofOf, Cond.code yX2_proofOf cX2_proofOf 5 (some .int), Cond.fieldLink RX2 32 "PalletGramModel" "maker" "[I", Cond.fieldLink RX2 35 "PalletGramModel" "good" "[I", Cond.fieldLink RX2 38 "PalletGramModel" "amount" "[I", Cond.fieldLink RX2 44 "PalletGramModel" "its" "[I", Cond.methodLink RX2 75 yX2_isIn, Cond.static yX2_isIn, Cond.code yX2_isIn cX2_isIn 3 (some .boolean), Cond.methodLink RX2 114 yX2_hasRoom, Cond.instanceMethod yX2_hasRoom, Cond.selects RX2 yX2_hasRoom yX2_hasRoom, Cond.code yX2_hasRoom cX2_hasRoom 5 (some .boolean), Cond.fieldLink RX2 72 "PalletGramModel" "pallets" "I", Cond.methodLink RX2 98 yX2_weight, Cond.instanceMethod yX2_weight, Cond.selects RX2 yX2_weight yX2_weight, Cond.code yX2_weight cX2_weight 4 (some .int)]
def wsX2_canLoad : List Cond := .code yX2_canLoad cX2_canLoad 5 (some .boolean) :: ((wsX2_canLoad_r1 ++ wsX2_canLoad_r2) ++ wsX20)
def wsX2_load_r1 : List Cond := [Cond.fieldLink RX2 13 "PalletGramModel" "goods" "[I", Cond.methodLink RX2 79 yX2_isPallet, Cond.instanceMethod yX2_isPallet, Cond.selects RX2 yX2_isPallet yX2_isPallet, Cond.initialized RX2, Cond.code yX2_isPallet cX2_isPallet 2 (some .boolean), Cond.fieldLink RX2 72 "PalletGramModel" "pallets" "I", Cond.methodLink RX2 75 yX2_isIn, Cond.static yX2_isIn, Cond.code yX2_isIn cX2_isIn 3 (some .boolean), Cond.methodLink RX2 117 yX2_isGood, Cond.static yX2_isGood, Cond.code yX2_isGood cX2_isGood 1 (some .boolean), Cond.methodLink RX2 120 yX2_canLoad, Cond.instanceMethod yX2_canLoad, Cond.selects RX2 yX2_canLoad yX2_canLoad, Cond.code yX2_canLoad cX2_canLoad 5 (some .boolean), Cond.fieldLink RX2 7 "PalletGramModel" "holder" "[I", Cond.methodLink RX2 111 yX2_canWork, Cond.instanceMethod yX2_canWork, Cond.selects RX2 yX2_canWork yX2_canWork, Cond.code yX2_canWork cX2_canWork 2 (some .boolean), Cond.fieldLink RX2 19 "PalletGramModel" "isHeld" "[Z", Cond.fieldLink RX2 23 "PalletGramModel" "isGone" "[Z"]
def wsX2_load_r2 : List Cond := [Cond.fieldLink RX2 16 "PalletGramModel" "many" "[I", Cond.methodLink RX2 95 yX2_sound, Cond.instanceMethod yX2_sound, Cond.selects RX2 yX2_sound yX2_sound, Cond.code yX2_sound cX2_sound 6 (some .boolean), Cond.fieldLink RX2 29 "PalletGramModel" "kind" "[I", Cond.fieldLink RX2 41 "PalletGramModel" "other" "[I", Cond.methodLink RX2 91 yX2_firstBroken, Cond.instanceMethod yX2_firstBroken, Cond.selects RX2 yX2_firstBroken yX2_firstBroken, Cond.code yX2_firstBroken cX2_firstBroken 3 (some .int), Cond.methodLink RX2 87 yX2_isBroken, Cond.instanceMethod yX2_isBroken, Cond.selects RX2 yX2_isBroken yX2_isBroken, Cond.code yX2_isBroken cX2_isBroken 3 (some .boolean), Cond.fieldLink RX2 50 "PalletGramModel" "proof" "[I", Cond.methodLink RX2 83 yX2_proofOf, Cond.instanceMethod yX2_proofOf, Cond.selects RX2 yX2_proofOf yX2_proofOf, Cond.code yX2_proofOf cX2_proofOf 5 (some .int), Cond.fieldLink RX2 32 "PalletGramModel" "maker" "[I", Cond.fieldLink RX2 35 "PalletGramModel" "good" "[I", Cond.fieldLink RX2 38 "PalletGramModel" "amount" "[I", Cond.fieldLink RX2 44 "PalletGramModel" "its" "[I"]
def wsX2_load_r3 : List Cond := [Cond.methodLink RX2 114 yX2_hasRoom, Cond.instanceMethod yX2_hasRoom, Cond.selects RX2 yX2_hasRoom yX2_hasRoom, Cond.code yX2_hasRoom cX2_hasRoom 5 (some .boolean), Cond.methodLink RX2 98 yX2_weight, Cond.instanceMethod yX2_weight, Cond.selects RX2 yX2_weight yX2_weight, Cond.code yX2_weight cX2_weight 4 (some .int), Cond.methodLink RX2 101 yX2_holds, Cond.instanceMethod yX2_holds, Cond.selects RX2 yX2_holds yX2_holds, Cond.code yX2_holds cX2_holds 2 (some .boolean), Cond.fieldLink RX2 68 "PalletGramModel" "thrown" "I", Cond.methodLink RX2 107 yX2_writes, Cond.instanceMethod yX2_writes, Cond.selects RX2 yX2_writes yX2_writes, Cond.code yX2_writes cX2_writes 9 none, Cond.fieldLink RX2 47 "PalletGramModel" "was" "[I", Cond.fieldLink RX2 53 "PalletGramModel" "copies" "[I", Cond.fieldLink RX2 62 "PalletGramModel" "owed" "[I", Cond.fieldLink RX2 59 "PalletGramModel" "fee" "[I"]
def wsX2_load : List Cond := .code yX2_load cX2_load 5 (some .int) :: ((wsX2_load_r1 ++ (wsX2_load_r2 ++ wsX2_load_r3)) ++ wsX20)
def wsX2_part_r1 : List Cond := [Cond.fieldLink RX2 13 "PalletGramModel" "goods" "[I", Cond.fieldLink RX2 72 "PalletGramModel" "pallets" "I", Cond.fieldLink RX2 7 "PalletGramModel" "holder" "[I", Cond.fieldLink RX2 16 "PalletGramModel" "many" "[I", Cond.methodLink RX2 79 yX2_isPallet, Cond.instanceMethod yX2_isPallet, Cond.selects RX2 yX2_isPallet yX2_isPallet, Cond.initialized RX2, Cond.code yX2_isPallet cX2_isPallet 2 (some .boolean), Cond.methodLink RX2 75 yX2_isIn, Cond.static yX2_isIn, Cond.code yX2_isIn cX2_isIn 3 (some .boolean), Cond.methodLink RX2 117 yX2_isGood, Cond.static yX2_isGood, Cond.code yX2_isGood cX2_isGood 1 (some .boolean), Cond.methodLink RX2 111 yX2_canWork, Cond.instanceMethod yX2_canWork, Cond.selects RX2 yX2_canWork yX2_canWork, Cond.code yX2_canWork cX2_canWork 2 (some .boolean), Cond.fieldLink RX2 19 "PalletGramModel" "isHeld" "[Z", Cond.fieldLink RX2 23 "PalletGramModel" "isGone" "[Z", Cond.methodLink RX2 95 yX2_sound, Cond.instanceMethod yX2_sound, Cond.selects RX2 yX2_sound yX2_sound]
def wsX2_part_r2 : List Cond := [Cond.code yX2_sound cX2_sound 6 (some .boolean), Cond.fieldLink RX2 29 "PalletGramModel" "kind" "[I", Cond.fieldLink RX2 41 "PalletGramModel" "other" "[I", Cond.methodLink RX2 91 yX2_firstBroken, Cond.instanceMethod yX2_firstBroken, Cond.selects RX2 yX2_firstBroken yX2_firstBroken, Cond.code yX2_firstBroken cX2_firstBroken 3 (some .int), Cond.methodLink RX2 87 yX2_isBroken, Cond.instanceMethod yX2_isBroken, Cond.selects RX2 yX2_isBroken yX2_isBroken, Cond.code yX2_isBroken cX2_isBroken 3 (some .boolean), Cond.fieldLink RX2 50 "PalletGramModel" "proof" "[I", Cond.methodLink RX2 83 yX2_proofOf, Cond.instanceMethod yX2_proofOf, Cond.selects RX2 yX2_proofOf yX2_proofOf, Cond.code yX2_proofOf cX2_proofOf 5 (some .int), Cond.fieldLink RX2 32 "PalletGramModel" "maker" "[I", Cond.fieldLink RX2 35 "PalletGramModel" "good" "[I", Cond.fieldLink RX2 38 "PalletGramModel" "amount" "[I", Cond.fieldLink RX2 44 "PalletGramModel" "its" "[I", Cond.methodLink RX2 101 yX2_holds, Cond.instanceMethod yX2_holds, Cond.selects RX2 yX2_holds yX2_holds, Cond.code yX2_holds cX2_holds 2 (some .boolean)]
def wsX2_part_r3 : List Cond := [Cond.fieldLink RX2 68 "PalletGramModel" "thrown" "I", Cond.methodLink RX2 104 yX2_makes, Cond.instanceMethod yX2_makes, Cond.selects RX2 yX2_makes yX2_makes, Cond.code yX2_makes cX2_makes 3 (some .int), Cond.methodLink RX2 107 yX2_writes, Cond.instanceMethod yX2_writes, Cond.selects RX2 yX2_writes yX2_writes, Cond.code yX2_writes cX2_writes 9 none, Cond.fieldLink RX2 47 "PalletGramModel" "was" "[I", Cond.fieldLink RX2 53 "PalletGramModel" "copies" "[I", Cond.fieldLink RX2 62 "PalletGramModel" "owed" "[I", Cond.fieldLink RX2 59 "PalletGramModel" "fee" "[I"]
def wsX2_part : List Cond := .code yX2_part cX2_part 7 (some .int) :: ((wsX2_part_r1 ++ (wsX2_part_r2 ++ wsX2_part_r3)) ++ wsX20)
def wsX2_canJoin_r1 : List Cond := [Cond.fieldLink RX2 7 "PalletGramModel" "holder" "[I", Cond.fieldLink RX2 13 "PalletGramModel" "goods" "[I", Cond.methodLink RX2 111 yX2_canWork, Cond.instanceMethod yX2_canWork, Cond.selects RX2 yX2_canWork yX2_canWork, Cond.initialized RX2, Cond.code yX2_canWork cX2_canWork 2 (some .boolean), Cond.fieldLink RX2 19 "PalletGramModel" "isHeld" "[Z", Cond.fieldLink RX2 23 "PalletGramModel" "isGone" "[Z", Cond.fieldLink RX2 16 "PalletGramModel" "many" "[I", Cond.methodLink RX2 95 yX2_sound, Cond.instanceMethod yX2_sound, Cond.selects RX2 yX2_sound yX2_sound, Cond.code yX2_sound cX2_sound 6 (some .boolean), Cond.fieldLink RX2 29 "PalletGramModel" "kind" "[I", Cond.fieldLink RX2 41 "PalletGramModel" "other" "[I", Cond.methodLink RX2 91 yX2_firstBroken, Cond.instanceMethod yX2_firstBroken, Cond.selects RX2 yX2_firstBroken yX2_firstBroken, Cond.code yX2_firstBroken cX2_firstBroken 3 (some .int), Cond.methodLink RX2 87 yX2_isBroken, Cond.instanceMethod yX2_isBroken, Cond.selects RX2 yX2_isBroken yX2_isBroken, Cond.code yX2_isBroken cX2_isBroken 3 (some .boolean)]
def wsX2_canJoin_r2 : List Cond := [Cond.fieldLink RX2 50 "PalletGramModel" "proof" "[I", Cond.methodLink RX2 83 yX2_proofOf, Cond.instanceMethod yX2_proofOf, Cond.selects RX2 yX2_proofOf yX2_proofOf, Cond.code yX2_proofOf cX2_proofOf 5 (some .int), Cond.fieldLink RX2 32 "PalletGramModel" "maker" "[I", Cond.fieldLink RX2 35 "PalletGramModel" "good" "[I", Cond.fieldLink RX2 38 "PalletGramModel" "amount" "[I", Cond.fieldLink RX2 44 "PalletGramModel" "its" "[I"]
def wsX2_canJoin : List Cond := .code yX2_canJoin cX2_canJoin 5 (some .boolean) :: ((wsX2_canJoin_r1 ++ wsX2_canJoin_r2) ++ wsX20)
def wsX2_join_r1 : List Cond := [Cond.fieldLink RX2 13 "PalletGramModel" "goods" "[I", Cond.fieldLink RX2 16 "PalletGramModel" "many" "[I", Cond.fieldLink RX2 23 "PalletGramModel" "isGone" "[Z", Cond.fieldLink RX2 26 "PalletGramModel" "went" "[I", Cond.fieldLink RX2 126 "PalletGramModel" "goers" "I", Cond.methodLink RX2 79 yX2_isPallet, Cond.instanceMethod yX2_isPallet, Cond.selects RX2 yX2_isPallet yX2_isPallet, Cond.initialized RX2, Cond.code yX2_isPallet cX2_isPallet 2 (some .boolean), Cond.fieldLink RX2 72 "PalletGramModel" "pallets" "I", Cond.methodLink RX2 75 yX2_isIn, Cond.static yX2_isIn, Cond.code yX2_isIn cX2_isIn 3 (some .boolean), Cond.methodLink RX2 123 yX2_canJoin, Cond.instanceMethod yX2_canJoin, Cond.selects RX2 yX2_canJoin yX2_canJoin, Cond.code yX2_canJoin cX2_canJoin 5 (some .boolean), Cond.fieldLink RX2 7 "PalletGramModel" "holder" "[I", Cond.methodLink RX2 111 yX2_canWork, Cond.instanceMethod yX2_canWork, Cond.selects RX2 yX2_canWork yX2_canWork, Cond.code yX2_canWork cX2_canWork 2 (some .boolean), Cond.fieldLink RX2 19 "PalletGramModel" "isHeld" "[Z"]
def wsX2_join_r2 : List Cond := [Cond.methodLink RX2 95 yX2_sound, Cond.instanceMethod yX2_sound, Cond.selects RX2 yX2_sound yX2_sound, Cond.code yX2_sound cX2_sound 6 (some .boolean), Cond.fieldLink RX2 29 "PalletGramModel" "kind" "[I", Cond.fieldLink RX2 41 "PalletGramModel" "other" "[I", Cond.methodLink RX2 91 yX2_firstBroken, Cond.instanceMethod yX2_firstBroken, Cond.selects RX2 yX2_firstBroken yX2_firstBroken, Cond.code yX2_firstBroken cX2_firstBroken 3 (some .int), Cond.methodLink RX2 87 yX2_isBroken, Cond.instanceMethod yX2_isBroken, Cond.selects RX2 yX2_isBroken yX2_isBroken, Cond.code yX2_isBroken cX2_isBroken 3 (some .boolean), Cond.fieldLink RX2 50 "PalletGramModel" "proof" "[I", Cond.methodLink RX2 83 yX2_proofOf, Cond.instanceMethod yX2_proofOf, Cond.selects RX2 yX2_proofOf yX2_proofOf, Cond.code yX2_proofOf cX2_proofOf 5 (some .int), Cond.fieldLink RX2 32 "PalletGramModel" "maker" "[I", Cond.fieldLink RX2 35 "PalletGramModel" "good" "[I", Cond.fieldLink RX2 38 "PalletGramModel" "amount" "[I", Cond.fieldLink RX2 44 "PalletGramModel" "its" "[I", Cond.methodLink RX2 101 yX2_holds]
def wsX2_join_r3 : List Cond := [Cond.instanceMethod yX2_holds, Cond.selects RX2 yX2_holds yX2_holds, Cond.code yX2_holds cX2_holds 2 (some .boolean), Cond.fieldLink RX2 68 "PalletGramModel" "thrown" "I", Cond.methodLink RX2 107 yX2_writes, Cond.instanceMethod yX2_writes, Cond.selects RX2 yX2_writes yX2_writes, Cond.code yX2_writes cX2_writes 9 none, Cond.fieldLink RX2 47 "PalletGramModel" "was" "[I", Cond.fieldLink RX2 53 "PalletGramModel" "copies" "[I", Cond.fieldLink RX2 62 "PalletGramModel" "owed" "[I", Cond.fieldLink RX2 59 "PalletGramModel" "fee" "[I"]
def wsX2_join : List Cond := .code yX2_join cX2_join 7 (some .int) :: ((wsX2_join_r1 ++ (wsX2_join_r2 ++ wsX2_join_r3)) ++ wsX20)
def wsX2_move_r1 : List Cond := [Cond.fieldLink RX2 7 "PalletGramModel" "holder" "[I", Cond.methodLink RX2 79 yX2_isPallet, Cond.instanceMethod yX2_isPallet, Cond.selects RX2 yX2_isPallet yX2_isPallet, Cond.initialized RX2, Cond.code yX2_isPallet cX2_isPallet 2 (some .boolean), Cond.fieldLink RX2 72 "PalletGramModel" "pallets" "I", Cond.methodLink RX2 75 yX2_isIn, Cond.static yX2_isIn, Cond.code yX2_isIn cX2_isIn 3 (some .boolean), Cond.methodLink RX2 111 yX2_canWork, Cond.instanceMethod yX2_canWork, Cond.selects RX2 yX2_canWork yX2_canWork, Cond.code yX2_canWork cX2_canWork 2 (some .boolean), Cond.fieldLink RX2 19 "PalletGramModel" "isHeld" "[Z", Cond.fieldLink RX2 23 "PalletGramModel" "isGone" "[Z", Cond.fieldLink RX2 16 "PalletGramModel" "many" "[I", Cond.methodLink RX2 95 yX2_sound, Cond.instanceMethod yX2_sound, Cond.selects RX2 yX2_sound yX2_sound, Cond.code yX2_sound cX2_sound 6 (some .boolean), Cond.fieldLink RX2 29 "PalletGramModel" "kind" "[I", Cond.fieldLink RX2 41 "PalletGramModel" "other" "[I", Cond.methodLink RX2 91 yX2_firstBroken]
def wsX2_move_r2 : List Cond := [Cond.instanceMethod yX2_firstBroken, Cond.selects RX2 yX2_firstBroken yX2_firstBroken, Cond.code yX2_firstBroken cX2_firstBroken 3 (some .int), Cond.methodLink RX2 87 yX2_isBroken, Cond.instanceMethod yX2_isBroken, Cond.selects RX2 yX2_isBroken yX2_isBroken, Cond.code yX2_isBroken cX2_isBroken 3 (some .boolean), Cond.fieldLink RX2 50 "PalletGramModel" "proof" "[I", Cond.methodLink RX2 83 yX2_proofOf, Cond.instanceMethod yX2_proofOf, Cond.selects RX2 yX2_proofOf yX2_proofOf, Cond.code yX2_proofOf cX2_proofOf 5 (some .int), Cond.fieldLink RX2 32 "PalletGramModel" "maker" "[I", Cond.fieldLink RX2 35 "PalletGramModel" "good" "[I", Cond.fieldLink RX2 38 "PalletGramModel" "amount" "[I", Cond.fieldLink RX2 44 "PalletGramModel" "its" "[I", Cond.methodLink RX2 98 yX2_weight, Cond.instanceMethod yX2_weight, Cond.selects RX2 yX2_weight yX2_weight, Cond.code yX2_weight cX2_weight 4 (some .int), Cond.fieldLink RX2 13 "PalletGramModel" "goods" "[I", Cond.methodLink RX2 114 yX2_hasRoom, Cond.instanceMethod yX2_hasRoom, Cond.selects RX2 yX2_hasRoom yX2_hasRoom]
def wsX2_move_r3 : List Cond := [Cond.code yX2_hasRoom cX2_hasRoom 5 (some .boolean), Cond.methodLink RX2 101 yX2_holds, Cond.instanceMethod yX2_holds, Cond.selects RX2 yX2_holds yX2_holds, Cond.code yX2_holds cX2_holds 2 (some .boolean), Cond.fieldLink RX2 68 "PalletGramModel" "thrown" "I", Cond.methodLink RX2 107 yX2_writes, Cond.instanceMethod yX2_writes, Cond.selects RX2 yX2_writes yX2_writes, Cond.code yX2_writes cX2_writes 9 none, Cond.fieldLink RX2 47 "PalletGramModel" "was" "[I", Cond.fieldLink RX2 53 "PalletGramModel" "copies" "[I", Cond.fieldLink RX2 62 "PalletGramModel" "owed" "[I", Cond.fieldLink RX2 59 "PalletGramModel" "fee" "[I"]
def wsX2_move : List Cond := .code yX2_move cX2_move 5 (some .int) :: ((wsX2_move_r1 ++ (wsX2_move_r2 ++ wsX2_move_r3)) ++ wsX20)
def wsX2_hold_r1 : List Cond := [Cond.fieldLink RX2 23 "PalletGramModel" "isGone" "[Z", Cond.fieldLink RX2 16 "PalletGramModel" "many" "[I", Cond.fieldLink RX2 19 "PalletGramModel" "isHeld" "[Z", Cond.methodLink RX2 79 yX2_isPallet, Cond.instanceMethod yX2_isPallet, Cond.selects RX2 yX2_isPallet yX2_isPallet, Cond.initialized RX2, Cond.code yX2_isPallet cX2_isPallet 2 (some .boolean), Cond.fieldLink RX2 72 "PalletGramModel" "pallets" "I", Cond.methodLink RX2 75 yX2_isIn, Cond.static yX2_isIn, Cond.code yX2_isIn cX2_isIn 3 (some .boolean), Cond.methodLink RX2 101 yX2_holds, Cond.instanceMethod yX2_holds, Cond.selects RX2 yX2_holds yX2_holds, Cond.code yX2_holds cX2_holds 2 (some .boolean), Cond.fieldLink RX2 68 "PalletGramModel" "thrown" "I", Cond.methodLink RX2 107 yX2_writes, Cond.instanceMethod yX2_writes, Cond.selects RX2 yX2_writes yX2_writes, Cond.code yX2_writes cX2_writes 9 none, Cond.fieldLink RX2 7 "PalletGramModel" "holder" "[I", Cond.fieldLink RX2 29 "PalletGramModel" "kind" "[I", Cond.fieldLink RX2 32 "PalletGramModel" "maker" "[I"]
def wsX2_hold_r2 : List Cond := [Cond.fieldLink RX2 35 "PalletGramModel" "good" "[I", Cond.fieldLink RX2 38 "PalletGramModel" "amount" "[I", Cond.fieldLink RX2 41 "PalletGramModel" "other" "[I", Cond.fieldLink RX2 44 "PalletGramModel" "its" "[I", Cond.fieldLink RX2 47 "PalletGramModel" "was" "[I", Cond.fieldLink RX2 50 "PalletGramModel" "proof" "[I", Cond.fieldLink RX2 53 "PalletGramModel" "copies" "[I", Cond.fieldLink RX2 62 "PalletGramModel" "owed" "[I", Cond.fieldLink RX2 59 "PalletGramModel" "fee" "[I", Cond.methodLink RX2 83 yX2_proofOf, Cond.instanceMethod yX2_proofOf, Cond.selects RX2 yX2_proofOf yX2_proofOf, Cond.code yX2_proofOf cX2_proofOf 5 (some .int)]
def wsX2_hold : List Cond := .code yX2_hold cX2_hold 3 (some .boolean) :: ((wsX2_hold_r1 ++ wsX2_hold_r2) ++ wsX20)
def wsX2_spoil : List Cond := .code yX2_spoil cX2_spoil 7 (some .int) :: ([.fieldLink RX2 38 "PalletGramModel" "amount" "[I", .methodLink RX2 129 yX2_isEntry, .instanceMethod yX2_isEntry, .selects RX2 yX2_isEntry yX2_isEntry, .initialized RX2, .code yX2_isEntry cX2_isEntry 3 (some .boolean), .fieldLink RX2 16 "PalletGramModel" "many" "[I", .methodLink RX2 79 yX2_isPallet, .instanceMethod yX2_isPallet, .selects RX2 yX2_isPallet yX2_isPallet, .code yX2_isPallet cX2_isPallet 2 (some .boolean), .fieldLink RX2 72 "PalletGramModel" "pallets" "I", .methodLink RX2 75 yX2_isIn, .static yX2_isIn, .code yX2_isIn cX2_isIn 3 (some .boolean), .methodLink RX2 101 yX2_holds, .instanceMethod yX2_holds, .selects RX2 yX2_holds yX2_holds, .code yX2_holds cX2_holds 2 (some .boolean), .fieldLink RX2 68 "PalletGramModel" "thrown" "I"] ++ wsX20)
def wsX2_lose : List Cond := .code yX2_lose cX2_lose 4 (some .int) :: ([.fieldLink RX2 72 "PalletGramModel" "pallets" "I", .fieldLink RX2 53 "PalletGramModel" "copies" "[I", .methodLink RX2 75 yX2_isIn, .static yX2_isIn, .initialized RX2, .code yX2_isIn cX2_isIn 3 (some .boolean), .methodLink RX2 101 yX2_holds, .instanceMethod yX2_holds, .selects RX2 yX2_holds yX2_holds, .code yX2_holds cX2_holds 2 (some .boolean), .fieldLink RX2 68 "PalletGramModel" "thrown" "I"] ++ wsX20)
def wsX2_repair_r1 : List Cond := [Cond.fieldLink RX2 53 "PalletGramModel" "copies" "[I", Cond.fieldLink RX2 38 "PalletGramModel" "amount" "[I", Cond.fieldLink RX2 47 "PalletGramModel" "was" "[I", Cond.fieldLink RX2 62 "PalletGramModel" "owed" "[I", Cond.fieldLink RX2 7 "PalletGramModel" "holder" "[I", Cond.methodLink RX2 129 yX2_isEntry, Cond.instanceMethod yX2_isEntry, Cond.selects RX2 yX2_isEntry yX2_isEntry, Cond.initialized RX2, Cond.code yX2_isEntry cX2_isEntry 3 (some .boolean), Cond.fieldLink RX2 16 "PalletGramModel" "many" "[I", Cond.methodLink RX2 79 yX2_isPallet, Cond.instanceMethod yX2_isPallet, Cond.selects RX2 yX2_isPallet yX2_isPallet, Cond.code yX2_isPallet cX2_isPallet 2 (some .boolean), Cond.fieldLink RX2 72 "PalletGramModel" "pallets" "I", Cond.methodLink RX2 75 yX2_isIn, Cond.static yX2_isIn, Cond.code yX2_isIn cX2_isIn 3 (some .boolean), Cond.methodLink RX2 87 yX2_isBroken, Cond.instanceMethod yX2_isBroken, Cond.selects RX2 yX2_isBroken yX2_isBroken, Cond.code yX2_isBroken cX2_isBroken 3 (some .boolean), Cond.fieldLink RX2 50 "PalletGramModel" "proof" "[I"]
def wsX2_repair_r2 : List Cond := [Cond.methodLink RX2 83 yX2_proofOf, Cond.instanceMethod yX2_proofOf, Cond.selects RX2 yX2_proofOf yX2_proofOf, Cond.code yX2_proofOf cX2_proofOf 5 (some .int), Cond.fieldLink RX2 29 "PalletGramModel" "kind" "[I", Cond.fieldLink RX2 32 "PalletGramModel" "maker" "[I", Cond.fieldLink RX2 35 "PalletGramModel" "good" "[I", Cond.fieldLink RX2 41 "PalletGramModel" "other" "[I", Cond.fieldLink RX2 44 "PalletGramModel" "its" "[I", Cond.methodLink RX2 101 yX2_holds, Cond.instanceMethod yX2_holds, Cond.selects RX2 yX2_holds yX2_holds, Cond.code yX2_holds cX2_holds 2 (some .boolean), Cond.fieldLink RX2 68 "PalletGramModel" "thrown" "I"]
def wsX2_repair : List Cond := .code yX2_repair cX2_repair 6 (some .int) :: ((wsX2_repair_r1 ++ wsX2_repair_r2) ++ wsX20)
def wsX2_broken_r1 : List Cond := [Cond.methodLink RX2 79 yX2_isPallet, Cond.instanceMethod yX2_isPallet, Cond.selects RX2 yX2_isPallet yX2_isPallet, Cond.initialized RX2, Cond.code yX2_isPallet cX2_isPallet 2 (some .boolean), Cond.fieldLink RX2 72 "PalletGramModel" "pallets" "I", Cond.methodLink RX2 75 yX2_isIn, Cond.static yX2_isIn, Cond.code yX2_isIn cX2_isIn 3 (some .boolean), Cond.methodLink RX2 101 yX2_holds, Cond.instanceMethod yX2_holds, Cond.selects RX2 yX2_holds yX2_holds, Cond.code yX2_holds cX2_holds 2 (some .boolean), Cond.fieldLink RX2 68 "PalletGramModel" "thrown" "I", Cond.methodLink RX2 91 yX2_firstBroken, Cond.instanceMethod yX2_firstBroken, Cond.selects RX2 yX2_firstBroken yX2_firstBroken, Cond.code yX2_firstBroken cX2_firstBroken 3 (some .int), Cond.fieldLink RX2 16 "PalletGramModel" "many" "[I", Cond.methodLink RX2 87 yX2_isBroken, Cond.instanceMethod yX2_isBroken, Cond.selects RX2 yX2_isBroken yX2_isBroken, Cond.code yX2_isBroken cX2_isBroken 3 (some .boolean), Cond.fieldLink RX2 50 "PalletGramModel" "proof" "[I"]
def wsX2_broken_r2 : List Cond := [Cond.methodLink RX2 83 yX2_proofOf, Cond.instanceMethod yX2_proofOf, Cond.selects RX2 yX2_proofOf yX2_proofOf, Cond.code yX2_proofOf cX2_proofOf 5 (some .int), Cond.fieldLink RX2 29 "PalletGramModel" "kind" "[I", Cond.fieldLink RX2 32 "PalletGramModel" "maker" "[I", Cond.fieldLink RX2 35 "PalletGramModel" "good" "[I", Cond.fieldLink RX2 38 "PalletGramModel" "amount" "[I", Cond.fieldLink RX2 41 "PalletGramModel" "other" "[I", Cond.fieldLink RX2 44 "PalletGramModel" "its" "[I"]
def wsX2_broken : List Cond := .code yX2_broken cX2_broken 2 (some .int) :: ((wsX2_broken_r1 ++ wsX2_broken_r2) ++ wsX20)
def wsX2_isSound_r1 : List Cond := [Cond.methodLink RX2 79 yX2_isPallet, Cond.instanceMethod yX2_isPallet, Cond.selects RX2 yX2_isPallet yX2_isPallet, Cond.initialized RX2, Cond.code yX2_isPallet cX2_isPallet 2 (some .boolean), Cond.fieldLink RX2 72 "PalletGramModel" "pallets" "I", Cond.methodLink RX2 75 yX2_isIn, Cond.static yX2_isIn, Cond.code yX2_isIn cX2_isIn 3 (some .boolean), Cond.methodLink RX2 101 yX2_holds, Cond.instanceMethod yX2_holds, Cond.selects RX2 yX2_holds yX2_holds, Cond.code yX2_holds cX2_holds 2 (some .boolean), Cond.fieldLink RX2 68 "PalletGramModel" "thrown" "I", Cond.methodLink RX2 95 yX2_sound, Cond.instanceMethod yX2_sound, Cond.selects RX2 yX2_sound yX2_sound, Cond.code yX2_sound cX2_sound 6 (some .boolean), Cond.fieldLink RX2 16 "PalletGramModel" "many" "[I", Cond.fieldLink RX2 29 "PalletGramModel" "kind" "[I", Cond.fieldLink RX2 41 "PalletGramModel" "other" "[I", Cond.methodLink RX2 91 yX2_firstBroken, Cond.instanceMethod yX2_firstBroken, Cond.selects RX2 yX2_firstBroken yX2_firstBroken]
def wsX2_isSound_r2 : List Cond := [Cond.code yX2_firstBroken cX2_firstBroken 3 (some .int), Cond.methodLink RX2 87 yX2_isBroken, Cond.instanceMethod yX2_isBroken, Cond.selects RX2 yX2_isBroken yX2_isBroken, Cond.code yX2_isBroken cX2_isBroken 3 (some .boolean), Cond.fieldLink RX2 50 "PalletGramModel" "proof" "[I", Cond.methodLink RX2 83 yX2_proofOf, Cond.instanceMethod yX2_proofOf, Cond.selects RX2 yX2_proofOf yX2_proofOf, Cond.code yX2_proofOf cX2_proofOf 5 (some .int), Cond.fieldLink RX2 32 "PalletGramModel" "maker" "[I", Cond.fieldLink RX2 35 "PalletGramModel" "good" "[I", Cond.fieldLink RX2 38 "PalletGramModel" "amount" "[I", Cond.fieldLink RX2 44 "PalletGramModel" "its" "[I"]
def wsX2_isSound : List Cond := .code yX2_isSound cX2_isSound 2 (some .boolean) :: ((wsX2_isSound_r1 ++ wsX2_isSound_r2) ++ wsX20)
def wsX2_pallet : List Cond := .code yX2_pallet cX2_pallet 4 (some .int) :: ([.fieldLink RX2 7 "PalletGramModel" "holder" "[I", .fieldLink RX2 16 "PalletGramModel" "many" "[I", .fieldLink RX2 19 "PalletGramModel" "isHeld" "[Z", .fieldLink RX2 23 "PalletGramModel" "isGone" "[Z", .methodLink RX2 79 yX2_isPallet, .instanceMethod yX2_isPallet, .selects RX2 yX2_isPallet yX2_isPallet, .initialized RX2, .code yX2_isPallet cX2_isPallet 2 (some .boolean), .fieldLink RX2 72 "PalletGramModel" "pallets" "I", .methodLink RX2 75 yX2_isIn, .static yX2_isIn, .code yX2_isIn cX2_isIn 3 (some .boolean), .methodLink RX2 101 yX2_holds, .instanceMethod yX2_holds, .selects RX2 yX2_holds yX2_holds, .code yX2_holds cX2_holds 2 (some .boolean), .fieldLink RX2 68 "PalletGramModel" "thrown" "I", .methodLink RX2 98 yX2_weight, .instanceMethod yX2_weight, .selects RX2 yX2_weight yX2_weight, .code yX2_weight cX2_weight 4 (some .int), .fieldLink RX2 13 "PalletGramModel" "goods" "[I"] ++ wsX20)
def wsX2_entry_r1 : List Cond := [Cond.fieldLink RX2 29 "PalletGramModel" "kind" "[I", Cond.fieldLink RX2 32 "PalletGramModel" "maker" "[I", Cond.fieldLink RX2 35 "PalletGramModel" "good" "[I", Cond.fieldLink RX2 38 "PalletGramModel" "amount" "[I", Cond.fieldLink RX2 41 "PalletGramModel" "other" "[I", Cond.fieldLink RX2 44 "PalletGramModel" "its" "[I", Cond.fieldLink RX2 50 "PalletGramModel" "proof" "[I", Cond.fieldLink RX2 53 "PalletGramModel" "copies" "[I", Cond.methodLink RX2 129 yX2_isEntry, Cond.instanceMethod yX2_isEntry, Cond.selects RX2 yX2_isEntry yX2_isEntry, Cond.initialized RX2, Cond.code yX2_isEntry cX2_isEntry 3 (some .boolean), Cond.fieldLink RX2 16 "PalletGramModel" "many" "[I", Cond.methodLink RX2 79 yX2_isPallet, Cond.instanceMethod yX2_isPallet, Cond.selects RX2 yX2_isPallet yX2_isPallet, Cond.code yX2_isPallet cX2_isPallet 2 (some .boolean), Cond.fieldLink RX2 72 "PalletGramModel" "pallets" "I", Cond.methodLink RX2 75 yX2_isIn, Cond.static yX2_isIn, Cond.code yX2_isIn cX2_isIn 3 (some .boolean), Cond.methodLink RX2 101 yX2_holds, Cond.instanceMethod yX2_holds]
def wsX2_entry_r2 : List Cond := [Cond.selects RX2 yX2_holds yX2_holds, Cond.code yX2_holds cX2_holds 2 (some .boolean), Cond.fieldLink RX2 68 "PalletGramModel" "thrown" "I"]
def wsX2_entry : List Cond := .code yX2_entry cX2_entry 6 (some .int) :: ((wsX2_entry_r1 ++ wsX2_entry_r2) ++ wsX20)
def wsX2_contents : List Cond := .code yX2_contents cX2_contents 3 (some .int) :: ([.fieldLink RX2 13 "PalletGramModel" "goods" "[I", .methodLink RX2 79 yX2_isPallet, .instanceMethod yX2_isPallet, .selects RX2 yX2_isPallet yX2_isPallet, .initialized RX2, .code yX2_isPallet cX2_isPallet 2 (some .boolean), .fieldLink RX2 72 "PalletGramModel" "pallets" "I", .methodLink RX2 75 yX2_isIn, .static yX2_isIn, .code yX2_isIn cX2_isIn 3 (some .boolean), .methodLink RX2 117 yX2_isGood, .static yX2_isGood, .code yX2_isGood cX2_isGood 1 (some .boolean), .methodLink RX2 101 yX2_holds, .instanceMethod yX2_holds, .selects RX2 yX2_holds yX2_holds, .code yX2_holds cX2_holds 2 (some .boolean), .fieldLink RX2 68 "PalletGramModel" "thrown" "I"] ++ wsX20)
def wsX2_papers : List Cond := .code yX2_papers cX2_papers 6 (some .int) :: ([.fieldLink RX2 16 "PalletGramModel" "many" "[I", .fieldLink RX2 29 "PalletGramModel" "kind" "[I", .fieldLink RX2 35 "PalletGramModel" "good" "[I", .fieldLink RX2 38 "PalletGramModel" "amount" "[I", .fieldLink RX2 65 "PalletGramModel" "told" "[I", .fieldLink RX2 41 "PalletGramModel" "other" "[I"] ++ wsX20)
def wsX2_tells : List Cond := .code yX2_tells cX2_tells 3 none :: ([.fieldLink RX2 126 "PalletGramModel" "goers" "I", .fieldLink RX2 65 "PalletGramModel" "told" "[I", .fieldLink RX2 26 "PalletGramModel" "went" "[I", .methodLink RX2 132 yX2_papers, .instanceMethod yX2_papers, .selects RX2 yX2_papers yX2_papers, .initialized RX2, .code yX2_papers cX2_papers 6 (some .int), .fieldLink RX2 16 "PalletGramModel" "many" "[I", .fieldLink RX2 29 "PalletGramModel" "kind" "[I", .fieldLink RX2 35 "PalletGramModel" "good" "[I", .fieldLink RX2 38 "PalletGramModel" "amount" "[I", .fieldLink RX2 41 "PalletGramModel" "other" "[I"] ++ wsX20)
def wsX2_anew : List Cond := .code yX2_anew cX2_anew 3 (some .int) :: ([.fieldLink RX2 23 "PalletGramModel" "isGone" "[Z", .methodLink RX2 135 yX2_tells, .instanceMethod yX2_tells, .selects RX2 yX2_tells yX2_tells, .initialized RX2, .code yX2_tells cX2_tells 3 none, .fieldLink RX2 126 "PalletGramModel" "goers" "I", .fieldLink RX2 65 "PalletGramModel" "told" "[I", .fieldLink RX2 26 "PalletGramModel" "went" "[I", .methodLink RX2 132 yX2_papers, .instanceMethod yX2_papers, .selects RX2 yX2_papers yX2_papers, .code yX2_papers cX2_papers 6 (some .int), .fieldLink RX2 16 "PalletGramModel" "many" "[I", .fieldLink RX2 29 "PalletGramModel" "kind" "[I", .fieldLink RX2 35 "PalletGramModel" "good" "[I", .fieldLink RX2 38 "PalletGramModel" "amount" "[I", .fieldLink RX2 41 "PalletGramModel" "other" "[I"] ++ wsX20)
def wsX2_contentsAnew_r1 : List Cond := [Cond.methodLink RX2 79 yX2_isPallet, Cond.instanceMethod yX2_isPallet, Cond.selects RX2 yX2_isPallet yX2_isPallet, Cond.initialized RX2, Cond.code yX2_isPallet cX2_isPallet 2 (some .boolean), Cond.fieldLink RX2 72 "PalletGramModel" "pallets" "I", Cond.methodLink RX2 75 yX2_isIn, Cond.static yX2_isIn, Cond.code yX2_isIn cX2_isIn 3 (some .boolean), Cond.methodLink RX2 117 yX2_isGood, Cond.static yX2_isGood, Cond.code yX2_isGood cX2_isGood 1 (some .boolean), Cond.methodLink RX2 101 yX2_holds, Cond.instanceMethod yX2_holds, Cond.selects RX2 yX2_holds yX2_holds, Cond.code yX2_holds cX2_holds 2 (some .boolean), Cond.fieldLink RX2 68 "PalletGramModel" "thrown" "I", Cond.methodLink RX2 139 yX2_anew, Cond.instanceMethod yX2_anew, Cond.selects RX2 yX2_anew yX2_anew, Cond.code yX2_anew cX2_anew 3 (some .int), Cond.fieldLink RX2 23 "PalletGramModel" "isGone" "[Z", Cond.methodLink RX2 135 yX2_tells, Cond.instanceMethod yX2_tells]
def wsX2_contentsAnew_r2 : List Cond := [Cond.selects RX2 yX2_tells yX2_tells, Cond.code yX2_tells cX2_tells 3 none, Cond.fieldLink RX2 126 "PalletGramModel" "goers" "I", Cond.fieldLink RX2 65 "PalletGramModel" "told" "[I", Cond.fieldLink RX2 26 "PalletGramModel" "went" "[I", Cond.methodLink RX2 132 yX2_papers, Cond.instanceMethod yX2_papers, Cond.selects RX2 yX2_papers yX2_papers, Cond.code yX2_papers cX2_papers 6 (some .int), Cond.fieldLink RX2 16 "PalletGramModel" "many" "[I", Cond.fieldLink RX2 29 "PalletGramModel" "kind" "[I", Cond.fieldLink RX2 35 "PalletGramModel" "good" "[I", Cond.fieldLink RX2 38 "PalletGramModel" "amount" "[I", Cond.fieldLink RX2 41 "PalletGramModel" "other" "[I"]
def wsX2_contentsAnew : List Cond := .code yX2_contentsAnew cX2_contentsAnew 3 (some .int) :: ((wsX2_contentsAnew_r1 ++ wsX2_contentsAnew_r2) ++ wsX20)
def wsX2_isTruck : List Cond := .code yX2_isTruck cX2_isTruck 1 (some .boolean) :: ([.methodLink RX2 75 yX2_isIn, .static yX2_isIn, .initialized RX2, .code yX2_isIn cX2_isIn 3 (some .boolean)])
def wsX2_declare : List Cond := .code yX2_declare cX2_declare 7 (some .int) :: ([.fieldLink RX2 56 "PalletGramModel" "declared" "[I", .methodLink RX2 142 yX2_isTruck, .static yX2_isTruck, .initialized RX2, .code yX2_isTruck cX2_isTruck 1 (some .boolean), .methodLink RX2 75 yX2_isIn, .static yX2_isIn, .code yX2_isIn cX2_isIn 3 (some .boolean), .methodLink RX2 117 yX2_isGood, .static yX2_isGood, .code yX2_isGood cX2_isGood 1 (some .boolean), .methodLink RX2 101 yX2_holds, .instanceMethod yX2_holds, .selects RX2 yX2_holds yX2_holds, .code yX2_holds cX2_holds 2 (some .boolean), .fieldLink RX2 68 "PalletGramModel" "thrown" "I"] ++ wsX20)
def wsX2_mismatchOf_r1 : List Cond := [Cond.fieldLink RX2 56 "PalletGramModel" "declared" "[I", Cond.fieldLink RX2 72 "PalletGramModel" "pallets" "I", Cond.fieldLink RX2 7 "PalletGramModel" "holder" "[I", Cond.methodLink RX2 139 yX2_anew, Cond.instanceMethod yX2_anew, Cond.selects RX2 yX2_anew yX2_anew, Cond.initialized RX2, Cond.code yX2_anew cX2_anew 3 (some .int), Cond.fieldLink RX2 23 "PalletGramModel" "isGone" "[Z", Cond.methodLink RX2 135 yX2_tells, Cond.instanceMethod yX2_tells, Cond.selects RX2 yX2_tells yX2_tells, Cond.code yX2_tells cX2_tells 3 none, Cond.fieldLink RX2 126 "PalletGramModel" "goers" "I", Cond.fieldLink RX2 65 "PalletGramModel" "told" "[I", Cond.fieldLink RX2 26 "PalletGramModel" "went" "[I", Cond.methodLink RX2 132 yX2_papers, Cond.instanceMethod yX2_papers, Cond.selects RX2 yX2_papers yX2_papers, Cond.code yX2_papers cX2_papers 6 (some .int), Cond.fieldLink RX2 16 "PalletGramModel" "many" "[I", Cond.fieldLink RX2 29 "PalletGramModel" "kind" "[I", Cond.fieldLink RX2 35 "PalletGramModel" "good" "[I", Cond.fieldLink RX2 38 "PalletGramModel" "amount" "[I"]
def wsX2_mismatchOf_r2 : List Cond := [Cond.fieldLink RX2 41 "PalletGramModel" "other" "[I"]
def wsX2_mismatchOf : List Cond := .code yX2_mismatchOf cX2_mismatchOf 6 (some .int) :: ((wsX2_mismatchOf_r1 ++ wsX2_mismatchOf_r2) ++ wsX20)
def wsX2_mismatch_r1 : List Cond := [Cond.methodLink RX2 142 yX2_isTruck, Cond.static yX2_isTruck, Cond.initialized RX2, Cond.code yX2_isTruck cX2_isTruck 1 (some .boolean), Cond.methodLink RX2 75 yX2_isIn, Cond.static yX2_isIn, Cond.code yX2_isIn cX2_isIn 3 (some .boolean), Cond.methodLink RX2 101 yX2_holds, Cond.instanceMethod yX2_holds, Cond.selects RX2 yX2_holds yX2_holds, Cond.code yX2_holds cX2_holds 2 (some .boolean), Cond.fieldLink RX2 68 "PalletGramModel" "thrown" "I", Cond.methodLink RX2 145 yX2_mismatchOf, Cond.instanceMethod yX2_mismatchOf, Cond.selects RX2 yX2_mismatchOf yX2_mismatchOf, Cond.code yX2_mismatchOf cX2_mismatchOf 6 (some .int), Cond.fieldLink RX2 56 "PalletGramModel" "declared" "[I", Cond.fieldLink RX2 72 "PalletGramModel" "pallets" "I", Cond.fieldLink RX2 7 "PalletGramModel" "holder" "[I", Cond.methodLink RX2 139 yX2_anew, Cond.instanceMethod yX2_anew, Cond.selects RX2 yX2_anew yX2_anew, Cond.code yX2_anew cX2_anew 3 (some .int), Cond.fieldLink RX2 23 "PalletGramModel" "isGone" "[Z"]
def wsX2_mismatch_r2 : List Cond := [Cond.methodLink RX2 135 yX2_tells, Cond.instanceMethod yX2_tells, Cond.selects RX2 yX2_tells yX2_tells, Cond.code yX2_tells cX2_tells 3 none, Cond.fieldLink RX2 126 "PalletGramModel" "goers" "I", Cond.fieldLink RX2 65 "PalletGramModel" "told" "[I", Cond.fieldLink RX2 26 "PalletGramModel" "went" "[I", Cond.methodLink RX2 132 yX2_papers, Cond.instanceMethod yX2_papers, Cond.selects RX2 yX2_papers yX2_papers, Cond.code yX2_papers cX2_papers 6 (some .int), Cond.fieldLink RX2 16 "PalletGramModel" "many" "[I", Cond.fieldLink RX2 29 "PalletGramModel" "kind" "[I", Cond.fieldLink RX2 35 "PalletGramModel" "good" "[I", Cond.fieldLink RX2 38 "PalletGramModel" "amount" "[I", Cond.fieldLink RX2 41 "PalletGramModel" "other" "[I"]
def wsX2_mismatch : List Cond := .code yX2_mismatch cX2_mismatch 2 (some .int) :: ((wsX2_mismatch_r1 ++ wsX2_mismatch_r2) ++ wsX20)
def wsX2_fee : List Cond := .code yX2_fee cX2_fee 4 (some .int) :: ([.fieldLink RX2 59 "PalletGramModel" "fee" "[I", .methodLink RX2 75 yX2_isIn, .static yX2_isIn, .initialized RX2, .code yX2_isIn cX2_isIn 3 (some .boolean), .methodLink RX2 101 yX2_holds, .instanceMethod yX2_holds, .selects RX2 yX2_holds yX2_holds, .code yX2_holds cX2_holds 2 (some .boolean), .fieldLink RX2 68 "PalletGramModel" "thrown" "I"] ++ wsX20)
def wsX2_owed : List Cond := .code yX2_owed cX2_owed 2 (some .int) :: ([.fieldLink RX2 62 "PalletGramModel" "owed" "[I", .methodLink RX2 75 yX2_isIn, .static yX2_isIn, .initialized RX2, .code yX2_isIn cX2_isIn 3 (some .boolean), .methodLink RX2 101 yX2_holds, .instanceMethod yX2_holds, .selects RX2 yX2_holds yX2_holds, .code yX2_holds cX2_holds 2 (some .boolean), .fieldLink RX2 68 "PalletGramModel" "thrown" "I"] ++ wsX20)
def wsJ9_abs_0f7a4 : List Cond := .code yJ9_abs_0f7a4 cJ9_abs_0f7a4 1 (some .int) :: ([])
def wsL_make_r1 : List Cond := [Cond.classLink RL 13 "java/lang/IndexOutOfBoundsException", Cond.classLink RL 15 "java/lang/IllegalStateException", Cond.methodLink RL 7 yX1_make, Cond.instanceMethod yX1_make, Cond.selects RX1 yX1_make yX1_make, Cond.initialized RX1, Cond.code yX1_make cX1_make 3 (some .int), Cond.fieldLink RX1 40 "PalletGram" "pallets" "I", Cond.methodLink RX1 32 yX1_isDock, Cond.static yX1_isDock, Cond.code yX1_isDock cX1_isDock 1 (some .boolean), Cond.methodLink RX1 36 yX1_needThere, Cond.static yX1_needThere, Cond.code yX1_needThere cX1_needThere 1 none, Cond.classLink RX1 152 "java/lang/IndexOutOfBoundsException", Cond.initialized "java/lang/IndexOutOfBoundsException", Cond.methodLink RX1 44 yX1_needState, Cond.static yX1_needState, Cond.code yX1_needState cX1_needState 1 none, Cond.classLink RX1 164 "java/lang/IllegalStateException", Cond.initialized "java/lang/IllegalStateException", Cond.methodLink RX1 47 yX1_stand, Cond.instanceMethod yX1_stand, Cond.selects RX1 yX1_stand yX1_stand]
def wsL_make_r2 : List Cond := [Cond.code yX1_stand cX1_stand 3 (some .int), Cond.fieldLink RX1 16 "PalletGram" "holders" "[I", Cond.methodLink RX1 51 yX1_write, Cond.instanceMethod yX1_write, Cond.selects RX1 yX1_write yX1_write, Cond.code yX1_write cX1_write 8 none, Cond.fieldLink RX1 10 "PalletGram" "chains" "LPalletGram$Chains;", Cond.fieldLink RX1 29 "PalletGram" "debts" "[I", Cond.fieldLink RX1 26 "PalletGram" "fees" "[I", Cond.methodLink RX1 169 yX0_add, Cond.instanceMethod yX0_add, Cond.selects RX0 yX0_add yX0_add, Cond.initialized RX0, Cond.code yX0_add cX0_add 10 none, Cond.fieldLink RX0 9 "PalletGram$Chains" "lengths" "[I", Cond.fieldLink RX0 15 "PalletGram$Chains" "numbers" "[I", Cond.fieldLink RX0 18 "PalletGram$Chains" "proofs" "[I", Cond.fieldLink RX0 21 "PalletGram$Chains" "copies" "[I", Cond.fieldLink RX0 24 "PalletGram$Chains" "amountsMade" "[I", Cond.methodLink RX0 31 yX0_row, Cond.static yX0_row, Cond.code yX0_row cX0_row 2 (some .int), Cond.methodLink RX0 35 yX0_proofMade, Cond.instanceMethod yX0_proofMade]
def wsL_make_r3 : List Cond := [Cond.selects RX0 yX0_proofMade yX0_proofMade, Cond.code yX0_proofMade cX0_proofMade 6 (some .int), Cond.methodLink RX0 38 yX0_witnesses, Cond.static yX0_witnesses, Cond.code yX0_witnesses cX0_witnesses 4 (some .int)]
def wsL_make : List Cond := .codeWith yL_make cL_make 4 (some .int) [(0, 9, 12, 13), (0, 9, 15, 15)] :: ((wsL_make_r1 ++ (wsL_make_r2 ++ wsL_make_r3)) ++ wsX10 ++ wsX00 ++ (vx_atS RX1 156 "java/lang/IndexOutOfBoundsException" ["java/lang/RuntimeException", "java/lang/Exception"]).filter goodWord ++ (vx_atS RX1 168 "java/lang/IllegalStateException" ["java/lang/RuntimeException", "java/lang/Exception"]).filter goodWord)
def wsL_load_r1 : List Cond := [Cond.classLink RL 13 "java/lang/IndexOutOfBoundsException", Cond.classLink RL 21 "java/lang/IllegalArgumentException", Cond.classLink RL 15 "java/lang/IllegalStateException", Cond.methodLink RL 17 yX1_load, Cond.instanceMethod yX1_load, Cond.selects RX1 yX1_load yX1_load, Cond.initialized RX1, Cond.code yX1_load cX1_load 5 (some .int), Cond.fieldLink RX1 20 "PalletGram" "goods" "[I", Cond.fieldLink RX1 16 "PalletGram" "holders" "[I", Cond.methodLink RX1 55 yX1_isPallet, Cond.instanceMethod yX1_isPallet, Cond.selects RX1 yX1_isPallet yX1_isPallet, Cond.code yX1_isPallet cX1_isPallet 2 (some .boolean), Cond.fieldLink RX1 40 "PalletGram" "pallets" "I", Cond.methodLink RX1 58 yX1_isGood, Cond.static yX1_isGood, Cond.code yX1_isGood cX1_isGood 1 (some .boolean), Cond.methodLink RX1 36 yX1_needThere, Cond.static yX1_needThere, Cond.code yX1_needThere cX1_needThere 1 none, Cond.classLink RX1 152 "java/lang/IndexOutOfBoundsException", Cond.initialized "java/lang/IndexOutOfBoundsException", Cond.methodLink RX1 61 yX1_isWithin]
def wsL_load_r2 : List Cond := [Cond.static yX1_isWithin, Cond.code yX1_isWithin cX1_isWithin 3 (some .boolean), Cond.methodLink RX1 65 yX1_needRange, Cond.static yX1_needRange, Cond.code yX1_needRange cX1_needRange 1 none, Cond.classLink RX1 159 "java/lang/IllegalArgumentException", Cond.initialized "java/lang/IllegalArgumentException", Cond.methodLink RX1 68 yX1_isWorkable, Cond.instanceMethod yX1_isWorkable, Cond.selects RX1 yX1_isWorkable yX1_isWorkable, Cond.code yX1_isWorkable cX1_isWorkable 2 (some .boolean), Cond.fieldLink RX1 10 "PalletGram" "chains" "LPalletGram$Chains;", Cond.methodLink RX1 95 yX1_isHeld, Cond.instanceMethod yX1_isHeld, Cond.selects RX1 yX1_isHeld yX1_isHeld, Cond.code yX1_isHeld cX1_isHeld 2 (some .boolean), Cond.methodLink RX1 173 yX0_lastKind, Cond.instanceMethod yX0_lastKind, Cond.selects RX0 yX0_lastKind yX0_lastKind, Cond.initialized RX0, Cond.code yX0_lastKind cX0_lastKind 3 (some .int), Cond.fieldLink RX0 9 "PalletGram$Chains" "lengths" "[I", Cond.methodLink RX0 27 yX0_number, Cond.instanceMethod yX0_number]
def wsL_load_r3 : List Cond := [Cond.selects RX0 yX0_number yX0_number, Cond.code yX0_number cX0_number 4 (some .int), Cond.fieldLink RX0 15 "PalletGram$Chains" "numbers" "[I", Cond.methodLink RX0 31 yX0_row, Cond.static yX0_row, Cond.code yX0_row cX0_row 2 (some .int), Cond.methodLink RX1 90 yX1_isGone, Cond.instanceMethod yX1_isGone, Cond.selects RX1 yX1_isGone yX1_isGone, Cond.code yX1_isGone cX1_isGone 2 (some .boolean), Cond.methodLink RX1 93 yX0_hasRoom, Cond.instanceMethod yX0_hasRoom, Cond.selects RX0 yX0_hasRoom yX0_hasRoom, Cond.code yX0_hasRoom cX0_hasRoom 2 (some .boolean), Cond.methodLink RX1 132 yX1_allAreUnbroken, Cond.instanceMethod yX1_allAreUnbroken, Cond.selects RX1 yX1_allAreUnbroken yX1_allAreUnbroken, Cond.code yX1_allAreUnbroken cX1_allAreUnbroken 4 (some .boolean), Cond.methodLink RX1 176 yX0_reach, Cond.instanceMethod yX0_reach, Cond.selects RX0 yX0_reach yX0_reach, Cond.code yX0_reach cX0_reach 7 (some .int), Cond.static yX1_isIn, Cond.code yX1_isIn cX1_isIn 2 (some .boolean)]
def wsL_load_r4 : List Cond := [Cond.methodLink RX0 55 yX0_toldPallets, Cond.instanceMethod yX0_toldPallets, Cond.selects RX0 yX0_toldPallets yX0_toldPallets, Cond.code yX0_toldPallets cX0_toldPallets 6 (some .int), Cond.methodLink RX1 180 yX1_isIn, Cond.methodLink RX1 129 yX0_firstBroken, Cond.instanceMethod yX0_firstBroken, Cond.selects RX0 yX0_firstBroken yX0_firstBroken, Cond.code yX0_firstBroken cX0_firstBroken 3 (some .int), Cond.methodLink RX0 52 yX0_isBroken, Cond.instanceMethod yX0_isBroken, Cond.selects RX0 yX0_isBroken yX0_isBroken, Cond.code yX0_isBroken cX0_isBroken 3 (some .boolean), Cond.methodLink RX0 49 yX0_proof, Cond.instanceMethod yX0_proof, Cond.selects RX0 yX0_proof yX0_proof, Cond.code yX0_proof cX0_proof 3 (some .int), Cond.fieldLink RX0 18 "PalletGram$Chains" "proofs" "[I", Cond.methodLink RX0 35 yX0_proofMade, Cond.instanceMethod yX0_proofMade, Cond.selects RX0 yX0_proofMade yX0_proofMade, Cond.code yX0_proofMade cX0_proofMade 6 (some .int), Cond.methodLink RX1 71 yX1_weightOfOne, Cond.static yX1_weightOfOne]
def wsL_load_r5 : List Cond := [Cond.code yX1_weightOfOne cX1_weightOfOne 1 (some .int), Cond.methodLink RX1 74 yX1_hasRoom, Cond.instanceMethod yX1_hasRoom, Cond.selects RX1 yX1_hasRoom yX1_hasRoom, Cond.code yX1_hasRoom cX1_hasRoom 5 (some .boolean), Cond.methodLink RX1 32 yX1_isDock, Cond.static yX1_isDock, Cond.code yX1_isDock cX1_isDock 1 (some .boolean), Cond.methodLink RX1 87 yX1_weightOf, Cond.instanceMethod yX1_weightOf, Cond.selects RX1 yX1_weightOf yX1_weightOf, Cond.code yX1_weightOf cX1_weightOf 4 (some .int), Cond.methodLink RX1 44 yX1_needState, Cond.static yX1_needState, Cond.code yX1_needState cX1_needState 1 none, Cond.classLink RX1 164 "java/lang/IllegalStateException", Cond.initialized "java/lang/IllegalStateException", Cond.methodLink RX1 51 yX1_write, Cond.instanceMethod yX1_write, Cond.selects RX1 yX1_write yX1_write, Cond.code yX1_write cX1_write 8 none, Cond.fieldLink RX1 29 "PalletGram" "debts" "[I", Cond.fieldLink RX1 26 "PalletGram" "fees" "[I", Cond.methodLink RX1 169 yX0_add]
def wsL_load_r6 : List Cond := [Cond.instanceMethod yX0_add, Cond.selects RX0 yX0_add yX0_add, Cond.code yX0_add cX0_add 10 none, Cond.fieldLink RX0 21 "PalletGram$Chains" "copies" "[I", Cond.fieldLink RX0 24 "PalletGram$Chains" "amountsMade" "[I", Cond.methodLink RX0 38 yX0_witnesses, Cond.static yX0_witnesses, Cond.code yX0_witnesses cX0_witnesses 4 (some .int)]
def wsL_load : List Cond := .codeWith yL_load cL_load 6 (some .int) [(0, 12, 15, 13), (0, 12, 19, 21), (0, 12, 23, 15)] :: ((wsL_load_r1 ++ (wsL_load_r2 ++ (wsL_load_r3 ++ (wsL_load_r4 ++ (wsL_load_r5 ++ wsL_load_r6))))) ++ wsX10 ++ wsX00 ++ (vx_atS RX1 156 "java/lang/IndexOutOfBoundsException" ["java/lang/RuntimeException", "java/lang/Exception"]).filter goodWord ++ (vx_atS RX1 163 "java/lang/IllegalArgumentException" ["java/lang/RuntimeException", "java/lang/Exception"]).filter goodWord ++ (vx_atS RX1 168 "java/lang/IllegalStateException" ["java/lang/RuntimeException", "java/lang/Exception"]).filter goodWord)
def wsL_part_r1 : List Cond := [Cond.classLink RL 13 "java/lang/IndexOutOfBoundsException", Cond.classLink RL 21 "java/lang/IllegalArgumentException", Cond.classLink RL 15 "java/lang/IllegalStateException", Cond.methodLink RL 23 yX1_part, Cond.instanceMethod yX1_part, Cond.selects RX1 yX1_part yX1_part, Cond.initialized RX1, Cond.code yX1_part cX1_part 6 (some .int), Cond.fieldLink RX1 20 "PalletGram" "goods" "[I", Cond.fieldLink RX1 40 "PalletGram" "pallets" "I", Cond.fieldLink RX1 16 "PalletGram" "holders" "[I", Cond.fieldLink RX1 10 "PalletGram" "chains" "LPalletGram$Chains;", Cond.methodLink RX1 55 yX1_isPallet, Cond.instanceMethod yX1_isPallet, Cond.selects RX1 yX1_isPallet yX1_isPallet, Cond.code yX1_isPallet cX1_isPallet 2 (some .boolean), Cond.methodLink RX1 58 yX1_isGood, Cond.static yX1_isGood, Cond.code yX1_isGood cX1_isGood 1 (some .boolean), Cond.methodLink RX1 36 yX1_needThere, Cond.static yX1_needThere, Cond.code yX1_needThere cX1_needThere 1 none, Cond.classLink RX1 152 "java/lang/IndexOutOfBoundsException", Cond.initialized "java/lang/IndexOutOfBoundsException"]
def wsL_part_r2 : List Cond := [Cond.methodLink RX1 61 yX1_isWithin, Cond.static yX1_isWithin, Cond.code yX1_isWithin cX1_isWithin 3 (some .boolean), Cond.methodLink RX1 65 yX1_needRange, Cond.static yX1_needRange, Cond.code yX1_needRange cX1_needRange 1 none, Cond.classLink RX1 159 "java/lang/IllegalArgumentException", Cond.initialized "java/lang/IllegalArgumentException", Cond.methodLink RX1 68 yX1_isWorkable, Cond.instanceMethod yX1_isWorkable, Cond.selects RX1 yX1_isWorkable yX1_isWorkable, Cond.code yX1_isWorkable cX1_isWorkable 2 (some .boolean), Cond.methodLink RX1 95 yX1_isHeld, Cond.instanceMethod yX1_isHeld, Cond.selects RX1 yX1_isHeld yX1_isHeld, Cond.code yX1_isHeld cX1_isHeld 2 (some .boolean), Cond.methodLink RX1 173 yX0_lastKind, Cond.instanceMethod yX0_lastKind, Cond.selects RX0 yX0_lastKind yX0_lastKind, Cond.initialized RX0, Cond.code yX0_lastKind cX0_lastKind 3 (some .int), Cond.fieldLink RX0 9 "PalletGram$Chains" "lengths" "[I", Cond.methodLink RX0 27 yX0_number, Cond.instanceMethod yX0_number]
def wsL_part_r3 : List Cond := [Cond.selects RX0 yX0_number yX0_number, Cond.code yX0_number cX0_number 4 (some .int), Cond.fieldLink RX0 15 "PalletGram$Chains" "numbers" "[I", Cond.methodLink RX0 31 yX0_row, Cond.static yX0_row, Cond.code yX0_row cX0_row 2 (some .int), Cond.methodLink RX1 90 yX1_isGone, Cond.instanceMethod yX1_isGone, Cond.selects RX1 yX1_isGone yX1_isGone, Cond.code yX1_isGone cX1_isGone 2 (some .boolean), Cond.methodLink RX1 93 yX0_hasRoom, Cond.instanceMethod yX0_hasRoom, Cond.selects RX0 yX0_hasRoom yX0_hasRoom, Cond.code yX0_hasRoom cX0_hasRoom 2 (some .boolean), Cond.methodLink RX1 132 yX1_allAreUnbroken, Cond.instanceMethod yX1_allAreUnbroken, Cond.selects RX1 yX1_allAreUnbroken yX1_allAreUnbroken, Cond.code yX1_allAreUnbroken cX1_allAreUnbroken 4 (some .boolean), Cond.methodLink RX1 176 yX0_reach, Cond.instanceMethod yX0_reach, Cond.selects RX0 yX0_reach yX0_reach, Cond.code yX0_reach cX0_reach 7 (some .int), Cond.static yX1_isIn, Cond.code yX1_isIn cX1_isIn 2 (some .boolean)]
def wsL_part_r4 : List Cond := [Cond.methodLink RX0 55 yX0_toldPallets, Cond.instanceMethod yX0_toldPallets, Cond.selects RX0 yX0_toldPallets yX0_toldPallets, Cond.code yX0_toldPallets cX0_toldPallets 6 (some .int), Cond.methodLink RX1 180 yX1_isIn, Cond.methodLink RX1 129 yX0_firstBroken, Cond.instanceMethod yX0_firstBroken, Cond.selects RX0 yX0_firstBroken yX0_firstBroken, Cond.code yX0_firstBroken cX0_firstBroken 3 (some .int), Cond.methodLink RX0 52 yX0_isBroken, Cond.instanceMethod yX0_isBroken, Cond.selects RX0 yX0_isBroken yX0_isBroken, Cond.code yX0_isBroken cX0_isBroken 3 (some .boolean), Cond.methodLink RX0 49 yX0_proof, Cond.instanceMethod yX0_proof, Cond.selects RX0 yX0_proof yX0_proof, Cond.code yX0_proof cX0_proof 3 (some .int), Cond.fieldLink RX0 18 "PalletGram$Chains" "proofs" "[I", Cond.methodLink RX0 35 yX0_proofMade, Cond.instanceMethod yX0_proofMade, Cond.selects RX0 yX0_proofMade yX0_proofMade, Cond.code yX0_proofMade cX0_proofMade 6 (some .int), Cond.methodLink RX1 44 yX1_needState, Cond.static yX1_needState]
def wsL_part_r5 : List Cond := [Cond.code yX1_needState cX1_needState 1 none, Cond.classLink RX1 164 "java/lang/IllegalStateException", Cond.initialized "java/lang/IllegalStateException", Cond.methodLink RX1 47 yX1_stand, Cond.instanceMethod yX1_stand, Cond.selects RX1 yX1_stand yX1_stand, Cond.code yX1_stand cX1_stand 3 (some .int), Cond.methodLink RX1 78 yX0_length, Cond.instanceMethod yX0_length, Cond.selects RX0 yX0_length yX0_length, Cond.code yX0_length cX0_length 2 (some .int), Cond.methodLink RX1 51 yX1_write, Cond.instanceMethod yX1_write, Cond.selects RX1 yX1_write yX1_write, Cond.code yX1_write cX1_write 8 none, Cond.fieldLink RX1 29 "PalletGram" "debts" "[I", Cond.fieldLink RX1 26 "PalletGram" "fees" "[I", Cond.methodLink RX1 169 yX0_add, Cond.instanceMethod yX0_add, Cond.selects RX0 yX0_add yX0_add, Cond.code yX0_add cX0_add 10 none, Cond.fieldLink RX0 21 "PalletGram$Chains" "copies" "[I", Cond.fieldLink RX0 24 "PalletGram$Chains" "amountsMade" "[I", Cond.methodLink RX0 38 yX0_witnesses]
def wsL_part_r6 : List Cond := [Cond.static yX0_witnesses, Cond.code yX0_witnesses cX0_witnesses 4 (some .int)]
def wsL_part : List Cond := .codeWith yL_part cL_part 6 (some .int) [(0, 12, 15, 13), (0, 12, 19, 21), (0, 12, 23, 15)] :: ((wsL_part_r1 ++ (wsL_part_r2 ++ (wsL_part_r3 ++ (wsL_part_r4 ++ (wsL_part_r5 ++ wsL_part_r6))))) ++ wsX10 ++ wsX00 ++ (vx_atS RX1 156 "java/lang/IndexOutOfBoundsException" ["java/lang/RuntimeException", "java/lang/Exception"]).filter goodWord ++ (vx_atS RX1 163 "java/lang/IllegalArgumentException" ["java/lang/RuntimeException", "java/lang/Exception"]).filter goodWord ++ (vx_atS RX1 168 "java/lang/IllegalStateException" ["java/lang/RuntimeException", "java/lang/Exception"]).filter goodWord)
def wsL_join_r1 : List Cond := [Cond.classLink RL 13 "java/lang/IndexOutOfBoundsException", Cond.classLink RL 21 "java/lang/IllegalArgumentException", Cond.classLink RL 15 "java/lang/IllegalStateException", Cond.methodLink RL 26 yX1_join, Cond.instanceMethod yX1_join, Cond.selects RX1 yX1_join yX1_join, Cond.initialized RX1, Cond.code yX1_join cX1_join 6 (some .int), Cond.fieldLink RX1 16 "PalletGram" "holders" "[I", Cond.fieldLink RX1 20 "PalletGram" "goods" "[I", Cond.fieldLink RX1 10 "PalletGram" "chains" "LPalletGram$Chains;", Cond.methodLink RX1 55 yX1_isPallet, Cond.instanceMethod yX1_isPallet, Cond.selects RX1 yX1_isPallet yX1_isPallet, Cond.code yX1_isPallet cX1_isPallet 2 (some .boolean), Cond.fieldLink RX1 40 "PalletGram" "pallets" "I", Cond.methodLink RX1 36 yX1_needThere, Cond.static yX1_needThere, Cond.code yX1_needThere cX1_needThere 1 none, Cond.classLink RX1 152 "java/lang/IndexOutOfBoundsException", Cond.initialized "java/lang/IndexOutOfBoundsException", Cond.methodLink RX1 65 yX1_needRange, Cond.static yX1_needRange, Cond.code yX1_needRange cX1_needRange 1 none]
def wsL_join_r2 : List Cond := [Cond.classLink RX1 159 "java/lang/IllegalArgumentException", Cond.initialized "java/lang/IllegalArgumentException", Cond.methodLink RX1 68 yX1_isWorkable, Cond.instanceMethod yX1_isWorkable, Cond.selects RX1 yX1_isWorkable yX1_isWorkable, Cond.code yX1_isWorkable cX1_isWorkable 2 (some .boolean), Cond.methodLink RX1 95 yX1_isHeld, Cond.instanceMethod yX1_isHeld, Cond.selects RX1 yX1_isHeld yX1_isHeld, Cond.code yX1_isHeld cX1_isHeld 2 (some .boolean), Cond.methodLink RX1 173 yX0_lastKind, Cond.instanceMethod yX0_lastKind, Cond.selects RX0 yX0_lastKind yX0_lastKind, Cond.initialized RX0, Cond.code yX0_lastKind cX0_lastKind 3 (some .int), Cond.fieldLink RX0 9 "PalletGram$Chains" "lengths" "[I", Cond.methodLink RX0 27 yX0_number, Cond.instanceMethod yX0_number, Cond.selects RX0 yX0_number yX0_number, Cond.code yX0_number cX0_number 4 (some .int), Cond.fieldLink RX0 15 "PalletGram$Chains" "numbers" "[I", Cond.methodLink RX0 31 yX0_row, Cond.static yX0_row, Cond.code yX0_row cX0_row 2 (some .int)]
def wsL_join_r3 : List Cond := [Cond.methodLink RX1 90 yX1_isGone, Cond.instanceMethod yX1_isGone, Cond.selects RX1 yX1_isGone yX1_isGone, Cond.code yX1_isGone cX1_isGone 2 (some .boolean), Cond.methodLink RX1 93 yX0_hasRoom, Cond.instanceMethod yX0_hasRoom, Cond.selects RX0 yX0_hasRoom yX0_hasRoom, Cond.code yX0_hasRoom cX0_hasRoom 2 (some .boolean), Cond.methodLink RX1 132 yX1_allAreUnbroken, Cond.instanceMethod yX1_allAreUnbroken, Cond.selects RX1 yX1_allAreUnbroken yX1_allAreUnbroken, Cond.code yX1_allAreUnbroken cX1_allAreUnbroken 4 (some .boolean), Cond.methodLink RX1 176 yX0_reach, Cond.instanceMethod yX0_reach, Cond.selects RX0 yX0_reach yX0_reach, Cond.code yX0_reach cX0_reach 7 (some .int), Cond.static yX1_isIn, Cond.code yX1_isIn cX1_isIn 2 (some .boolean), Cond.methodLink RX0 55 yX0_toldPallets, Cond.instanceMethod yX0_toldPallets, Cond.selects RX0 yX0_toldPallets yX0_toldPallets, Cond.code yX0_toldPallets cX0_toldPallets 6 (some .int), Cond.methodLink RX1 180 yX1_isIn, Cond.methodLink RX1 129 yX0_firstBroken]
def wsL_join_r4 : List Cond := [Cond.instanceMethod yX0_firstBroken, Cond.selects RX0 yX0_firstBroken yX0_firstBroken, Cond.code yX0_firstBroken cX0_firstBroken 3 (some .int), Cond.methodLink RX0 52 yX0_isBroken, Cond.instanceMethod yX0_isBroken, Cond.selects RX0 yX0_isBroken yX0_isBroken, Cond.code yX0_isBroken cX0_isBroken 3 (some .boolean), Cond.methodLink RX0 49 yX0_proof, Cond.instanceMethod yX0_proof, Cond.selects RX0 yX0_proof yX0_proof, Cond.code yX0_proof cX0_proof 3 (some .int), Cond.fieldLink RX0 18 "PalletGram$Chains" "proofs" "[I", Cond.methodLink RX0 35 yX0_proofMade, Cond.instanceMethod yX0_proofMade, Cond.selects RX0 yX0_proofMade yX0_proofMade, Cond.code yX0_proofMade cX0_proofMade 6 (some .int), Cond.methodLink RX1 81 yX1_canComeTogether, Cond.instanceMethod yX1_canComeTogether, Cond.selects RX1 yX1_canComeTogether yX1_canComeTogether, Cond.code yX1_canComeTogether cX1_canComeTogether 4 (some .boolean), Cond.methodLink RX1 44 yX1_needState, Cond.static yX1_needState, Cond.code yX1_needState cX1_needState 1 none, Cond.classLink RX1 164 "java/lang/IllegalStateException"]
def wsL_join_r5 : List Cond := [Cond.initialized "java/lang/IllegalStateException", Cond.methodLink RX1 78 yX0_length, Cond.instanceMethod yX0_length, Cond.selects RX0 yX0_length yX0_length, Cond.code yX0_length cX0_length 2 (some .int), Cond.methodLink RX1 51 yX1_write, Cond.instanceMethod yX1_write, Cond.selects RX1 yX1_write yX1_write, Cond.code yX1_write cX1_write 8 none, Cond.fieldLink RX1 29 "PalletGram" "debts" "[I", Cond.fieldLink RX1 26 "PalletGram" "fees" "[I", Cond.methodLink RX1 169 yX0_add, Cond.instanceMethod yX0_add, Cond.selects RX0 yX0_add yX0_add, Cond.code yX0_add cX0_add 10 none, Cond.fieldLink RX0 21 "PalletGram$Chains" "copies" "[I", Cond.fieldLink RX0 24 "PalletGram$Chains" "amountsMade" "[I", Cond.methodLink RX0 38 yX0_witnesses, Cond.static yX0_witnesses, Cond.code yX0_witnesses cX0_witnesses 4 (some .int)]
def wsL_join : List Cond := .codeWith yL_join cL_join 5 (some .int) [(0, 10, 13, 13), (0, 10, 17, 21), (0, 10, 21, 15)] :: ((wsL_join_r1 ++ (wsL_join_r2 ++ (wsL_join_r3 ++ (wsL_join_r4 ++ wsL_join_r5)))) ++ wsX10 ++ wsX00 ++ (vx_atS RX1 156 "java/lang/IndexOutOfBoundsException" ["java/lang/RuntimeException", "java/lang/Exception"]).filter goodWord ++ (vx_atS RX1 163 "java/lang/IllegalArgumentException" ["java/lang/RuntimeException", "java/lang/Exception"]).filter goodWord ++ (vx_atS RX1 168 "java/lang/IllegalStateException" ["java/lang/RuntimeException", "java/lang/Exception"]).filter goodWord)
def wsL_move_r1 : List Cond := [Cond.classLink RL 13 "java/lang/IndexOutOfBoundsException", Cond.classLink RL 15 "java/lang/IllegalStateException", Cond.methodLink RL 30 yX1_move, Cond.instanceMethod yX1_move, Cond.selects RX1 yX1_move yX1_move, Cond.initialized RX1, Cond.code yX1_move cX1_move 4 (some .int), Cond.fieldLink RX1 16 "PalletGram" "holders" "[I", Cond.methodLink RX1 55 yX1_isPallet, Cond.instanceMethod yX1_isPallet, Cond.selects RX1 yX1_isPallet yX1_isPallet, Cond.code yX1_isPallet cX1_isPallet 2 (some .boolean), Cond.fieldLink RX1 40 "PalletGram" "pallets" "I", Cond.methodLink RX1 84 yX1_isHolder, Cond.static yX1_isHolder, Cond.code yX1_isHolder cX1_isHolder 1 (some .boolean), Cond.methodLink RX1 36 yX1_needThere, Cond.static yX1_needThere, Cond.code yX1_needThere cX1_needThere 1 none, Cond.classLink RX1 152 "java/lang/IndexOutOfBoundsException", Cond.initialized "java/lang/IndexOutOfBoundsException", Cond.methodLink RX1 87 yX1_weightOf, Cond.instanceMethod yX1_weightOf, Cond.selects RX1 yX1_weightOf yX1_weightOf]
def wsL_move_r2 : List Cond := [Cond.code yX1_weightOf cX1_weightOf 4 (some .int), Cond.fieldLink RX1 20 "PalletGram" "goods" "[I", Cond.methodLink RX1 71 yX1_weightOfOne, Cond.static yX1_weightOfOne, Cond.code yX1_weightOfOne cX1_weightOfOne 1 (some .int), Cond.methodLink RX1 68 yX1_isWorkable, Cond.instanceMethod yX1_isWorkable, Cond.selects RX1 yX1_isWorkable yX1_isWorkable, Cond.code yX1_isWorkable cX1_isWorkable 2 (some .boolean), Cond.fieldLink RX1 10 "PalletGram" "chains" "LPalletGram$Chains;", Cond.methodLink RX1 95 yX1_isHeld, Cond.instanceMethod yX1_isHeld, Cond.selects RX1 yX1_isHeld yX1_isHeld, Cond.code yX1_isHeld cX1_isHeld 2 (some .boolean), Cond.methodLink RX1 173 yX0_lastKind, Cond.instanceMethod yX0_lastKind, Cond.selects RX0 yX0_lastKind yX0_lastKind, Cond.initialized RX0, Cond.code yX0_lastKind cX0_lastKind 3 (some .int), Cond.fieldLink RX0 9 "PalletGram$Chains" "lengths" "[I", Cond.methodLink RX0 27 yX0_number, Cond.instanceMethod yX0_number, Cond.selects RX0 yX0_number yX0_number, Cond.code yX0_number cX0_number 4 (some .int)]
def wsL_move_r3 : List Cond := [Cond.fieldLink RX0 15 "PalletGram$Chains" "numbers" "[I", Cond.methodLink RX0 31 yX0_row, Cond.static yX0_row, Cond.code yX0_row cX0_row 2 (some .int), Cond.methodLink RX1 90 yX1_isGone, Cond.instanceMethod yX1_isGone, Cond.selects RX1 yX1_isGone yX1_isGone, Cond.code yX1_isGone cX1_isGone 2 (some .boolean), Cond.methodLink RX1 93 yX0_hasRoom, Cond.instanceMethod yX0_hasRoom, Cond.selects RX0 yX0_hasRoom yX0_hasRoom, Cond.code yX0_hasRoom cX0_hasRoom 2 (some .boolean), Cond.methodLink RX1 132 yX1_allAreUnbroken, Cond.instanceMethod yX1_allAreUnbroken, Cond.selects RX1 yX1_allAreUnbroken yX1_allAreUnbroken, Cond.code yX1_allAreUnbroken cX1_allAreUnbroken 4 (some .boolean), Cond.methodLink RX1 176 yX0_reach, Cond.instanceMethod yX0_reach, Cond.selects RX0 yX0_reach yX0_reach, Cond.code yX0_reach cX0_reach 7 (some .int), Cond.static yX1_isIn, Cond.code yX1_isIn cX1_isIn 2 (some .boolean), Cond.methodLink RX0 55 yX0_toldPallets, Cond.instanceMethod yX0_toldPallets]
def wsL_move_r4 : List Cond := [Cond.selects RX0 yX0_toldPallets yX0_toldPallets, Cond.code yX0_toldPallets cX0_toldPallets 6 (some .int), Cond.methodLink RX1 180 yX1_isIn, Cond.methodLink RX1 129 yX0_firstBroken, Cond.instanceMethod yX0_firstBroken, Cond.selects RX0 yX0_firstBroken yX0_firstBroken, Cond.code yX0_firstBroken cX0_firstBroken 3 (some .int), Cond.methodLink RX0 52 yX0_isBroken, Cond.instanceMethod yX0_isBroken, Cond.selects RX0 yX0_isBroken yX0_isBroken, Cond.code yX0_isBroken cX0_isBroken 3 (some .boolean), Cond.methodLink RX0 49 yX0_proof, Cond.instanceMethod yX0_proof, Cond.selects RX0 yX0_proof yX0_proof, Cond.code yX0_proof cX0_proof 3 (some .int), Cond.fieldLink RX0 18 "PalletGram$Chains" "proofs" "[I", Cond.methodLink RX0 35 yX0_proofMade, Cond.instanceMethod yX0_proofMade, Cond.selects RX0 yX0_proofMade yX0_proofMade, Cond.code yX0_proofMade cX0_proofMade 6 (some .int), Cond.methodLink RX1 32 yX1_isDock, Cond.static yX1_isDock, Cond.code yX1_isDock cX1_isDock 1 (some .boolean), Cond.methodLink RX1 74 yX1_hasRoom]
def wsL_move_r5 : List Cond := [Cond.instanceMethod yX1_hasRoom, Cond.selects RX1 yX1_hasRoom yX1_hasRoom, Cond.code yX1_hasRoom cX1_hasRoom 5 (some .boolean), Cond.methodLink RX1 44 yX1_needState, Cond.static yX1_needState, Cond.code yX1_needState cX1_needState 1 none, Cond.classLink RX1 164 "java/lang/IllegalStateException", Cond.initialized "java/lang/IllegalStateException", Cond.methodLink RX1 51 yX1_write, Cond.instanceMethod yX1_write, Cond.selects RX1 yX1_write yX1_write, Cond.code yX1_write cX1_write 8 none, Cond.fieldLink RX1 29 "PalletGram" "debts" "[I", Cond.fieldLink RX1 26 "PalletGram" "fees" "[I", Cond.methodLink RX1 169 yX0_add, Cond.instanceMethod yX0_add, Cond.selects RX0 yX0_add yX0_add, Cond.code yX0_add cX0_add 10 none, Cond.fieldLink RX0 21 "PalletGram$Chains" "copies" "[I", Cond.fieldLink RX0 24 "PalletGram$Chains" "amountsMade" "[I", Cond.methodLink RX0 38 yX0_witnesses, Cond.static yX0_witnesses, Cond.code yX0_witnesses cX0_witnesses 4 (some .int)]
def wsL_move : List Cond := .codeWith yL_move cL_move 5 (some .int) [(0, 10, 13, 13), (0, 10, 17, 15)] :: ((wsL_move_r1 ++ (wsL_move_r2 ++ (wsL_move_r3 ++ (wsL_move_r4 ++ wsL_move_r5)))) ++ wsX10 ++ wsX00 ++ (vx_atS RX1 156 "java/lang/IndexOutOfBoundsException" ["java/lang/RuntimeException", "java/lang/Exception"]).filter goodWord ++ (vx_atS RX1 168 "java/lang/IllegalStateException" ["java/lang/RuntimeException", "java/lang/Exception"]).filter goodWord)
def wsL_hold_r1 : List Cond := [Cond.classLink RL 13 "java/lang/IndexOutOfBoundsException", Cond.classLink RL 15 "java/lang/IllegalStateException", Cond.methodLink RL 33 yX1_hold, Cond.instanceMethod yX1_hold, Cond.selects RX1 yX1_hold yX1_hold, Cond.initialized RX1, Cond.code yX1_hold cX1_hold 3 (some .boolean), Cond.fieldLink RX1 10 "PalletGram" "chains" "LPalletGram$Chains;", Cond.methodLink RX1 55 yX1_isPallet, Cond.instanceMethod yX1_isPallet, Cond.selects RX1 yX1_isPallet yX1_isPallet, Cond.code yX1_isPallet cX1_isPallet 2 (some .boolean), Cond.fieldLink RX1 40 "PalletGram" "pallets" "I", Cond.methodLink RX1 36 yX1_needThere, Cond.static yX1_needThere, Cond.code yX1_needThere cX1_needThere 1 none, Cond.classLink RX1 152 "java/lang/IndexOutOfBoundsException", Cond.initialized "java/lang/IndexOutOfBoundsException", Cond.methodLink RX1 90 yX1_isGone, Cond.instanceMethod yX1_isGone, Cond.selects RX1 yX1_isGone yX1_isGone, Cond.code yX1_isGone cX1_isGone 2 (some .boolean), Cond.methodLink RX1 173 yX0_lastKind, Cond.instanceMethod yX0_lastKind]
def wsL_hold_r2 : List Cond := [Cond.selects RX0 yX0_lastKind yX0_lastKind, Cond.initialized RX0, Cond.code yX0_lastKind cX0_lastKind 3 (some .int), Cond.fieldLink RX0 9 "PalletGram$Chains" "lengths" "[I", Cond.methodLink RX0 27 yX0_number, Cond.instanceMethod yX0_number, Cond.selects RX0 yX0_number yX0_number, Cond.code yX0_number cX0_number 4 (some .int), Cond.fieldLink RX0 15 "PalletGram$Chains" "numbers" "[I", Cond.methodLink RX0 31 yX0_row, Cond.static yX0_row, Cond.code yX0_row cX0_row 2 (some .int), Cond.methodLink RX1 93 yX0_hasRoom, Cond.instanceMethod yX0_hasRoom, Cond.selects RX0 yX0_hasRoom yX0_hasRoom, Cond.code yX0_hasRoom cX0_hasRoom 2 (some .boolean), Cond.methodLink RX1 44 yX1_needState, Cond.static yX1_needState, Cond.code yX1_needState cX1_needState 1 none, Cond.classLink RX1 164 "java/lang/IllegalStateException", Cond.initialized "java/lang/IllegalStateException", Cond.methodLink RX1 95 yX1_isHeld, Cond.instanceMethod yX1_isHeld, Cond.selects RX1 yX1_isHeld yX1_isHeld]
def wsL_hold_r3 : List Cond := [Cond.code yX1_isHeld cX1_isHeld 2 (some .boolean), Cond.methodLink RX1 51 yX1_write, Cond.instanceMethod yX1_write, Cond.selects RX1 yX1_write yX1_write, Cond.code yX1_write cX1_write 8 none, Cond.fieldLink RX1 16 "PalletGram" "holders" "[I", Cond.fieldLink RX1 29 "PalletGram" "debts" "[I", Cond.fieldLink RX1 26 "PalletGram" "fees" "[I", Cond.methodLink RX1 169 yX0_add, Cond.instanceMethod yX0_add, Cond.selects RX0 yX0_add yX0_add, Cond.code yX0_add cX0_add 10 none, Cond.fieldLink RX0 18 "PalletGram$Chains" "proofs" "[I", Cond.fieldLink RX0 21 "PalletGram$Chains" "copies" "[I", Cond.fieldLink RX0 24 "PalletGram$Chains" "amountsMade" "[I", Cond.methodLink RX0 35 yX0_proofMade, Cond.instanceMethod yX0_proofMade, Cond.selects RX0 yX0_proofMade yX0_proofMade, Cond.code yX0_proofMade cX0_proofMade 6 (some .int), Cond.methodLink RX0 38 yX0_witnesses, Cond.static yX0_witnesses, Cond.code yX0_witnesses cX0_witnesses 4 (some .int)]
def wsL_hold : List Cond := .codeWith yL_hold cL_hold 4 (some .int) [(0, 16, 19, 13), (0, 16, 22, 15)] :: ((wsL_hold_r1 ++ (wsL_hold_r2 ++ wsL_hold_r3)) ++ wsX10 ++ wsX00 ++ (vx_atS RX1 156 "java/lang/IndexOutOfBoundsException" ["java/lang/RuntimeException", "java/lang/Exception"]).filter goodWord ++ (vx_atS RX1 168 "java/lang/IllegalStateException" ["java/lang/RuntimeException", "java/lang/Exception"]).filter goodWord)
def wsL_spoil_r1 : List Cond := [Cond.classLink RL 13 "java/lang/IndexOutOfBoundsException", Cond.classLink RL 21 "java/lang/IllegalArgumentException", Cond.methodLink RL 37 yX1_spoil, Cond.instanceMethod yX1_spoil, Cond.selects RX1 yX1_spoil yX1_spoil, Cond.initialized RX1, Cond.code yX1_spoil cX1_spoil 5 (some .int), Cond.fieldLink RX1 10 "PalletGram" "chains" "LPalletGram$Chains;", Cond.methodLink RX1 55 yX1_isPallet, Cond.instanceMethod yX1_isPallet, Cond.selects RX1 yX1_isPallet yX1_isPallet, Cond.code yX1_isPallet cX1_isPallet 2 (some .boolean), Cond.fieldLink RX1 40 "PalletGram" "pallets" "I", Cond.methodLink RX1 98 yX0_has, Cond.instanceMethod yX0_has, Cond.selects RX0 yX0_has yX0_has, Cond.initialized RX0, Cond.code yX0_has cX0_has 3 (some .boolean), Cond.fieldLink RX0 9 "PalletGram$Chains" "lengths" "[I", Cond.methodLink RX1 36 yX1_needThere, Cond.static yX1_needThere, Cond.code yX1_needThere cX1_needThere 1 none, Cond.classLink RX1 152 "java/lang/IndexOutOfBoundsException", Cond.initialized "java/lang/IndexOutOfBoundsException"]
def wsL_spoil_r2 : List Cond := [Cond.methodLink RX1 61 yX1_isWithin, Cond.static yX1_isWithin, Cond.code yX1_isWithin cX1_isWithin 3 (some .boolean), Cond.methodLink RX1 65 yX1_needRange, Cond.static yX1_needRange, Cond.code yX1_needRange cX1_needRange 1 none, Cond.classLink RX1 159 "java/lang/IllegalArgumentException", Cond.initialized "java/lang/IllegalArgumentException", Cond.methodLink RX1 101 yX0_number, Cond.instanceMethod yX0_number, Cond.selects RX0 yX0_number yX0_number, Cond.code yX0_number cX0_number 4 (some .int), Cond.fieldLink RX0 15 "PalletGram$Chains" "numbers" "[I", Cond.methodLink RX0 31 yX0_row, Cond.static yX0_row, Cond.code yX0_row cX0_row 2 (some .int), Cond.methodLink RX1 105 yX0_putAmount, Cond.instanceMethod yX0_putAmount, Cond.selects RX0 yX0_putAmount yX0_putAmount, Cond.code yX0_putAmount cX0_putAmount 4 none]
def wsL_spoil : List Cond := .codeWith yL_spoil cL_spoil 6 (some .int) [(0, 12, 15, 13), (0, 12, 19, 21)] :: ((wsL_spoil_r1 ++ wsL_spoil_r2) ++ wsX10 ++ wsX00 ++ (vx_atS RX1 156 "java/lang/IndexOutOfBoundsException" ["java/lang/RuntimeException", "java/lang/Exception"]).filter goodWord ++ (vx_atS RX1 163 "java/lang/IllegalArgumentException" ["java/lang/RuntimeException", "java/lang/Exception"]).filter goodWord)
def wsL_lose : List Cond := .codeWith yL_lose cL_lose 4 (some .int) [(0, 9, 12, 13)] :: ([.classLink RL 13 "java/lang/IndexOutOfBoundsException", .methodLink RL 40 yX1_lose, .instanceMethod yX1_lose, .selects RX1 yX1_lose yX1_lose, .initialized RX1, .code yX1_lose cX1_lose 2 (some .int), .fieldLink RX1 10 "PalletGram" "chains" "LPalletGram$Chains;", .methodLink RX1 109 yX1_isOwer, .static yX1_isOwer, .code yX1_isOwer cX1_isOwer 1 (some .boolean), .methodLink RX1 36 yX1_needThere, .static yX1_needThere, .code yX1_needThere cX1_needThere 1 none, .classLink RX1 152 "java/lang/IndexOutOfBoundsException", .initialized "java/lang/IndexOutOfBoundsException", .methodLink RX1 112 yX0_dropCopies, .instanceMethod yX0_dropCopies, .selects RX0 yX0_dropCopies yX0_dropCopies, .initialized RX0, .code yX0_dropCopies cX0_dropCopies 4 (some .int), .fieldLink RX0 21 "PalletGram$Chains" "copies" "[I", .static yX1_isIn, .code yX1_isIn cX1_isIn 2 (some .boolean)] ++ wsX10 ++ wsX00 ++ (vx_atS RX1 156 "java/lang/IndexOutOfBoundsException" ["java/lang/RuntimeException", "java/lang/Exception"]).filter goodWord)
def wsL_repair_r1 : List Cond := [Cond.classLink RL 13 "java/lang/IndexOutOfBoundsException", Cond.classLink RL 15 "java/lang/IllegalStateException", Cond.methodLink RL 43 yX1_repair, Cond.instanceMethod yX1_repair, Cond.selects RX1 yX1_repair yX1_repair, Cond.initialized RX1, Cond.code yX1_repair cX1_repair 4 (some .int), Cond.fieldLink RX1 10 "PalletGram" "chains" "LPalletGram$Chains;", Cond.fieldLink RX1 29 "PalletGram" "debts" "[I", Cond.fieldLink RX1 16 "PalletGram" "holders" "[I", Cond.methodLink RX1 55 yX1_isPallet, Cond.instanceMethod yX1_isPallet, Cond.selects RX1 yX1_isPallet yX1_isPallet, Cond.code yX1_isPallet cX1_isPallet 2 (some .boolean), Cond.fieldLink RX1 40 "PalletGram" "pallets" "I", Cond.methodLink RX1 98 yX0_has, Cond.instanceMethod yX0_has, Cond.selects RX0 yX0_has yX0_has, Cond.initialized RX0, Cond.code yX0_has cX0_has 3 (some .boolean), Cond.fieldLink RX0 9 "PalletGram$Chains" "lengths" "[I", Cond.methodLink RX1 36 yX1_needThere, Cond.static yX1_needThere, Cond.code yX1_needThere cX1_needThere 1 none]
def wsL_repair_r2 : List Cond := [Cond.classLink RX1 152 "java/lang/IndexOutOfBoundsException", Cond.initialized "java/lang/IndexOutOfBoundsException", Cond.methodLink RX1 115 yX0_copies, Cond.instanceMethod yX0_copies, Cond.selects RX0 yX0_copies yX0_copies, Cond.code yX0_copies cX0_copies 3 (some .int), Cond.fieldLink RX0 21 "PalletGram$Chains" "copies" "[I", Cond.methodLink RX0 31 yX0_row, Cond.static yX0_row, Cond.code yX0_row cX0_row 2 (some .int), Cond.methodLink RX1 119 yX1_lowestOf, Cond.static yX1_lowestOf, Cond.code yX1_lowestOf cX1_lowestOf 2 (some .int), Cond.methodLink RX1 180 yX1_isIn, Cond.static yX1_isIn, Cond.code yX1_isIn cX1_isIn 2 (some .boolean), Cond.methodLink RX1 122 yX0_isBroken, Cond.instanceMethod yX0_isBroken, Cond.selects RX0 yX0_isBroken yX0_isBroken, Cond.code yX0_isBroken cX0_isBroken 3 (some .boolean), Cond.methodLink RX0 49 yX0_proof, Cond.instanceMethod yX0_proof, Cond.selects RX0 yX0_proof yX0_proof, Cond.code yX0_proof cX0_proof 3 (some .int)]
def wsL_repair_r3 : List Cond := [Cond.fieldLink RX0 18 "PalletGram$Chains" "proofs" "[I", Cond.methodLink RX0 35 yX0_proofMade, Cond.instanceMethod yX0_proofMade, Cond.selects RX0 yX0_proofMade yX0_proofMade, Cond.code yX0_proofMade cX0_proofMade 6 (some .int), Cond.fieldLink RX0 15 "PalletGram$Chains" "numbers" "[I", Cond.methodLink RX1 44 yX1_needState, Cond.static yX1_needState, Cond.code yX1_needState cX1_needState 1 none, Cond.classLink RX1 164 "java/lang/IllegalStateException", Cond.initialized "java/lang/IllegalStateException", Cond.methodLink RX1 125 yX0_putAmountBack, Cond.instanceMethod yX0_putAmountBack, Cond.selects RX0 yX0_putAmountBack yX0_putAmountBack, Cond.code yX0_putAmountBack cX0_putAmountBack 3 none, Cond.fieldLink RX0 24 "PalletGram$Chains" "amountsMade" "[I", Cond.methodLink RX0 41 yX0_putAmount, Cond.instanceMethod yX0_putAmount, Cond.selects RX0 yX0_putAmount yX0_putAmount, Cond.code yX0_putAmount cX0_putAmount 4 none]
def wsL_repair : List Cond := .codeWith yL_repair cL_repair 5 (some .int) [(0, 10, 13, 13), (0, 10, 17, 15)] :: ((wsL_repair_r1 ++ (wsL_repair_r2 ++ wsL_repair_r3)) ++ wsX10 ++ wsX00 ++ (vx_atS RX1 156 "java/lang/IndexOutOfBoundsException" ["java/lang/RuntimeException", "java/lang/Exception"]).filter goodWord ++ (vx_atS RX1 168 "java/lang/IllegalStateException" ["java/lang/RuntimeException", "java/lang/Exception"]).filter goodWord)
def wsL_broken_r1 : List Cond := [Cond.classLink RL 13 "java/lang/IndexOutOfBoundsException", Cond.methodLink RL 46 yX1_broken, Cond.instanceMethod yX1_broken, Cond.selects RX1 yX1_broken yX1_broken, Cond.initialized RX1, Cond.code yX1_broken cX1_broken 2 (some .int), Cond.fieldLink RX1 10 "PalletGram" "chains" "LPalletGram$Chains;", Cond.methodLink RX1 55 yX1_isPallet, Cond.instanceMethod yX1_isPallet, Cond.selects RX1 yX1_isPallet yX1_isPallet, Cond.code yX1_isPallet cX1_isPallet 2 (some .boolean), Cond.fieldLink RX1 40 "PalletGram" "pallets" "I", Cond.methodLink RX1 36 yX1_needThere, Cond.static yX1_needThere, Cond.code yX1_needThere cX1_needThere 1 none, Cond.classLink RX1 152 "java/lang/IndexOutOfBoundsException", Cond.initialized "java/lang/IndexOutOfBoundsException", Cond.methodLink RX1 129 yX0_firstBroken, Cond.instanceMethod yX0_firstBroken, Cond.selects RX0 yX0_firstBroken yX0_firstBroken, Cond.initialized RX0, Cond.code yX0_firstBroken cX0_firstBroken 3 (some .int), Cond.fieldLink RX0 9 "PalletGram$Chains" "lengths" "[I", Cond.methodLink RX0 52 yX0_isBroken]
def wsL_broken_r2 : List Cond := [Cond.instanceMethod yX0_isBroken, Cond.selects RX0 yX0_isBroken yX0_isBroken, Cond.code yX0_isBroken cX0_isBroken 3 (some .boolean), Cond.methodLink RX0 49 yX0_proof, Cond.instanceMethod yX0_proof, Cond.selects RX0 yX0_proof yX0_proof, Cond.code yX0_proof cX0_proof 3 (some .int), Cond.fieldLink RX0 18 "PalletGram$Chains" "proofs" "[I", Cond.methodLink RX0 31 yX0_row, Cond.static yX0_row, Cond.code yX0_row cX0_row 2 (some .int), Cond.methodLink RX0 35 yX0_proofMade, Cond.instanceMethod yX0_proofMade, Cond.selects RX0 yX0_proofMade yX0_proofMade, Cond.code yX0_proofMade cX0_proofMade 6 (some .int), Cond.fieldLink RX0 15 "PalletGram$Chains" "numbers" "[I"]
def wsL_broken : List Cond := .codeWith yL_broken cL_broken 4 (some .int) [(0, 9, 12, 13)] :: ((wsL_broken_r1 ++ wsL_broken_r2) ++ wsX10 ++ wsX00 ++ (vx_atS RX1 156 "java/lang/IndexOutOfBoundsException" ["java/lang/RuntimeException", "java/lang/Exception"]).filter goodWord)
def wsL_isSound_r1 : List Cond := [Cond.classLink RL 13 "java/lang/IndexOutOfBoundsException", Cond.methodLink RL 49 yX1_isSound, Cond.instanceMethod yX1_isSound, Cond.selects RX1 yX1_isSound yX1_isSound, Cond.initialized RX1, Cond.code yX1_isSound cX1_isSound 2 (some .boolean), Cond.methodLink RX1 55 yX1_isPallet, Cond.instanceMethod yX1_isPallet, Cond.selects RX1 yX1_isPallet yX1_isPallet, Cond.code yX1_isPallet cX1_isPallet 2 (some .boolean), Cond.fieldLink RX1 40 "PalletGram" "pallets" "I", Cond.methodLink RX1 36 yX1_needThere, Cond.static yX1_needThere, Cond.code yX1_needThere cX1_needThere 1 none, Cond.classLink RX1 152 "java/lang/IndexOutOfBoundsException", Cond.initialized "java/lang/IndexOutOfBoundsException", Cond.methodLink RX1 132 yX1_allAreUnbroken, Cond.instanceMethod yX1_allAreUnbroken, Cond.selects RX1 yX1_allAreUnbroken yX1_allAreUnbroken, Cond.code yX1_allAreUnbroken cX1_allAreUnbroken 4 (some .boolean), Cond.fieldLink RX1 10 "PalletGram" "chains" "LPalletGram$Chains;", Cond.methodLink RX1 176 yX0_reach, Cond.instanceMethod yX0_reach, Cond.selects RX0 yX0_reach yX0_reach]
def wsL_isSound_r2 : List Cond := [Cond.initialized RX0, Cond.code yX0_reach cX0_reach 7 (some .int), Cond.static yX1_isIn, Cond.code yX1_isIn cX1_isIn 2 (some .boolean), Cond.methodLink RX0 55 yX0_toldPallets, Cond.instanceMethod yX0_toldPallets, Cond.selects RX0 yX0_toldPallets yX0_toldPallets, Cond.code yX0_toldPallets cX0_toldPallets 6 (some .int), Cond.fieldLink RX0 9 "PalletGram$Chains" "lengths" "[I", Cond.methodLink RX0 27 yX0_number, Cond.instanceMethod yX0_number, Cond.selects RX0 yX0_number yX0_number, Cond.code yX0_number cX0_number 4 (some .int), Cond.fieldLink RX0 15 "PalletGram$Chains" "numbers" "[I", Cond.methodLink RX0 31 yX0_row, Cond.static yX0_row, Cond.code yX0_row cX0_row 2 (some .int), Cond.methodLink RX1 180 yX1_isIn, Cond.methodLink RX1 129 yX0_firstBroken, Cond.instanceMethod yX0_firstBroken, Cond.selects RX0 yX0_firstBroken yX0_firstBroken, Cond.code yX0_firstBroken cX0_firstBroken 3 (some .int), Cond.methodLink RX0 52 yX0_isBroken, Cond.instanceMethod yX0_isBroken]
def wsL_isSound_r3 : List Cond := [Cond.selects RX0 yX0_isBroken yX0_isBroken, Cond.code yX0_isBroken cX0_isBroken 3 (some .boolean), Cond.methodLink RX0 49 yX0_proof, Cond.instanceMethod yX0_proof, Cond.selects RX0 yX0_proof yX0_proof, Cond.code yX0_proof cX0_proof 3 (some .int), Cond.fieldLink RX0 18 "PalletGram$Chains" "proofs" "[I", Cond.methodLink RX0 35 yX0_proofMade, Cond.instanceMethod yX0_proofMade, Cond.selects RX0 yX0_proofMade yX0_proofMade, Cond.code yX0_proofMade cX0_proofMade 6 (some .int)]
def wsL_isSound : List Cond := .codeWith yL_isSound cL_isSound 4 (some .int) [(0, 16, 19, 13)] :: ((wsL_isSound_r1 ++ (wsL_isSound_r2 ++ wsL_isSound_r3)) ++ wsX10 ++ wsX00 ++ (vx_atS RX1 156 "java/lang/IndexOutOfBoundsException" ["java/lang/RuntimeException", "java/lang/Exception"]).filter goodWord)
def wsL_pallet_r1 : List Cond := [Cond.classLink RL 13 "java/lang/IndexOutOfBoundsException", Cond.classLink RL 21 "java/lang/IllegalArgumentException", Cond.methodLink RL 52 yX1_pallet, Cond.instanceMethod yX1_pallet, Cond.selects RX1 yX1_pallet yX1_pallet, Cond.initialized RX1, Cond.code yX1_pallet cX1_pallet 3 (some .int), Cond.fieldLink RX1 16 "PalletGram" "holders" "[I", Cond.fieldLink RX1 10 "PalletGram" "chains" "LPalletGram$Chains;", Cond.methodLink RX1 55 yX1_isPallet, Cond.instanceMethod yX1_isPallet, Cond.selects RX1 yX1_isPallet yX1_isPallet, Cond.code yX1_isPallet cX1_isPallet 2 (some .boolean), Cond.fieldLink RX1 40 "PalletGram" "pallets" "I", Cond.methodLink RX1 36 yX1_needThere, Cond.static yX1_needThere, Cond.code yX1_needThere cX1_needThere 1 none, Cond.classLink RX1 152 "java/lang/IndexOutOfBoundsException", Cond.initialized "java/lang/IndexOutOfBoundsException", Cond.methodLink RX1 61 yX1_isWithin, Cond.static yX1_isWithin, Cond.code yX1_isWithin cX1_isWithin 3 (some .boolean), Cond.methodLink RX1 65 yX1_needRange, Cond.static yX1_needRange]
def wsL_pallet_r2 : List Cond := [Cond.code yX1_needRange cX1_needRange 1 none, Cond.classLink RX1 159 "java/lang/IllegalArgumentException", Cond.initialized "java/lang/IllegalArgumentException", Cond.methodLink RX1 78 yX0_length, Cond.instanceMethod yX0_length, Cond.selects RX0 yX0_length yX0_length, Cond.initialized RX0, Cond.code yX0_length cX0_length 2 (some .int), Cond.fieldLink RX0 9 "PalletGram$Chains" "lengths" "[I", Cond.methodLink RX1 87 yX1_weightOf, Cond.instanceMethod yX1_weightOf, Cond.selects RX1 yX1_weightOf yX1_weightOf, Cond.code yX1_weightOf cX1_weightOf 4 (some .int), Cond.fieldLink RX1 20 "PalletGram" "goods" "[I", Cond.methodLink RX1 71 yX1_weightOfOne, Cond.static yX1_weightOfOne, Cond.code yX1_weightOfOne cX1_weightOfOne 1 (some .int), Cond.methodLink RX1 95 yX1_isHeld, Cond.instanceMethod yX1_isHeld, Cond.selects RX1 yX1_isHeld yX1_isHeld, Cond.code yX1_isHeld cX1_isHeld 2 (some .boolean), Cond.methodLink RX1 173 yX0_lastKind, Cond.instanceMethod yX0_lastKind, Cond.selects RX0 yX0_lastKind yX0_lastKind]
def wsL_pallet_r3 : List Cond := [Cond.code yX0_lastKind cX0_lastKind 3 (some .int), Cond.methodLink RX0 27 yX0_number, Cond.instanceMethod yX0_number, Cond.selects RX0 yX0_number yX0_number, Cond.code yX0_number cX0_number 4 (some .int), Cond.fieldLink RX0 15 "PalletGram$Chains" "numbers" "[I", Cond.methodLink RX0 31 yX0_row, Cond.static yX0_row, Cond.code yX0_row cX0_row 2 (some .int), Cond.methodLink RX1 90 yX1_isGone, Cond.instanceMethod yX1_isGone, Cond.selects RX1 yX1_isGone yX1_isGone, Cond.code yX1_isGone cX1_isGone 2 (some .boolean)]
def wsL_pallet : List Cond := .codeWith yL_pallet cL_pallet 5 (some .int) [(0, 10, 13, 13), (0, 10, 17, 21)] :: ((wsL_pallet_r1 ++ (wsL_pallet_r2 ++ wsL_pallet_r3)) ++ wsX10 ++ wsX00 ++ (vx_atS RX1 156 "java/lang/IndexOutOfBoundsException" ["java/lang/RuntimeException", "java/lang/Exception"]).filter goodWord ++ (vx_atS RX1 163 "java/lang/IllegalArgumentException" ["java/lang/RuntimeException", "java/lang/Exception"]).filter goodWord)
def wsL_entry_r1 : List Cond := [Cond.classLink RL 13 "java/lang/IndexOutOfBoundsException", Cond.classLink RL 21 "java/lang/IllegalArgumentException", Cond.methodLink RL 55 yX1_entry, Cond.instanceMethod yX1_entry, Cond.selects RX1 yX1_entry yX1_entry, Cond.initialized RX1, Cond.code yX1_entry cX1_entry 4 (some .int), Cond.fieldLink RX1 10 "PalletGram" "chains" "LPalletGram$Chains;", Cond.methodLink RX1 55 yX1_isPallet, Cond.instanceMethod yX1_isPallet, Cond.selects RX1 yX1_isPallet yX1_isPallet, Cond.code yX1_isPallet cX1_isPallet 2 (some .boolean), Cond.fieldLink RX1 40 "PalletGram" "pallets" "I", Cond.methodLink RX1 98 yX0_has, Cond.instanceMethod yX0_has, Cond.selects RX0 yX0_has yX0_has, Cond.initialized RX0, Cond.code yX0_has cX0_has 3 (some .boolean), Cond.fieldLink RX0 9 "PalletGram$Chains" "lengths" "[I", Cond.methodLink RX1 36 yX1_needThere, Cond.static yX1_needThere, Cond.code yX1_needThere cX1_needThere 1 none, Cond.classLink RX1 152 "java/lang/IndexOutOfBoundsException", Cond.initialized "java/lang/IndexOutOfBoundsException"]
def wsL_entry_r2 : List Cond := [Cond.methodLink RX1 61 yX1_isWithin, Cond.static yX1_isWithin, Cond.code yX1_isWithin cX1_isWithin 3 (some .boolean), Cond.methodLink RX1 65 yX1_needRange, Cond.static yX1_needRange, Cond.code yX1_needRange cX1_needRange 1 none, Cond.classLink RX1 159 "java/lang/IllegalArgumentException", Cond.initialized "java/lang/IllegalArgumentException", Cond.methodLink RX1 101 yX0_number, Cond.instanceMethod yX0_number, Cond.selects RX0 yX0_number yX0_number, Cond.code yX0_number cX0_number 4 (some .int), Cond.fieldLink RX0 15 "PalletGram$Chains" "numbers" "[I", Cond.methodLink RX0 31 yX0_row, Cond.static yX0_row, Cond.code yX0_row cX0_row 2 (some .int), Cond.methodLink RX1 135 yX0_proof, Cond.instanceMethod yX0_proof, Cond.selects RX0 yX0_proof yX0_proof, Cond.code yX0_proof cX0_proof 3 (some .int), Cond.fieldLink RX0 18 "PalletGram$Chains" "proofs" "[I", Cond.methodLink RX1 115 yX0_copies, Cond.instanceMethod yX0_copies, Cond.selects RX0 yX0_copies yX0_copies]
def wsL_entry_r3 : List Cond := [Cond.code yX0_copies cX0_copies 3 (some .int), Cond.fieldLink RX0 21 "PalletGram$Chains" "copies" "[I"]
def wsL_entry : List Cond := .codeWith yL_entry cL_entry 6 (some .int) [(0, 12, 15, 13), (0, 12, 19, 21)] :: ((wsL_entry_r1 ++ (wsL_entry_r2 ++ wsL_entry_r3)) ++ wsX10 ++ wsX00 ++ (vx_atS RX1 156 "java/lang/IndexOutOfBoundsException" ["java/lang/RuntimeException", "java/lang/Exception"]).filter goodWord ++ (vx_atS RX1 163 "java/lang/IllegalArgumentException" ["java/lang/RuntimeException", "java/lang/Exception"]).filter goodWord)
def wsL_contents : List Cond := .codeWith yL_contents cL_contents 5 (some .int) [(0, 10, 13, 13)] :: ([.classLink RL 13 "java/lang/IndexOutOfBoundsException", .methodLink RL 58 yX1_contents, .instanceMethod yX1_contents, .selects RX1 yX1_contents yX1_contents, .initialized RX1, .code yX1_contents cX1_contents 3 (some .int), .fieldLink RX1 20 "PalletGram" "goods" "[I", .methodLink RX1 55 yX1_isPallet, .instanceMethod yX1_isPallet, .selects RX1 yX1_isPallet yX1_isPallet, .code yX1_isPallet cX1_isPallet 2 (some .boolean), .fieldLink RX1 40 "PalletGram" "pallets" "I", .methodLink RX1 58 yX1_isGood, .static yX1_isGood, .code yX1_isGood cX1_isGood 1 (some .boolean), .methodLink RX1 36 yX1_needThere, .static yX1_needThere, .code yX1_needThere cX1_needThere 1 none, .classLink RX1 152 "java/lang/IndexOutOfBoundsException", .initialized "java/lang/IndexOutOfBoundsException"] ++ wsX10 ++ (vx_atS RX1 156 "java/lang/IndexOutOfBoundsException" ["java/lang/RuntimeException", "java/lang/Exception"]).filter goodWord)
def wsL_contentsAnew_r1 : List Cond := [Cond.classLink RL 13 "java/lang/IndexOutOfBoundsException", Cond.methodLink RL 61 yX1_contentsAnew, Cond.instanceMethod yX1_contentsAnew, Cond.selects RX1 yX1_contentsAnew yX1_contentsAnew, Cond.initialized RX1, Cond.code yX1_contentsAnew cX1_contentsAnew 3 (some .int), Cond.methodLink RX1 55 yX1_isPallet, Cond.instanceMethod yX1_isPallet, Cond.selects RX1 yX1_isPallet yX1_isPallet, Cond.code yX1_isPallet cX1_isPallet 2 (some .boolean), Cond.fieldLink RX1 40 "PalletGram" "pallets" "I", Cond.methodLink RX1 58 yX1_isGood, Cond.static yX1_isGood, Cond.code yX1_isGood cX1_isGood 1 (some .boolean), Cond.methodLink RX1 36 yX1_needThere, Cond.static yX1_needThere, Cond.code yX1_needThere cX1_needThere 1 none, Cond.classLink RX1 152 "java/lang/IndexOutOfBoundsException", Cond.initialized "java/lang/IndexOutOfBoundsException", Cond.methodLink RX1 138 yX1_toldByPapers, Cond.instanceMethod yX1_toldByPapers, Cond.selects RX1 yX1_toldByPapers yX1_toldByPapers, Cond.code yX1_toldByPapers cX1_toldByPapers 6 (some .int), Cond.fieldLink RX1 10 "PalletGram" "chains" "LPalletGram$Chains;"]
def wsL_contentsAnew_r2 : List Cond := [Cond.methodLink RX1 90 yX1_isGone, Cond.instanceMethod yX1_isGone, Cond.selects RX1 yX1_isGone yX1_isGone, Cond.code yX1_isGone cX1_isGone 2 (some .boolean), Cond.methodLink RX1 173 yX0_lastKind, Cond.instanceMethod yX0_lastKind, Cond.selects RX0 yX0_lastKind yX0_lastKind, Cond.initialized RX0, Cond.code yX0_lastKind cX0_lastKind 3 (some .int), Cond.fieldLink RX0 9 "PalletGram$Chains" "lengths" "[I", Cond.methodLink RX0 27 yX0_number, Cond.instanceMethod yX0_number, Cond.selects RX0 yX0_number yX0_number, Cond.code yX0_number cX0_number 4 (some .int), Cond.fieldLink RX0 15 "PalletGram$Chains" "numbers" "[I", Cond.methodLink RX0 31 yX0_row, Cond.static yX0_row, Cond.code yX0_row cX0_row 2 (some .int), Cond.methodLink RX1 176 yX0_reach, Cond.instanceMethod yX0_reach, Cond.selects RX0 yX0_reach yX0_reach, Cond.code yX0_reach cX0_reach 7 (some .int), Cond.static yX1_isIn, Cond.code yX1_isIn cX1_isIn 2 (some .boolean)]
def wsL_contentsAnew_r3 : List Cond := [Cond.methodLink RX0 55 yX0_toldPallets, Cond.instanceMethod yX0_toldPallets, Cond.selects RX0 yX0_toldPallets yX0_toldPallets, Cond.code yX0_toldPallets cX0_toldPallets 6 (some .int), Cond.methodLink RX1 180 yX1_isIn, Cond.methodLink RX1 183 yX0_toldByOwnEntries, Cond.instanceMethod yX0_toldByOwnEntries, Cond.selects RX0 yX0_toldByOwnEntries yX0_toldByOwnEntries, Cond.code yX0_toldByOwnEntries cX0_toldByOwnEntries 5 (some .int), Cond.methodLink RX0 59 yX0_sign, Cond.static yX0_sign, Cond.code yX0_sign cX0_sign 1 (some .int)]
def wsL_contentsAnew : List Cond := .codeWith yL_contentsAnew cL_contentsAnew 5 (some .int) [(0, 10, 13, 13)] :: ((wsL_contentsAnew_r1 ++ (wsL_contentsAnew_r2 ++ wsL_contentsAnew_r3)) ++ wsX10 ++ wsX00 ++ (vx_atS RX1 156 "java/lang/IndexOutOfBoundsException" ["java/lang/RuntimeException", "java/lang/Exception"]).filter goodWord)
def wsL_declare_r1 : List Cond := [Cond.classLink RL 13 "java/lang/IndexOutOfBoundsException", Cond.classLink RL 21 "java/lang/IllegalArgumentException", Cond.methodLink RL 64 yX1_declare, Cond.instanceMethod yX1_declare, Cond.selects RX1 yX1_declare yX1_declare, Cond.initialized RX1, Cond.code yX1_declare cX1_declare 6 (some .int), Cond.fieldLink RX1 23 "PalletGram" "declared" "[I", Cond.methodLink RX1 141 yX1_isTruck, Cond.static yX1_isTruck, Cond.code yX1_isTruck cX1_isTruck 1 (some .boolean), Cond.methodLink RX1 58 yX1_isGood, Cond.static yX1_isGood, Cond.code yX1_isGood cX1_isGood 1 (some .boolean), Cond.methodLink RX1 36 yX1_needThere, Cond.static yX1_needThere, Cond.code yX1_needThere cX1_needThere 1 none, Cond.classLink RX1 152 "java/lang/IndexOutOfBoundsException", Cond.initialized "java/lang/IndexOutOfBoundsException", Cond.methodLink RX1 61 yX1_isWithin, Cond.static yX1_isWithin, Cond.code yX1_isWithin cX1_isWithin 3 (some .boolean), Cond.methodLink RX1 65 yX1_needRange, Cond.static yX1_needRange]
def wsL_declare_r2 : List Cond := [Cond.code yX1_needRange cX1_needRange 1 none, Cond.classLink RX1 159 "java/lang/IllegalArgumentException", Cond.initialized "java/lang/IllegalArgumentException"]
def wsL_declare : List Cond := .codeWith yL_declare cL_declare 6 (some .int) [(0, 12, 15, 13), (0, 12, 19, 21)] :: ((wsL_declare_r1 ++ wsL_declare_r2) ++ wsX10 ++ (vx_atS RX1 156 "java/lang/IndexOutOfBoundsException" ["java/lang/RuntimeException", "java/lang/Exception"]).filter goodWord ++ (vx_atS RX1 163 "java/lang/IllegalArgumentException" ["java/lang/RuntimeException", "java/lang/Exception"]).filter goodWord)
def wsL_mismatch_r1 : List Cond := [Cond.classLink RL 13 "java/lang/IndexOutOfBoundsException", Cond.methodLink RL 67 yX1_mismatch, Cond.instanceMethod yX1_mismatch, Cond.selects RX1 yX1_mismatch yX1_mismatch, Cond.initialized RX1, Cond.code yX1_mismatch cX1_mismatch 4 (some .int), Cond.fieldLink RX1 23 "PalletGram" "declared" "[I", Cond.methodLink RX1 147 Lib.Math.abs.name, Cond.static Lib.Math.abs.name, Cond.initialized "java/lang/Math", Cond.code Lib.Math.abs.name Lib.Math.abs.code 1 (some .int), Cond.methodLink RX1 141 yX1_isTruck, Cond.static yX1_isTruck, Cond.code yX1_isTruck cX1_isTruck 1 (some .boolean), Cond.methodLink RX1 36 yX1_needThere, Cond.static yX1_needThere, Cond.code yX1_needThere cX1_needThere 1 none, Cond.classLink RX1 152 "java/lang/IndexOutOfBoundsException", Cond.initialized "java/lang/IndexOutOfBoundsException", Cond.methodLink RX1 144 yX1_toldOfTruck, Cond.instanceMethod yX1_toldOfTruck, Cond.selects RX1 yX1_toldOfTruck yX1_toldOfTruck, Cond.code yX1_toldOfTruck cX1_toldOfTruck 5 (some .int), Cond.fieldLink RX1 40 "PalletGram" "pallets" "I"]
def wsL_mismatch_r2 : List Cond := [Cond.fieldLink RX1 16 "PalletGram" "holders" "[I", Cond.methodLink RX1 138 yX1_toldByPapers, Cond.instanceMethod yX1_toldByPapers, Cond.selects RX1 yX1_toldByPapers yX1_toldByPapers, Cond.code yX1_toldByPapers cX1_toldByPapers 6 (some .int), Cond.fieldLink RX1 10 "PalletGram" "chains" "LPalletGram$Chains;", Cond.methodLink RX1 90 yX1_isGone, Cond.instanceMethod yX1_isGone, Cond.selects RX1 yX1_isGone yX1_isGone, Cond.code yX1_isGone cX1_isGone 2 (some .boolean), Cond.methodLink RX1 173 yX0_lastKind, Cond.instanceMethod yX0_lastKind, Cond.selects RX0 yX0_lastKind yX0_lastKind, Cond.initialized RX0, Cond.code yX0_lastKind cX0_lastKind 3 (some .int), Cond.fieldLink RX0 9 "PalletGram$Chains" "lengths" "[I", Cond.methodLink RX0 27 yX0_number, Cond.instanceMethod yX0_number, Cond.selects RX0 yX0_number yX0_number, Cond.code yX0_number cX0_number 4 (some .int), Cond.fieldLink RX0 15 "PalletGram$Chains" "numbers" "[I", Cond.methodLink RX0 31 yX0_row, Cond.static yX0_row, Cond.code yX0_row cX0_row 2 (some .int)]
def wsL_mismatch_r3 : List Cond := [Cond.methodLink RX1 176 yX0_reach, Cond.instanceMethod yX0_reach, Cond.selects RX0 yX0_reach yX0_reach, Cond.code yX0_reach cX0_reach 7 (some .int), Cond.static yX1_isIn, Cond.code yX1_isIn cX1_isIn 2 (some .boolean), Cond.methodLink RX0 55 yX0_toldPallets, Cond.instanceMethod yX0_toldPallets, Cond.selects RX0 yX0_toldPallets yX0_toldPallets, Cond.code yX0_toldPallets cX0_toldPallets 6 (some .int), Cond.methodLink RX1 180 yX1_isIn, Cond.methodLink RX1 183 yX0_toldByOwnEntries, Cond.instanceMethod yX0_toldByOwnEntries, Cond.selects RX0 yX0_toldByOwnEntries yX0_toldByOwnEntries, Cond.code yX0_toldByOwnEntries cX0_toldByOwnEntries 5 (some .int), Cond.methodLink RX0 59 yX0_sign, Cond.static yX0_sign, Cond.code yX0_sign cX0_sign 1 (some .int)]
def wsL_mismatch : List Cond := .codeWith yL_mismatch cL_mismatch 4 (some .int) [(0, 9, 12, 13)] :: ((wsL_mismatch_r1 ++ (wsL_mismatch_r2 ++ wsL_mismatch_r3)) ++ wsX10 ++ wsX00 ++ (vx_atS RX1 156 "java/lang/IndexOutOfBoundsException" ["java/lang/RuntimeException", "java/lang/Exception"]).filter goodWord)
def wsL_fee : List Cond := .codeWith yL_fee cL_fee 5 (some .int) [(0, 10, 13, 21)] :: ([.classLink RL 21 "java/lang/IllegalArgumentException", .methodLink RL 70 yX1_fee, .instanceMethod yX1_fee, .selects RX1 yX1_fee yX1_fee, .initialized RX1, .code yX1_fee cX1_fee 4 (some .int), .fieldLink RX1 26 "PalletGram" "fees" "[I", .methodLink RX1 61 yX1_isWithin, .static yX1_isWithin, .code yX1_isWithin cX1_isWithin 3 (some .boolean), .methodLink RX1 65 yX1_needRange, .static yX1_needRange, .code yX1_needRange cX1_needRange 1 none, .classLink RX1 159 "java/lang/IllegalArgumentException", .initialized "java/lang/IllegalArgumentException"] ++ wsX10 ++ (vx_atS RX1 163 "java/lang/IllegalArgumentException" ["java/lang/RuntimeException", "java/lang/Exception"]).filter goodWord)
def wsL_owed : List Cond := .codeWith yL_owed cL_owed 4 (some .int) [(0, 9, 12, 13)] :: ([.classLink RL 13 "java/lang/IndexOutOfBoundsException", .methodLink RL 73 yX1_owed, .instanceMethod yX1_owed, .selects RX1 yX1_owed yX1_owed, .initialized RX1, .code yX1_owed cX1_owed 2 (some .int), .fieldLink RX1 29 "PalletGram" "debts" "[I", .methodLink RX1 109 yX1_isOwer, .static yX1_isOwer, .code yX1_isOwer cX1_isOwer 1 (some .boolean), .methodLink RX1 36 yX1_needThere, .static yX1_needThere, .code yX1_needThere cX1_needThere 1 none, .classLink RX1 152 "java/lang/IndexOutOfBoundsException", .initialized "java/lang/IndexOutOfBoundsException"] ++ wsX10 ++ (vx_atS RX1 156 "java/lang/IndexOutOfBoundsException" ["java/lang/RuntimeException", "java/lang/Exception"]).filter goodWord)
def wsL_law0_r1 : List Cond := [Cond.classLink RL 8 RX1, Cond.instantiable RX1 7, Cond.initialized RX1, Cond.classLink RL 77 RX2, Cond.instantiable RX2 22, Cond.initialized RX2, Cond.arrayClass .long, Cond.methodLink RL 76 yX1_init, Cond.instanceMethod yX1_init, Cond.code yX1_init cX1_init 2 none, Cond.methodLink RX1 1 objectInit, Cond.instanceMethod objectInit, Cond.code objectInit ⟨#[0xb1]⟩ 1 none, Cond.classLink RX1 7 RX0, Cond.instantiable RX0 5, Cond.initialized RX0, Cond.fieldLink RX1 10 "PalletGram" "chains" "LPalletGram$Chains;", Cond.arrayClass .int, Cond.fieldLink RX1 16 "PalletGram" "holders" "[I", Cond.fieldLink RX1 20 "PalletGram" "goods" "[I", Cond.fieldLink RX1 23 "PalletGram" "declared" "[I", Cond.fieldLink RX1 26 "PalletGram" "fees" "[I", Cond.fieldLink RX1 29 "PalletGram" "debts" "[I", Cond.instanceMethod yX0_init]
def wsL_law0_r2 : List Cond := [Cond.code yX0_init cX0_init 1 none, Cond.methodLink RX0 3 objectInit, Cond.fieldLink RX0 9 "PalletGram$Chains" "lengths" "[I", Cond.fieldLink RX0 15 "PalletGram$Chains" "numbers" "[I", Cond.fieldLink RX0 18 "PalletGram$Chains" "proofs" "[I", Cond.fieldLink RX0 21 "PalletGram$Chains" "copies" "[I", Cond.fieldLink RX0 24 "PalletGram$Chains" "amountsMade" "[I", Cond.methodLink RL 79 yX2_init, Cond.instanceMethod yX2_init, Cond.code yX2_init cX2_init 2 none, Cond.methodLink RX2 1 objectInit, Cond.fieldLink RX2 7 "PalletGramModel" "holder" "[I", Cond.fieldLink RX2 13 "PalletGramModel" "goods" "[I", Cond.fieldLink RX2 16 "PalletGramModel" "many" "[I", Cond.arrayClass .boolean, Cond.fieldLink RX2 19 "PalletGramModel" "isHeld" "[Z", Cond.fieldLink RX2 23 "PalletGramModel" "isGone" "[Z", Cond.fieldLink RX2 26 "PalletGramModel" "went" "[I", Cond.fieldLink RX2 29 "PalletGramModel" "kind" "[I", Cond.fieldLink RX2 32 "PalletGramModel" "maker" "[I", Cond.fieldLink RX2 35 "PalletGramModel" "good" "[I", Cond.fieldLink RX2 38 "PalletGramModel" "amount" "[I", Cond.fieldLink RX2 41 "PalletGramModel" "other" "[I", Cond.fieldLink RX2 44 "PalletGramModel" "its" "[I"]
def wsL_law0_r3 : List Cond := [Cond.fieldLink RX2 47 "PalletGramModel" "was" "[I", Cond.fieldLink RX2 50 "PalletGramModel" "proof" "[I", Cond.fieldLink RX2 53 "PalletGramModel" "copies" "[I", Cond.fieldLink RX2 56 "PalletGramModel" "declared" "[I", Cond.fieldLink RX2 59 "PalletGramModel" "fee" "[I", Cond.fieldLink RX2 62 "PalletGramModel" "owed" "[I", Cond.fieldLink RX2 65 "PalletGramModel" "told" "[I", Cond.methodLink RL 80 yL_make, Cond.static yL_make, Cond.initialized RL, Cond.codeWith yL_make cL_make 4 (some .int) [(0, 9, 12, 13), (0, 9, 15, 15)], Cond.classLink RL 13 "java/lang/IndexOutOfBoundsException", Cond.classLink RL 15 "java/lang/IllegalStateException", Cond.methodLink RL 7 yX1_make, Cond.instanceMethod yX1_make, Cond.selects RX1 yX1_make yX1_make, Cond.code yX1_make cX1_make 3 (some .int), Cond.fieldLink RX1 40 "PalletGram" "pallets" "I", Cond.methodLink RX1 32 yX1_isDock, Cond.static yX1_isDock, Cond.code yX1_isDock cX1_isDock 1 (some .boolean), Cond.methodLink RX1 36 yX1_needThere, Cond.static yX1_needThere, Cond.code yX1_needThere cX1_needThere 1 none]
def wsL_law0_r4 : List Cond := [Cond.classLink RX1 152 "java/lang/IndexOutOfBoundsException", Cond.initialized "java/lang/IndexOutOfBoundsException", Cond.methodLink RX1 44 yX1_needState, Cond.static yX1_needState, Cond.code yX1_needState cX1_needState 1 none, Cond.classLink RX1 164 "java/lang/IllegalStateException", Cond.initialized "java/lang/IllegalStateException", Cond.methodLink RX1 47 yX1_stand, Cond.instanceMethod yX1_stand, Cond.selects RX1 yX1_stand yX1_stand, Cond.code yX1_stand cX1_stand 3 (some .int), Cond.methodLink RX1 51 yX1_write, Cond.instanceMethod yX1_write, Cond.selects RX1 yX1_write yX1_write, Cond.code yX1_write cX1_write 8 none, Cond.methodLink RX1 169 yX0_add, Cond.instanceMethod yX0_add, Cond.selects RX0 yX0_add yX0_add, Cond.code yX0_add cX0_add 10 none, Cond.methodLink RX0 31 yX0_row, Cond.static yX0_row, Cond.code yX0_row cX0_row 2 (some .int), Cond.methodLink RX0 35 yX0_proofMade, Cond.instanceMethod yX0_proofMade]
def wsL_law0_r5 : List Cond := [Cond.selects RX0 yX0_proofMade yX0_proofMade, Cond.code yX0_proofMade cX0_proofMade 6 (some .int), Cond.methodLink RX0 38 yX0_witnesses, Cond.static yX0_witnesses, Cond.code yX0_witnesses cX0_witnesses 4 (some .int), Cond.methodLink RL 85 yX2_make, Cond.instanceMethod yX2_make, Cond.selects RX2 yX2_make yX2_make, Cond.code yX2_make cX2_make 4 (some .int), Cond.fieldLink RX2 72 "PalletGramModel" "pallets" "I", Cond.methodLink RX2 75 yX2_isIn, Cond.static yX2_isIn, Cond.code yX2_isIn cX2_isIn 3 (some .boolean), Cond.methodLink RX2 101 yX2_holds, Cond.instanceMethod yX2_holds, Cond.selects RX2 yX2_holds yX2_holds, Cond.code yX2_holds cX2_holds 2 (some .boolean), Cond.fieldLink RX2 68 "PalletGramModel" "thrown" "I", Cond.methodLink RX2 104 yX2_makes, Cond.instanceMethod yX2_makes, Cond.selects RX2 yX2_makes yX2_makes, Cond.code yX2_makes cX2_makes 3 (some .int), Cond.methodLink RX2 107 yX2_writes, Cond.instanceMethod yX2_writes]
def wsL_law0_r6 : List Cond := [Cond.selects RX2 yX2_writes yX2_writes, Cond.code yX2_writes cX2_writes 9 none, Cond.methodLink RX2 83 yX2_proofOf, Cond.instanceMethod yX2_proofOf, Cond.selects RX2 yX2_proofOf yX2_proofOf, Cond.code yX2_proofOf cX2_proofOf 5 (some .int), Cond.methodLink RL 86 yX2_thrown, Cond.instanceMethod yX2_thrown, Cond.selects RX2 yX2_thrown yX2_thrown, Cond.code yX2_thrown cX2_thrown 1 (some .int), Cond.methodLink RL 90 yL_load, Cond.static yL_load, Cond.codeWith yL_load cL_load 6 (some .int) [(0, 12, 15, 13), (0, 12, 19, 21), (0, 12, 23, 15)], Cond.classLink RL 21 "java/lang/IllegalArgumentException", Cond.methodLink RL 17 yX1_load, Cond.instanceMethod yX1_load, Cond.selects RX1 yX1_load yX1_load, Cond.code yX1_load cX1_load 5 (some .int), Cond.methodLink RX1 55 yX1_isPallet, Cond.instanceMethod yX1_isPallet, Cond.selects RX1 yX1_isPallet yX1_isPallet, Cond.code yX1_isPallet cX1_isPallet 2 (some .boolean), Cond.methodLink RX1 58 yX1_isGood, Cond.static yX1_isGood]
def wsL_law0_r7 : List Cond := [Cond.code yX1_isGood cX1_isGood 1 (some .boolean), Cond.methodLink RX1 61 yX1_isWithin, Cond.static yX1_isWithin, Cond.code yX1_isWithin cX1_isWithin 3 (some .boolean), Cond.methodLink RX1 65 yX1_needRange, Cond.static yX1_needRange, Cond.code yX1_needRange cX1_needRange 1 none, Cond.classLink RX1 159 "java/lang/IllegalArgumentException", Cond.initialized "java/lang/IllegalArgumentException", Cond.methodLink RX1 68 yX1_isWorkable, Cond.instanceMethod yX1_isWorkable, Cond.selects RX1 yX1_isWorkable yX1_isWorkable, Cond.code yX1_isWorkable cX1_isWorkable 2 (some .boolean), Cond.methodLink RX1 95 yX1_isHeld, Cond.instanceMethod yX1_isHeld, Cond.selects RX1 yX1_isHeld yX1_isHeld, Cond.code yX1_isHeld cX1_isHeld 2 (some .boolean), Cond.methodLink RX1 173 yX0_lastKind, Cond.instanceMethod yX0_lastKind, Cond.selects RX0 yX0_lastKind yX0_lastKind, Cond.code yX0_lastKind cX0_lastKind 3 (some .int), Cond.methodLink RX0 27 yX0_number, Cond.instanceMethod yX0_number, Cond.selects RX0 yX0_number yX0_number]
def wsL_law0_r8 : List Cond := [Cond.code yX0_number cX0_number 4 (some .int), Cond.methodLink RX1 90 yX1_isGone, Cond.instanceMethod yX1_isGone, Cond.selects RX1 yX1_isGone yX1_isGone, Cond.code yX1_isGone cX1_isGone 2 (some .boolean), Cond.methodLink RX1 93 yX0_hasRoom, Cond.instanceMethod yX0_hasRoom, Cond.selects RX0 yX0_hasRoom yX0_hasRoom, Cond.code yX0_hasRoom cX0_hasRoom 2 (some .boolean), Cond.methodLink RX1 132 yX1_allAreUnbroken, Cond.instanceMethod yX1_allAreUnbroken, Cond.selects RX1 yX1_allAreUnbroken yX1_allAreUnbroken, Cond.code yX1_allAreUnbroken cX1_allAreUnbroken 4 (some .boolean), Cond.methodLink RX1 176 yX0_reach, Cond.instanceMethod yX0_reach, Cond.selects RX0 yX0_reach yX0_reach, Cond.code yX0_reach cX0_reach 7 (some .int), Cond.static yX1_isIn, Cond.code yX1_isIn cX1_isIn 2 (some .boolean), Cond.methodLink RX0 55 yX0_toldPallets, Cond.instanceMethod yX0_toldPallets, Cond.selects RX0 yX0_toldPallets yX0_toldPallets, Cond.code yX0_toldPallets cX0_toldPallets 6 (some .int), Cond.methodLink RX1 180 yX1_isIn]
def wsL_law0_r9 : List Cond := [Cond.methodLink RX1 129 yX0_firstBroken, Cond.instanceMethod yX0_firstBroken, Cond.selects RX0 yX0_firstBroken yX0_firstBroken, Cond.code yX0_firstBroken cX0_firstBroken 3 (some .int), Cond.methodLink RX0 52 yX0_isBroken, Cond.instanceMethod yX0_isBroken, Cond.selects RX0 yX0_isBroken yX0_isBroken, Cond.code yX0_isBroken cX0_isBroken 3 (some .boolean), Cond.methodLink RX0 49 yX0_proof, Cond.instanceMethod yX0_proof, Cond.selects RX0 yX0_proof yX0_proof, Cond.code yX0_proof cX0_proof 3 (some .int), Cond.methodLink RX1 71 yX1_weightOfOne, Cond.static yX1_weightOfOne, Cond.code yX1_weightOfOne cX1_weightOfOne 1 (some .int), Cond.methodLink RX1 74 yX1_hasRoom, Cond.instanceMethod yX1_hasRoom, Cond.selects RX1 yX1_hasRoom yX1_hasRoom, Cond.code yX1_hasRoom cX1_hasRoom 5 (some .boolean), Cond.methodLink RX1 87 yX1_weightOf, Cond.instanceMethod yX1_weightOf, Cond.selects RX1 yX1_weightOf yX1_weightOf, Cond.code yX1_weightOf cX1_weightOf 4 (some .int), Cond.methodLink RL 93 yX2_load]
def wsL_law0_r10 : List Cond := [Cond.instanceMethod yX2_load, Cond.selects RX2 yX2_load yX2_load, Cond.code yX2_load cX2_load 5 (some .int), Cond.methodLink RX2 79 yX2_isPallet, Cond.instanceMethod yX2_isPallet, Cond.selects RX2 yX2_isPallet yX2_isPallet, Cond.code yX2_isPallet cX2_isPallet 2 (some .boolean), Cond.methodLink RX2 117 yX2_isGood, Cond.static yX2_isGood, Cond.code yX2_isGood cX2_isGood 1 (some .boolean), Cond.methodLink RX2 120 yX2_canLoad, Cond.instanceMethod yX2_canLoad, Cond.selects RX2 yX2_canLoad yX2_canLoad, Cond.code yX2_canLoad cX2_canLoad 5 (some .boolean), Cond.methodLink RX2 111 yX2_canWork, Cond.instanceMethod yX2_canWork, Cond.selects RX2 yX2_canWork yX2_canWork, Cond.code yX2_canWork cX2_canWork 2 (some .boolean), Cond.methodLink RX2 95 yX2_sound, Cond.instanceMethod yX2_sound, Cond.selects RX2 yX2_sound yX2_sound, Cond.code yX2_sound cX2_sound 6 (some .boolean), Cond.methodLink RX2 91 yX2_firstBroken, Cond.instanceMethod yX2_firstBroken]
def wsL_law0_r11 : List Cond := [Cond.selects RX2 yX2_firstBroken yX2_firstBroken, Cond.code yX2_firstBroken cX2_firstBroken 3 (some .int), Cond.methodLink RX2 87 yX2_isBroken, Cond.instanceMethod yX2_isBroken, Cond.selects RX2 yX2_isBroken yX2_isBroken, Cond.code yX2_isBroken cX2_isBroken 3 (some .boolean), Cond.methodLink RX2 114 yX2_hasRoom, Cond.instanceMethod yX2_hasRoom, Cond.selects RX2 yX2_hasRoom yX2_hasRoom, Cond.code yX2_hasRoom cX2_hasRoom 5 (some .boolean), Cond.methodLink RX2 98 yX2_weight, Cond.instanceMethod yX2_weight, Cond.selects RX2 yX2_weight yX2_weight, Cond.code yX2_weight cX2_weight 4 (some .int), Cond.methodLink RL 94 yL_part, Cond.static yL_part, Cond.codeWith yL_part cL_part 6 (some .int) [(0, 12, 15, 13), (0, 12, 19, 21), (0, 12, 23, 15)], Cond.methodLink RL 23 yX1_part, Cond.instanceMethod yX1_part, Cond.selects RX1 yX1_part yX1_part, Cond.code yX1_part cX1_part 6 (some .int), Cond.methodLink RX1 78 yX0_length, Cond.instanceMethod yX0_length, Cond.selects RX0 yX0_length yX0_length]
def wsL_law0_r12 : List Cond := [Cond.code yX0_length cX0_length 2 (some .int), Cond.methodLink RL 96 yX2_part, Cond.instanceMethod yX2_part, Cond.selects RX2 yX2_part yX2_part, Cond.code yX2_part cX2_part 7 (some .int), Cond.methodLink RL 97 yL_join, Cond.static yL_join, Cond.codeWith yL_join cL_join 5 (some .int) [(0, 10, 13, 13), (0, 10, 17, 21), (0, 10, 21, 15)], Cond.methodLink RL 26 yX1_join, Cond.instanceMethod yX1_join, Cond.selects RX1 yX1_join yX1_join, Cond.code yX1_join cX1_join 6 (some .int), Cond.methodLink RX1 81 yX1_canComeTogether, Cond.instanceMethod yX1_canComeTogether, Cond.selects RX1 yX1_canComeTogether yX1_canComeTogether, Cond.code yX1_canComeTogether cX1_canComeTogether 4 (some .boolean), Cond.methodLink RL 100 yX2_join, Cond.instanceMethod yX2_join, Cond.selects RX2 yX2_join yX2_join, Cond.code yX2_join cX2_join 7 (some .int), Cond.fieldLink RX2 126 "PalletGramModel" "goers" "I", Cond.methodLink RX2 123 yX2_canJoin, Cond.instanceMethod yX2_canJoin, Cond.selects RX2 yX2_canJoin yX2_canJoin]
def wsL_law0_r13 : List Cond := [Cond.code yX2_canJoin cX2_canJoin 5 (some .boolean), Cond.methodLink RL 101 yL_move, Cond.static yL_move, Cond.codeWith yL_move cL_move 5 (some .int) [(0, 10, 13, 13), (0, 10, 17, 15)], Cond.methodLink RL 30 yX1_move, Cond.instanceMethod yX1_move, Cond.selects RX1 yX1_move yX1_move, Cond.code yX1_move cX1_move 4 (some .int), Cond.methodLink RX1 84 yX1_isHolder, Cond.static yX1_isHolder, Cond.code yX1_isHolder cX1_isHolder 1 (some .boolean), Cond.methodLink RL 103 yX2_move, Cond.instanceMethod yX2_move, Cond.selects RX2 yX2_move yX2_move, Cond.code yX2_move cX2_move 5 (some .int), Cond.methodLink RL 104 yL_hold, Cond.static yL_hold, Cond.codeWith yL_hold cL_hold 4 (some .int) [(0, 16, 19, 13), (0, 16, 22, 15)], Cond.methodLink RL 33 yX1_hold, Cond.instanceMethod yX1_hold, Cond.selects RX1 yX1_hold yX1_hold, Cond.code yX1_hold cX1_hold 3 (some .boolean), Cond.methodLink RL 106 yX2_hold, Cond.instanceMethod yX2_hold]
def wsL_law0_r14 : List Cond := [Cond.selects RX2 yX2_hold yX2_hold, Cond.code yX2_hold cX2_hold 3 (some .boolean), Cond.methodLink RL 107 yL_spoil, Cond.static yL_spoil, Cond.codeWith yL_spoil cL_spoil 6 (some .int) [(0, 12, 15, 13), (0, 12, 19, 21)], Cond.methodLink RL 37 yX1_spoil, Cond.instanceMethod yX1_spoil, Cond.selects RX1 yX1_spoil yX1_spoil, Cond.code yX1_spoil cX1_spoil 5 (some .int), Cond.methodLink RX1 98 yX0_has, Cond.instanceMethod yX0_has, Cond.selects RX0 yX0_has yX0_has, Cond.code yX0_has cX0_has 3 (some .boolean), Cond.methodLink RX1 101 yX0_number, Cond.methodLink RX1 105 yX0_putAmount, Cond.instanceMethod yX0_putAmount, Cond.selects RX0 yX0_putAmount yX0_putAmount, Cond.code yX0_putAmount cX0_putAmount 4 none, Cond.methodLink RL 109 yX2_spoil, Cond.instanceMethod yX2_spoil, Cond.selects RX2 yX2_spoil yX2_spoil, Cond.code yX2_spoil cX2_spoil 7 (some .int), Cond.methodLink RX2 129 yX2_isEntry, Cond.instanceMethod yX2_isEntry]
def wsL_law0_r15 : List Cond := [Cond.selects RX2 yX2_isEntry yX2_isEntry, Cond.code yX2_isEntry cX2_isEntry 3 (some .boolean), Cond.methodLink RL 110 yL_lose, Cond.static yL_lose, Cond.codeWith yL_lose cL_lose 4 (some .int) [(0, 9, 12, 13)], Cond.methodLink RL 40 yX1_lose, Cond.instanceMethod yX1_lose, Cond.selects RX1 yX1_lose yX1_lose, Cond.code yX1_lose cX1_lose 2 (some .int), Cond.methodLink RX1 109 yX1_isOwer, Cond.static yX1_isOwer, Cond.code yX1_isOwer cX1_isOwer 1 (some .boolean), Cond.methodLink RX1 112 yX0_dropCopies, Cond.instanceMethod yX0_dropCopies, Cond.selects RX0 yX0_dropCopies yX0_dropCopies, Cond.code yX0_dropCopies cX0_dropCopies 4 (some .int), Cond.methodLink RL 112 yX2_lose, Cond.instanceMethod yX2_lose, Cond.selects RX2 yX2_lose yX2_lose, Cond.code yX2_lose cX2_lose 4 (some .int), Cond.methodLink RL 113 yL_repair, Cond.static yL_repair, Cond.codeWith yL_repair cL_repair 5 (some .int) [(0, 10, 13, 13), (0, 10, 17, 15)], Cond.methodLink RL 43 yX1_repair]
def wsL_law0_r16 : List Cond := [Cond.instanceMethod yX1_repair, Cond.selects RX1 yX1_repair yX1_repair, Cond.code yX1_repair cX1_repair 4 (some .int), Cond.methodLink RX1 115 yX0_copies, Cond.instanceMethod yX0_copies, Cond.selects RX0 yX0_copies yX0_copies, Cond.code yX0_copies cX0_copies 3 (some .int), Cond.methodLink RX1 119 yX1_lowestOf, Cond.static yX1_lowestOf, Cond.code yX1_lowestOf cX1_lowestOf 2 (some .int), Cond.methodLink RX1 122 yX0_isBroken, Cond.methodLink RX1 125 yX0_putAmountBack, Cond.instanceMethod yX0_putAmountBack, Cond.selects RX0 yX0_putAmountBack yX0_putAmountBack, Cond.code yX0_putAmountBack cX0_putAmountBack 3 none, Cond.methodLink RX0 41 yX0_putAmount, Cond.methodLink RL 115 yX2_repair, Cond.instanceMethod yX2_repair, Cond.selects RX2 yX2_repair yX2_repair, Cond.code yX2_repair cX2_repair 6 (some .int), Cond.methodLink RL 116 yL_broken, Cond.static yL_broken, Cond.codeWith yL_broken cL_broken 4 (some .int) [(0, 9, 12, 13)], Cond.methodLink RL 46 yX1_broken]
def wsL_law0_r17 : List Cond := [Cond.instanceMethod yX1_broken, Cond.selects RX1 yX1_broken yX1_broken, Cond.code yX1_broken cX1_broken 2 (some .int), Cond.methodLink RL 118 yX2_broken, Cond.instanceMethod yX2_broken, Cond.selects RX2 yX2_broken yX2_broken, Cond.code yX2_broken cX2_broken 2 (some .int), Cond.methodLink RL 119 yL_isSound, Cond.static yL_isSound, Cond.codeWith yL_isSound cL_isSound 4 (some .int) [(0, 16, 19, 13)], Cond.methodLink RL 49 yX1_isSound, Cond.instanceMethod yX1_isSound, Cond.selects RX1 yX1_isSound yX1_isSound, Cond.code yX1_isSound cX1_isSound 2 (some .boolean), Cond.methodLink RL 121 yX2_isSound, Cond.instanceMethod yX2_isSound, Cond.selects RX2 yX2_isSound yX2_isSound, Cond.code yX2_isSound cX2_isSound 2 (some .boolean), Cond.methodLink RL 122 yL_pallet, Cond.static yL_pallet, Cond.codeWith yL_pallet cL_pallet 5 (some .int) [(0, 10, 13, 13), (0, 10, 17, 21)], Cond.methodLink RL 52 yX1_pallet, Cond.instanceMethod yX1_pallet, Cond.selects RX1 yX1_pallet yX1_pallet]
def wsL_law0_r18 : List Cond := [Cond.code yX1_pallet cX1_pallet 3 (some .int), Cond.methodLink RL 124 yX2_pallet, Cond.instanceMethod yX2_pallet, Cond.selects RX2 yX2_pallet yX2_pallet, Cond.code yX2_pallet cX2_pallet 4 (some .int), Cond.methodLink RL 125 yL_entry, Cond.static yL_entry, Cond.codeWith yL_entry cL_entry 6 (some .int) [(0, 12, 15, 13), (0, 12, 19, 21)], Cond.methodLink RL 55 yX1_entry, Cond.instanceMethod yX1_entry, Cond.selects RX1 yX1_entry yX1_entry, Cond.code yX1_entry cX1_entry 4 (some .int), Cond.methodLink RX1 135 yX0_proof, Cond.methodLink RL 127 yX2_entry, Cond.instanceMethod yX2_entry, Cond.selects RX2 yX2_entry yX2_entry, Cond.code yX2_entry cX2_entry 6 (some .int), Cond.methodLink RL 128 yL_contents, Cond.static yL_contents, Cond.codeWith yL_contents cL_contents 5 (some .int) [(0, 10, 13, 13)], Cond.methodLink RL 58 yX1_contents, Cond.instanceMethod yX1_contents, Cond.selects RX1 yX1_contents yX1_contents, Cond.code yX1_contents cX1_contents 3 (some .int)]
def wsL_law0_r19 : List Cond := [Cond.methodLink RL 130 yX2_contents, Cond.instanceMethod yX2_contents, Cond.selects RX2 yX2_contents yX2_contents, Cond.code yX2_contents cX2_contents 3 (some .int), Cond.methodLink RL 131 yL_contentsAnew, Cond.static yL_contentsAnew, Cond.codeWith yL_contentsAnew cL_contentsAnew 5 (some .int) [(0, 10, 13, 13)], Cond.methodLink RL 61 yX1_contentsAnew, Cond.instanceMethod yX1_contentsAnew, Cond.selects RX1 yX1_contentsAnew yX1_contentsAnew, Cond.code yX1_contentsAnew cX1_contentsAnew 3 (some .int), Cond.methodLink RX1 138 yX1_toldByPapers, Cond.instanceMethod yX1_toldByPapers, Cond.selects RX1 yX1_toldByPapers yX1_toldByPapers, Cond.code yX1_toldByPapers cX1_toldByPapers 6 (some .int), Cond.methodLink RX1 183 yX0_toldByOwnEntries, Cond.instanceMethod yX0_toldByOwnEntries, Cond.selects RX0 yX0_toldByOwnEntries yX0_toldByOwnEntries, Cond.code yX0_toldByOwnEntries cX0_toldByOwnEntries 5 (some .int), Cond.methodLink RX0 59 yX0_sign, Cond.static yX0_sign, Cond.code yX0_sign cX0_sign 1 (some .int), Cond.methodLink RL 133 yX2_contentsAnew, Cond.instanceMethod yX2_contentsAnew]
def wsL_law0_r20 : List Cond := [Cond.selects RX2 yX2_contentsAnew yX2_contentsAnew, Cond.code yX2_contentsAnew cX2_contentsAnew 3 (some .int), Cond.methodLink RX2 139 yX2_anew, Cond.instanceMethod yX2_anew, Cond.selects RX2 yX2_anew yX2_anew, Cond.code yX2_anew cX2_anew 3 (some .int), Cond.methodLink RX2 135 yX2_tells, Cond.instanceMethod yX2_tells, Cond.selects RX2 yX2_tells yX2_tells, Cond.code yX2_tells cX2_tells 3 none, Cond.methodLink RX2 132 yX2_papers, Cond.instanceMethod yX2_papers, Cond.selects RX2 yX2_papers yX2_papers, Cond.code yX2_papers cX2_papers 6 (some .int), Cond.methodLink RL 134 yL_declare, Cond.static yL_declare, Cond.codeWith yL_declare cL_declare 6 (some .int) [(0, 12, 15, 13), (0, 12, 19, 21)], Cond.methodLink RL 64 yX1_declare, Cond.instanceMethod yX1_declare, Cond.selects RX1 yX1_declare yX1_declare, Cond.code yX1_declare cX1_declare 6 (some .int), Cond.methodLink RX1 141 yX1_isTruck, Cond.static yX1_isTruck, Cond.code yX1_isTruck cX1_isTruck 1 (some .boolean)]
def wsL_law0_r21 : List Cond := [Cond.methodLink RL 136 yX2_declare, Cond.instanceMethod yX2_declare, Cond.selects RX2 yX2_declare yX2_declare, Cond.code yX2_declare cX2_declare 7 (some .int), Cond.methodLink RX2 142 yX2_isTruck, Cond.static yX2_isTruck, Cond.code yX2_isTruck cX2_isTruck 1 (some .boolean), Cond.methodLink RL 137 yL_mismatch, Cond.static yL_mismatch, Cond.codeWith yL_mismatch cL_mismatch 4 (some .int) [(0, 9, 12, 13)], Cond.methodLink RL 67 yX1_mismatch, Cond.instanceMethod yX1_mismatch, Cond.selects RX1 yX1_mismatch yX1_mismatch, Cond.code yX1_mismatch cX1_mismatch 4 (some .int), Cond.methodLink RX1 147 Lib.Math.abs.name, Cond.static Lib.Math.abs.name, Cond.initialized "java/lang/Math", Cond.code Lib.Math.abs.name Lib.Math.abs.code 1 (some .int), Cond.methodLink RX1 144 yX1_toldOfTruck, Cond.instanceMethod yX1_toldOfTruck, Cond.selects RX1 yX1_toldOfTruck yX1_toldOfTruck, Cond.code yX1_toldOfTruck cX1_toldOfTruck 5 (some .int), Cond.methodLink RL 139 yX2_mismatch, Cond.instanceMethod yX2_mismatch]
def wsL_law0_r22 : List Cond := [Cond.selects RX2 yX2_mismatch yX2_mismatch, Cond.code yX2_mismatch cX2_mismatch 2 (some .int), Cond.methodLink RX2 145 yX2_mismatchOf, Cond.instanceMethod yX2_mismatchOf, Cond.selects RX2 yX2_mismatchOf yX2_mismatchOf, Cond.code yX2_mismatchOf cX2_mismatchOf 6 (some .int), Cond.methodLink RL 140 yL_fee, Cond.static yL_fee, Cond.codeWith yL_fee cL_fee 5 (some .int) [(0, 10, 13, 21)], Cond.methodLink RL 70 yX1_fee, Cond.instanceMethod yX1_fee, Cond.selects RX1 yX1_fee yX1_fee, Cond.code yX1_fee cX1_fee 4 (some .int), Cond.methodLink RL 142 yX2_fee, Cond.instanceMethod yX2_fee, Cond.selects RX2 yX2_fee yX2_fee, Cond.code yX2_fee cX2_fee 4 (some .int), Cond.methodLink RL 143 yL_owed, Cond.static yL_owed, Cond.codeWith yL_owed cL_owed 4 (some .int) [(0, 9, 12, 13)], Cond.methodLink RL 73 yX1_owed, Cond.instanceMethod yX1_owed, Cond.selects RX1 yX1_owed yX1_owed, Cond.code yX1_owed cX1_owed 2 (some .int)]
def wsL_law0_r23 : List Cond := [Cond.methodLink RL 145 yX2_owed, Cond.instanceMethod yX2_owed, Cond.selects RX2 yX2_owed yX2_owed, Cond.code yX2_owed cX2_owed 2 (some .int)]
def wsL_law0 : List Cond := (wsL_law0_r1 ++ (wsL_law0_r2 ++ (wsL_law0_r3 ++ (wsL_law0_r4 ++ (wsL_law0_r5 ++ (wsL_law0_r6 ++ (wsL_law0_r7 ++ (wsL_law0_r8 ++ (wsL_law0_r9 ++ (wsL_law0_r10 ++ (wsL_law0_r11 ++ (wsL_law0_r12 ++ (wsL_law0_r13 ++ (wsL_law0_r14 ++ (wsL_law0_r15 ++ (wsL_law0_r16 ++ (wsL_law0_r17 ++ (wsL_law0_r18 ++ (wsL_law0_r19 ++ (wsL_law0_r20 ++ (wsL_law0_r21 ++ (wsL_law0_r22 ++ wsL_law0_r23)))))))))))))))))))))) ++ wsX10 ++ wsX20 ++ wsX00 ++ ([] : List Cond)
def wsL_law : List Cond := wsL_law0 ++ (vx_atS RX1 156 "java/lang/IndexOutOfBoundsException" ["java/lang/RuntimeException", "java/lang/Exception"]).filter goodWord ++ (vx_atS RX1 168 "java/lang/IllegalStateException" ["java/lang/RuntimeException", "java/lang/Exception"]).filter goodWord ++ (vx_atS RX1 163 "java/lang/IllegalArgumentException" ["java/lang/RuntimeException", "java/lang/Exception"]).filter goodWord
set_option maxRecDepth 20000 in
theorem in_wsL_law0_r1 : ∀ w ∈ wsL_law0_r1, w ∈ lw_tbl := fun w h => (goodIn_p wsL_law0_r1 [48, 51] (by decide +kernel) (by decide +kernel) w h).1
set_option maxRecDepth 20000 in
theorem in_wsL_law0_r2 : ∀ w ∈ wsL_law0_r2, w ∈ lw_tbl := fun w h => (goodIn_p wsL_law0_r2 [56, 506] (by decide +kernel) (by decide +kernel) w h).1
set_option maxRecDepth 20000 in
theorem in_wsL_law0_r3 : ∀ w ∈ wsL_law0_r3, w ∈ lw_tbl := fun w h => (goodIn_p wsL_law0_r3 [105, 108, 111] (by decide +kernel) (by decide +kernel) w h).1
set_option maxRecDepth 20000 in
theorem in_wsL_law0_r4 : ∀ w ∈ wsL_law0_r4, w ∈ lw_tbl := fun w h => (goodIn_p wsL_law0_r4 [182, 202, 206, 210, 213] (by decide +kernel) (by decide +kernel) w h).1
set_option maxRecDepth 20000 in
theorem in_wsL_law0_r5 : ∀ w ∈ wsL_law0_r5, w ∈ lw_tbl := fun w h => (goodIn_p wsL_law0_r5 [217, 220, 583, 586, 590, 594] (by decide +kernel) (by decide +kernel) w h).1
set_option maxRecDepth 20000 in
theorem in_wsL_law0_r6 : ∀ w ∈ wsL_law0_r6, w ∈ lw_tbl := fun w h => (goodIn_p wsL_law0_r6 [598, 602, 579, 228, 232] (by decide +kernel) (by decide +kernel) w h).1
set_option maxRecDepth 20000 in
theorem in_wsL_law0_r7 : ∀ w ∈ wsL_law0_r7, w ∈ lw_tbl := fun w h => (goodIn_p wsL_law0_r7 [235, 238, 241, 261, 265, 269] (by decide +kernel) (by decide +kernel) w h).1
set_option maxRecDepth 20000 in
theorem in_wsL_law0_r8 : ∀ w ∈ wsL_law0_r8, w ∈ lw_tbl := fun w h => (goodIn_p wsL_law0_r8 [273, 277, 281, 285, 289, 292, 296] (by decide +kernel) (by decide +kernel) w h).1
set_option maxRecDepth 20000 in
theorem in_wsL_law0_r9 : ∀ w ∈ wsL_law0_r9, w ∈ lw_tbl := fun w h => (goodIn_p wsL_law0_r9 [301, 305, 309, 312, 316, 320] (by decide +kernel) (by decide +kernel) w h).1
set_option maxRecDepth 20000 in
theorem in_wsL_law0_r10 : ∀ w ∈ wsL_law0_r10, w ∈ lw_tbl := fun w h => (goodIn_p wsL_law0_r10 [606, 610, 613, 617, 621, 625] (by decide +kernel) (by decide +kernel) w h).1
set_option maxRecDepth 20000 in
theorem in_wsL_law0_r11 : ∀ w ∈ wsL_law0_r11, w ∈ lw_tbl := fun w h => (goodIn_p wsL_law0_r11 [629, 633, 637, 641, 327] (by decide +kernel) (by decide +kernel) w h).1
set_option maxRecDepth 20000 in
theorem in_wsL_law0_r12 : ∀ w ∈ wsL_law0_r12, w ∈ lw_tbl := fun w h => (goodIn_p wsL_law0_r12 [331, 645, 338, 342, 649] (by decide +kernel) (by decide +kernel) w h).1
set_option maxRecDepth 20000 in
theorem in_wsL_law0_r13 : ∀ w ∈ wsL_law0_r13, w ∈ lw_tbl := fun w h => (goodIn_p wsL_law0_r13 [653, 349, 352, 657, 359] (by decide +kernel) (by decide +kernel) w h).1
set_option maxRecDepth 20000 in
theorem in_wsL_law0_r14 : ∀ w ∈ wsL_law0_r14, w ∈ lw_tbl := fun w h => (goodIn_p wsL_law0_r14 [661, 366, 370, 375, 665] (by decide +kernel) (by decide +kernel) w h).1
set_option maxRecDepth 20000 in
theorem in_wsL_law0_r15 : ∀ w ∈ wsL_law0_r15, w ∈ lw_tbl := fun w h => (goodIn_p wsL_law0_r15 [669, 382, 385, 389, 673] (by decide +kernel) (by decide +kernel) w h).1
set_option maxRecDepth 20000 in
theorem in_wsL_law0_r16 : ∀ w ∈ wsL_law0_r16, w ∈ lw_tbl := fun w h => (goodIn_p wsL_law0_r16 [396, 400, 403, 408, 677] (by decide +kernel) (by decide +kernel) w h).1
set_option maxRecDepth 20000 in
theorem in_wsL_law0_r17 : ∀ w ∈ wsL_law0_r17, w ∈ lw_tbl := fun w h => (goodIn_p wsL_law0_r17 [416, 681, 423, 685] (by decide +kernel) (by decide +kernel) w h).1
set_option maxRecDepth 20000 in
theorem in_wsL_law0_r18 : ∀ w ∈ wsL_law0_r18, w ∈ lw_tbl := fun w h => (goodIn_p wsL_law0_r18 [430, 689, 437, 693, 445] (by decide +kernel) (by decide +kernel) w h).1
set_option maxRecDepth 20000 in
theorem in_wsL_law0_r19 : ∀ w ∈ wsL_law0_r19, w ∈ lw_tbl := fun w h => (goodIn_p wsL_law0_r19 [697, 452, 456, 460, 463] (by decide +kernel) (by decide +kernel) w h).1
set_option maxRecDepth 20000 in
theorem in_wsL_law0_r20 : ∀ w ∈ wsL_law0_r20, w ∈ lw_tbl := fun w h => (goodIn_p wsL_law0_r20 [701, 705, 709, 713, 470, 473] (by decide +kernel) (by decide +kernel) w h).1
set_option maxRecDepth 20000 in
theorem in_wsL_law0_r21 : ∀ w ∈ wsL_law0_r21, w ∈ lw_tbl := fun w h => (goodIn_p wsL_law0_r21 [717, 720, 480, 487, 484] (by decide +kernel) (by decide +kernel) w h).1
set_option maxRecDepth 20000 in
theorem in_wsL_law0_r22 : ∀ w ∈ wsL_law0_r22, w ∈ lw_tbl := fun w h => (goodIn_p wsL_law0_r22 [724, 728, 494, 732, 501] (by decide +kernel) (by decide +kernel) w h).1
set_option maxRecDepth 20000 in
theorem in_wsL_law0_r23 : ∀ w ∈ wsL_law0_r23, w ∈ lw_tbl := fun w h => (goodIn_p wsL_law0_r23 [736] (by decide +kernel) (by decide +kernel) w h).1
set_option maxRecDepth 20000 in
theorem in_t_wsX10 : ∀ w ∈ wsX10, w ∈ lw_tbl := by decide +kernel
set_option maxRecDepth 20000 in
theorem in_t_wsX20 : ∀ w ∈ wsX20, w ∈ lw_tbl := by decide +kernel
set_option maxRecDepth 20000 in
theorem in_t_wsX00 : ∀ w ∈ wsX00, w ∈ lw_tbl := by decide +kernel
set_option maxRecDepth 20000 in
theorem wsL_law_in0 : ∀ w ∈ wsL_law0, w ∈ lw_tbl := List.forall_mem_append.mpr ⟨List.forall_mem_append.mpr ⟨List.forall_mem_append.mpr ⟨List.forall_mem_append.mpr ⟨List.forall_mem_append.mpr ⟨in_wsL_law0_r1, List.forall_mem_append.mpr ⟨in_wsL_law0_r2, List.forall_mem_append.mpr ⟨in_wsL_law0_r3, List.forall_mem_append.mpr ⟨in_wsL_law0_r4, List.forall_mem_append.mpr ⟨in_wsL_law0_r5, List.forall_mem_append.mpr ⟨in_wsL_law0_r6, List.forall_mem_append.mpr ⟨in_wsL_law0_r7, List.forall_mem_append.mpr ⟨in_wsL_law0_r8, List.forall_mem_append.mpr ⟨in_wsL_law0_r9, List.forall_mem_append.mpr ⟨in_wsL_law0_r10, List.forall_mem_append.mpr ⟨in_wsL_law0_r11, List.forall_mem_append.mpr ⟨in_wsL_law0_r12, List.forall_mem_append.mpr ⟨in_wsL_law0_r13, List.forall_mem_append.mpr ⟨in_wsL_law0_r14, List.forall_mem_append.mpr ⟨in_wsL_law0_r15, List.forall_mem_append.mpr ⟨in_wsL_law0_r16, List.forall_mem_append.mpr ⟨in_wsL_law0_r17, List.forall_mem_append.mpr ⟨in_wsL_law0_r18, List.forall_mem_append.mpr ⟨in_wsL_law0_r19, List.forall_mem_append.mpr ⟨in_wsL_law0_r20, List.forall_mem_append.mpr ⟨in_wsL_law0_r21, List.forall_mem_append.mpr ⟨in_wsL_law0_r22, in_wsL_law0_r23⟩⟩⟩⟩⟩⟩⟩⟩⟩⟩⟩⟩⟩⟩⟩⟩⟩⟩⟩⟩⟩⟩, in_t_wsX10⟩, in_t_wsX20⟩, in_t_wsX00⟩, fun _ h => absurd h List.not_mem_nil⟩
theorem wsL_law_x0 : ∀ w ∈ (vx_atS RX1 156 "java/lang/IndexOutOfBoundsException" ["java/lang/RuntimeException", "java/lang/Exception"]).filter goodWord, w ∈ lw_tbl := by decide +kernel
theorem wsL_law_x1 : ∀ w ∈ (vx_atS RX1 168 "java/lang/IllegalStateException" ["java/lang/RuntimeException", "java/lang/Exception"]).filter goodWord, w ∈ lw_tbl := by decide +kernel
theorem wsL_law_x2 : ∀ w ∈ (vx_atS RX1 163 "java/lang/IllegalArgumentException" ["java/lang/RuntimeException", "java/lang/Exception"]).filter goodWord, w ∈ lw_tbl := by decide +kernel
theorem wsL_law_in : ∀ w ∈ wsL_law, w ∈ lw_tbl := fun w h => (List.mem_append.mp h).elim (fun h => (List.mem_append.mp h).elim (fun h => (List.mem_append.mp h).elim (fun h => wsL_law_in0 w h) (fun h => wsL_law_x0 w h)) (fun h => wsL_law_x1 w h)) (fun h => wsL_law_x2 w h)
theorem inlX0 : ∀ w ∈ wsX00, w ∈ wsL_law := fun _ h => List.mem_append_left _ (List.mem_append_left _ (List.mem_append_left _ (List.mem_append_left _ (List.mem_append_right _ h))))
theorem inX0 : ∀ w ∈ wsX00, w ∈ lw_tbl := fun w h => wsL_law_in w (inlX0 w h)
theorem inlX1 : ∀ w ∈ wsX10, w ∈ wsL_law := fun _ h => List.mem_append_left _ (List.mem_append_left _ (List.mem_append_left _ (List.mem_append_left _ (List.mem_append_left _ (List.mem_append_left _ (List.mem_append_right _ h))))))
theorem inX1 : ∀ w ∈ wsX10, w ∈ lw_tbl := fun w h => wsL_law_in w (inlX1 w h)
theorem inlX2 : ∀ w ∈ wsX20, w ∈ wsL_law := fun _ h => List.mem_append_left _ (List.mem_append_left _ (List.mem_append_left _ (List.mem_append_left _ (List.mem_append_left _ (List.mem_append_right _ h)))))
theorem inX2 : ∀ w ∈ wsX20, w ∈ lw_tbl := fun w h => wsL_law_in w (inlX2 w h)
theorem inJ9 : ∀ w ∈ wsJ90, w ∈ lw_tbl := by decide +kernel
theorem inJ0 : ∀ w ∈ wsJ00, w ∈ lw_tbl := by decide +kernel
theorem dX0_init_0 : decode cX0_init 0 = .ok (.aload_n 0, 1) := by decide +kernel
theorem dX0_init_1 : decode cX0_init 1 = .ok (.invokespecial 3, 3) := by decide +kernel
theorem dX0_init_4 : decode cX0_init 4 = .ok (.aload_n 0, 1) := by decide +kernel
theorem dX0_init_5 : decode cX0_init 5 = .ok (.bipush 14, 2) := by decide +kernel
theorem dX0_init_7 : decode cX0_init 7 = .ok (.newarray .int, 2) := by decide +kernel
theorem dX0_init_9 : decode cX0_init 9 = .ok (.putfield 9, 3) := by decide +kernel
theorem dX0_init_12 : decode cX0_init 12 = .ok (.aload_n 0, 1) := by decide +kernel
theorem dX0_init_13 : decode cX0_init 13 = .ok (.sipush 2520, 3) := by decide +kernel
theorem dX0_init_16 : decode cX0_init 16 = .ok (.newarray .int, 2) := by decide +kernel
theorem dX0_init_18 : decode cX0_init 18 = .ok (.putfield 15, 3) := by decide +kernel
theorem dX0_init_21 : decode cX0_init 21 = .ok (.aload_n 0, 1) := by decide +kernel
theorem dX0_init_22 : decode cX0_init 22 = .ok (.sipush 420, 3) := by decide +kernel
theorem dX0_init_25 : decode cX0_init 25 = .ok (.newarray .int, 2) := by decide +kernel
theorem dX0_init_27 : decode cX0_init 27 = .ok (.putfield 18, 3) := by decide +kernel
theorem dX0_init_30 : decode cX0_init 30 = .ok (.aload_n 0, 1) := by decide +kernel
theorem dX0_init_31 : decode cX0_init 31 = .ok (.sipush 420, 3) := by decide +kernel
theorem dX0_init_34 : decode cX0_init 34 = .ok (.newarray .int, 2) := by decide +kernel
theorem dX0_init_36 : decode cX0_init 36 = .ok (.putfield 21, 3) := by decide +kernel
theorem dX0_init_39 : decode cX0_init 39 = .ok (.aload_n 0, 1) := by decide +kernel
theorem dX0_init_40 : decode cX0_init 40 = .ok (.sipush 420, 3) := by decide +kernel
theorem dX0_init_43 : decode cX0_init 43 = .ok (.newarray .int, 2) := by decide +kernel
theorem dX0_init_45 : decode cX0_init 45 = .ok (.putfield 24, 3) := by decide +kernel
theorem dX0_init_48 : decode cX0_init 48 = .ok (.return_, 1) := by decide +kernel
theorem dX0_length_0 : decode cX0_length 0 = .ok (.aload_n 0, 1) := by decide +kernel
theorem dX0_length_1 : decode cX0_length 1 = .ok (.getfield 9, 3) := by decide +kernel
theorem dX0_length_4 : decode cX0_length 4 = .ok (.iload_n 1, 1) := by decide +kernel
theorem dX0_length_5 : decode cX0_length 5 = .ok (.iaload, 1) := by decide +kernel
theorem dX0_length_6 : decode cX0_length 6 = .ok (.ireturn, 1) := by decide +kernel
theorem dX0_has_0 : decode cX0_has 0 = .ok (.iload_n 2, 1) := by decide +kernel
theorem dX0_has_1 : decode cX0_has 1 = .ok (.ifCond .lt 17, 3) := by decide +kernel
theorem dX0_has_4 : decode cX0_has 4 = .ok (.iload_n 2, 1) := by decide +kernel
theorem dX0_has_5 : decode cX0_has 5 = .ok (.aload_n 0, 1) := by decide +kernel
theorem dX0_has_6 : decode cX0_has 6 = .ok (.getfield 9, 3) := by decide +kernel
theorem dX0_has_9 : decode cX0_has 9 = .ok (.iload_n 1, 1) := by decide +kernel
theorem dX0_has_10 : decode cX0_has 10 = .ok (.iaload, 1) := by decide +kernel
theorem dX0_has_11 : decode cX0_has 11 = .ok (.if_icmp .ge 7, 3) := by decide +kernel
theorem dX0_has_14 : decode cX0_has 14 = .ok (.iconst 1, 1) := by decide +kernel
theorem dX0_has_15 : decode cX0_has 15 = .ok (.goto 4, 3) := by decide +kernel
theorem dX0_has_18 : decode cX0_has 18 = .ok (.iconst 0, 1) := by decide +kernel
theorem dX0_has_19 : decode cX0_has 19 = .ok (.ireturn, 1) := by decide +kernel
theorem dX0_hasRoom_0 : decode cX0_hasRoom 0 = .ok (.aload_n 0, 1) := by decide +kernel
theorem dX0_hasRoom_1 : decode cX0_hasRoom 1 = .ok (.getfield 9, 3) := by decide +kernel
theorem dX0_hasRoom_4 : decode cX0_hasRoom 4 = .ok (.iload_n 1, 1) := by decide +kernel
theorem dX0_hasRoom_5 : decode cX0_hasRoom 5 = .ok (.iaload, 1) := by decide +kernel
theorem dX0_hasRoom_6 : decode cX0_hasRoom 6 = .ok (.bipush 30, 2) := by decide +kernel
theorem dX0_hasRoom_8 : decode cX0_hasRoom 8 = .ok (.if_icmp .ge 7, 3) := by decide +kernel
theorem dX0_hasRoom_11 : decode cX0_hasRoom 11 = .ok (.iconst 1, 1) := by decide +kernel
theorem dX0_hasRoom_12 : decode cX0_hasRoom 12 = .ok (.goto 4, 3) := by decide +kernel
theorem dX0_hasRoom_15 : decode cX0_hasRoom 15 = .ok (.iconst 0, 1) := by decide +kernel
theorem dX0_hasRoom_16 : decode cX0_hasRoom 16 = .ok (.ireturn, 1) := by decide +kernel
theorem dJ9_abs_0f7a4_0 : decode cJ9_abs_0f7a4 0 = .ok (.iload_n 0, 1) := by decide +kernel
theorem dJ9_abs_0f7a4_1 : decode cJ9_abs_0f7a4 1 = .ok (.ifCond .ge 8, 3) := by decide +kernel
theorem dJ9_abs_0f7a4_4 : decode cJ9_abs_0f7a4 4 = .ok (.iload_n 0, 1) := by decide +kernel
theorem dJ9_abs_0f7a4_5 : decode cJ9_abs_0f7a4 5 = .ok (.ineg, 1) := by decide +kernel
theorem dJ9_abs_0f7a4_6 : decode cJ9_abs_0f7a4 6 = .ok (.goto 4, 3) := by decide +kernel
theorem dJ9_abs_0f7a4_9 : decode cJ9_abs_0f7a4 9 = .ok (.iload_n 0, 1) := by decide +kernel
theorem dJ9_abs_0f7a4_10 : decode cJ9_abs_0f7a4 10 = .ok (.ireturn, 1) := by decide +kernel
abbrev vwCl : List vw_C := [(RX0, TX0, 5), (RX1, TX1, 7), (RX2, TX2, 22)]
end
section
set_option maxRecDepth 20000 in
theorem ggX0_lastKind_X0_number : GoodIn wsX0_lastKind wsX0_number := goodIn_r _ [6, 7, 8, 9, 5, 10, 11, 12, 13, 14, 15] (by decide +kernel) (by decide +kernel)
set_option maxRecDepth 20000 in
theorem gX0_lastKind_X0_number : GoodIn wsX0_lastKind (wsV RX0 27 RX0 yX0_number wsX0_number) := goodIn_app (goodIn_of _ (by decide +kernel)) ggX0_lastKind_X0_number
theorem dX0_lastKind_0 : decode cX0_lastKind 0 = .ok (.aload_n 0, 1) := by decide +kernel
theorem dX0_lastKind_1 : decode cX0_lastKind 1 = .ok (.getfield 9, 3) := by decide +kernel
theorem dX0_lastKind_4 : decode cX0_lastKind 4 = .ok (.iload_n 1, 1) := by decide +kernel
theorem dX0_lastKind_5 : decode cX0_lastKind 5 = .ok (.iaload, 1) := by decide +kernel
theorem dX0_lastKind_6 : decode cX0_lastKind 6 = .ok (.istore_n 2, 1) := by decide +kernel
theorem dX0_lastKind_7 : decode cX0_lastKind 7 = .ok (.iload_n 2, 1) := by decide +kernel
theorem dX0_lastKind_8 : decode cX0_lastKind 8 = .ok (.ifCond .le 15, 3) := by decide +kernel
theorem dX0_lastKind_11 : decode cX0_lastKind 11 = .ok (.aload_n 0, 1) := by decide +kernel
theorem dX0_lastKind_12 : decode cX0_lastKind 12 = .ok (.iload_n 1, 1) := by decide +kernel
theorem dX0_lastKind_13 : decode cX0_lastKind 13 = .ok (.iload_n 2, 1) := by decide +kernel
theorem dX0_lastKind_14 : decode cX0_lastKind 14 = .ok (.iconst 1, 1) := by decide +kernel
theorem dX0_lastKind_15 : decode cX0_lastKind 15 = .ok (.isub, 1) := by decide +kernel
theorem dX0_lastKind_16 : decode cX0_lastKind 16 = .ok (.iconst 0, 1) := by decide +kernel
theorem dX0_lastKind_17 : decode cX0_lastKind 17 = .ok (.invokevirtual 27, 3) := by decide +kernel
theorem dX0_lastKind_20 : decode cX0_lastKind 20 = .ok (.goto 4, 3) := by decide +kernel
theorem dX0_lastKind_23 : decode cX0_lastKind 23 = .ok (.iconst (-1), 1) := by decide +kernel
theorem dX0_lastKind_24 : decode cX0_lastKind 24 = .ok (.ireturn, 1) := by decide +kernel
set_option maxRecDepth 20000 in
theorem ggX0_number_X0_row : GoodIn wsX0_number wsX0_row := goodIn_r _ [5] (by decide +kernel) (by decide +kernel)
set_option maxRecDepth 20000 in
theorem gX0_number_X0_row : GoodIn wsX0_number (va_wsS RX0 31 yX0_row wsX0_row) := goodIn_app (goodIn_of _ (by decide +kernel)) ggX0_number_X0_row
theorem dX0_number_0 : decode cX0_number 0 = .ok (.aload_n 0, 1) := by decide +kernel
theorem dX0_number_1 : decode cX0_number 1 = .ok (.getfield 15, 3) := by decide +kernel
theorem dX0_number_4 : decode cX0_number 4 = .ok (.iload_n 1, 1) := by decide +kernel
theorem dX0_number_5 : decode cX0_number 5 = .ok (.iload_n 2, 1) := by decide +kernel
theorem dX0_number_6 : decode cX0_number 6 = .ok (.invokestatic 31, 3) := by decide +kernel
theorem dX0_number_9 : decode cX0_number 9 = .ok (.bipush 6, 2) := by decide +kernel
theorem dX0_number_11 : decode cX0_number 11 = .ok (.imul, 1) := by decide +kernel
theorem dX0_number_12 : decode cX0_number 12 = .ok (.iload_n 3, 1) := by decide +kernel
theorem dX0_number_13 : decode cX0_number 13 = .ok (.iadd, 1) := by decide +kernel
theorem dX0_number_14 : decode cX0_number 14 = .ok (.iaload, 1) := by decide +kernel
theorem dX0_number_15 : decode cX0_number 15 = .ok (.ireturn, 1) := by decide +kernel
set_option maxRecDepth 20000 in
theorem ggX0_proof_X0_row : GoodIn wsX0_proof wsX0_row := goodIn_r _ [5] (by decide +kernel) (by decide +kernel)
set_option maxRecDepth 20000 in
theorem gX0_proof_X0_row : GoodIn wsX0_proof (va_wsS RX0 31 yX0_row wsX0_row) := goodIn_app (goodIn_of _ (by decide +kernel)) ggX0_proof_X0_row
theorem dX0_proof_0 : decode cX0_proof 0 = .ok (.aload_n 0, 1) := by decide +kernel
theorem dX0_proof_1 : decode cX0_proof 1 = .ok (.getfield 18, 3) := by decide +kernel
theorem dX0_proof_4 : decode cX0_proof 4 = .ok (.iload_n 1, 1) := by decide +kernel
theorem dX0_proof_5 : decode cX0_proof 5 = .ok (.iload_n 2, 1) := by decide +kernel
theorem dX0_proof_6 : decode cX0_proof 6 = .ok (.invokestatic 31, 3) := by decide +kernel
theorem dX0_proof_9 : decode cX0_proof 9 = .ok (.iaload, 1) := by decide +kernel
theorem dX0_proof_10 : decode cX0_proof 10 = .ok (.ireturn, 1) := by decide +kernel
set_option maxRecDepth 20000 in
theorem ggX0_copies_X0_row : GoodIn wsX0_copies wsX0_row := goodIn_r _ [5] (by decide +kernel) (by decide +kernel)
set_option maxRecDepth 20000 in
theorem gX0_copies_X0_row : GoodIn wsX0_copies (va_wsS RX0 31 yX0_row wsX0_row) := goodIn_app (goodIn_of _ (by decide +kernel)) ggX0_copies_X0_row
theorem dX0_copies_0 : decode cX0_copies 0 = .ok (.aload_n 0, 1) := by decide +kernel
theorem dX0_copies_1 : decode cX0_copies 1 = .ok (.getfield 21, 3) := by decide +kernel
theorem dX0_copies_4 : decode cX0_copies 4 = .ok (.iload_n 1, 1) := by decide +kernel
theorem dX0_copies_5 : decode cX0_copies 5 = .ok (.iload_n 2, 1) := by decide +kernel
theorem dX0_copies_6 : decode cX0_copies 6 = .ok (.invokestatic 31, 3) := by decide +kernel
theorem dX0_copies_9 : decode cX0_copies 9 = .ok (.iaload, 1) := by decide +kernel
theorem dX0_copies_10 : decode cX0_copies 10 = .ok (.ireturn, 1) := by decide +kernel
set_option maxRecDepth 20000 in
theorem ggX0_add_X0_row : GoodIn wsX0_add wsX0_row := goodIn_r _ [9] (by decide +kernel) (by decide +kernel)
set_option maxRecDepth 20000 in
theorem gX0_add_X0_row : GoodIn wsX0_add (va_wsS RX0 31 yX0_row wsX0_row) := goodIn_app (goodIn_of _ (by decide +kernel)) ggX0_add_X0_row
set_option maxRecDepth 20000 in
theorem ggX0_add_X0_proofMade : GoodIn wsX0_add wsX0_proofMade := goodIn_r _ [13, 3, 2, 6, 7, 8, 9, 17, 18, 19, 20, 21] (by decide +kernel) (by decide +kernel)
set_option maxRecDepth 20000 in
theorem gX0_add_X0_proofMade : GoodIn wsX0_add (wsV RX0 35 RX0 yX0_proofMade wsX0_proofMade) := goodIn_app (goodIn_of _ (by decide +kernel)) ggX0_add_X0_proofMade
set_option maxRecDepth 20000 in
theorem ggX0_add_X0_witnesses : GoodIn wsX0_add wsX0_witnesses := goodIn_r _ [16] (by decide +kernel) (by decide +kernel)
set_option maxRecDepth 20000 in
theorem gX0_add_X0_witnesses : GoodIn wsX0_add (va_wsS RX0 38 yX0_witnesses wsX0_witnesses) := goodIn_app (goodIn_of _ (by decide +kernel)) ggX0_add_X0_witnesses
theorem dX0_add_0 : decode cX0_add 0 = .ok (.aload_n 0, 1) := by decide +kernel
theorem dX0_add_1 : decode cX0_add 1 = .ok (.getfield 9, 3) := by decide +kernel
theorem dX0_add_4 : decode cX0_add 4 = .ok (.iload_n 1, 1) := by decide +kernel
theorem dX0_add_5 : decode cX0_add 5 = .ok (.iaload, 1) := by decide +kernel
theorem dX0_add_6 : decode cX0_add 6 = .ok (.istore 8, 2) := by decide +kernel
theorem dX0_add_8 : decode cX0_add 8 = .ok (.iload_n 1, 1) := by decide +kernel
theorem dX0_add_9 : decode cX0_add 9 = .ok (.iload 8, 2) := by decide +kernel
theorem dX0_add_11 : decode cX0_add 11 = .ok (.invokestatic 31, 3) := by decide +kernel
theorem dX0_add_14 : decode cX0_add 14 = .ok (.istore 9, 2) := by decide +kernel
theorem dX0_add_16 : decode cX0_add 16 = .ok (.aload_n 0, 1) := by decide +kernel
theorem dX0_add_17 : decode cX0_add 17 = .ok (.getfield 15, 3) := by decide +kernel
theorem dX0_add_20 : decode cX0_add 20 = .ok (.iload 9, 2) := by decide +kernel
theorem dX0_add_22 : decode cX0_add 22 = .ok (.bipush 6, 2) := by decide +kernel
theorem dX0_add_24 : decode cX0_add 24 = .ok (.imul, 1) := by decide +kernel
theorem dX0_add_25 : decode cX0_add 25 = .ok (.iconst 0, 1) := by decide +kernel
theorem dX0_add_26 : decode cX0_add 26 = .ok (.iadd, 1) := by decide +kernel
theorem dX0_add_27 : decode cX0_add 27 = .ok (.iload_n 2, 1) := by decide +kernel
theorem dX0_add_28 : decode cX0_add 28 = .ok (.iastore, 1) := by decide +kernel
theorem dX0_add_29 : decode cX0_add 29 = .ok (.aload_n 0, 1) := by decide +kernel
theorem dX0_add_30 : decode cX0_add 30 = .ok (.getfield 15, 3) := by decide +kernel
theorem dX0_add_33 : decode cX0_add 33 = .ok (.iload 9, 2) := by decide +kernel
theorem dX0_add_35 : decode cX0_add 35 = .ok (.bipush 6, 2) := by decide +kernel
theorem dX0_add_37 : decode cX0_add 37 = .ok (.imul, 1) := by decide +kernel
theorem dX0_add_38 : decode cX0_add 38 = .ok (.iconst 1, 1) := by decide +kernel
theorem dX0_add_39 : decode cX0_add 39 = .ok (.iadd, 1) := by decide +kernel
theorem dX0_add_40 : decode cX0_add 40 = .ok (.iload_n 3, 1) := by decide +kernel
theorem dX0_add_41 : decode cX0_add 41 = .ok (.iastore, 1) := by decide +kernel
theorem dX0_add_42 : decode cX0_add 42 = .ok (.aload_n 0, 1) := by decide +kernel
theorem dX0_add_43 : decode cX0_add 43 = .ok (.getfield 15, 3) := by decide +kernel
theorem dX0_add_46 : decode cX0_add 46 = .ok (.iload 9, 2) := by decide +kernel
theorem dX0_add_48 : decode cX0_add 48 = .ok (.bipush 6, 2) := by decide +kernel
theorem dX0_add_50 : decode cX0_add 50 = .ok (.imul, 1) := by decide +kernel
theorem dX0_add_51 : decode cX0_add 51 = .ok (.iconst 2, 1) := by decide +kernel
theorem dX0_add_52 : decode cX0_add 52 = .ok (.iadd, 1) := by decide +kernel
theorem dX0_add_53 : decode cX0_add 53 = .ok (.iload 4, 2) := by decide +kernel
theorem dX0_add_55 : decode cX0_add 55 = .ok (.iastore, 1) := by decide +kernel
theorem dX0_add_56 : decode cX0_add 56 = .ok (.aload_n 0, 1) := by decide +kernel
theorem dX0_add_57 : decode cX0_add 57 = .ok (.getfield 15, 3) := by decide +kernel
theorem dX0_add_60 : decode cX0_add 60 = .ok (.iload 9, 2) := by decide +kernel
theorem dX0_add_62 : decode cX0_add 62 = .ok (.bipush 6, 2) := by decide +kernel
theorem dX0_add_64 : decode cX0_add 64 = .ok (.imul, 1) := by decide +kernel
theorem dX0_add_65 : decode cX0_add 65 = .ok (.iconst 3, 1) := by decide +kernel
theorem dX0_add_66 : decode cX0_add 66 = .ok (.iadd, 1) := by decide +kernel
theorem dX0_add_67 : decode cX0_add 67 = .ok (.iload 5, 2) := by decide +kernel
theorem dX0_add_69 : decode cX0_add 69 = .ok (.iastore, 1) := by decide +kernel
theorem dX0_add_70 : decode cX0_add 70 = .ok (.aload_n 0, 1) := by decide +kernel
theorem dX0_add_71 : decode cX0_add 71 = .ok (.getfield 15, 3) := by decide +kernel
theorem dX0_add_74 : decode cX0_add 74 = .ok (.iload 9, 2) := by decide +kernel
theorem dX0_add_76 : decode cX0_add 76 = .ok (.bipush 6, 2) := by decide +kernel
theorem dX0_add_78 : decode cX0_add 78 = .ok (.imul, 1) := by decide +kernel
theorem dX0_add_79 : decode cX0_add 79 = .ok (.iconst 4, 1) := by decide +kernel
theorem dX0_add_80 : decode cX0_add 80 = .ok (.iadd, 1) := by decide +kernel
theorem dX0_add_81 : decode cX0_add 81 = .ok (.iload 6, 2) := by decide +kernel
theorem dX0_add_83 : decode cX0_add 83 = .ok (.iastore, 1) := by decide +kernel
theorem dX0_add_84 : decode cX0_add 84 = .ok (.aload_n 0, 1) := by decide +kernel
theorem dX0_add_85 : decode cX0_add 85 = .ok (.getfield 15, 3) := by decide +kernel
theorem dX0_add_88 : decode cX0_add 88 = .ok (.iload 9, 2) := by decide +kernel
theorem dX0_add_90 : decode cX0_add 90 = .ok (.bipush 6, 2) := by decide +kernel
theorem dX0_add_92 : decode cX0_add 92 = .ok (.imul, 1) := by decide +kernel
theorem dX0_add_93 : decode cX0_add 93 = .ok (.iconst 5, 1) := by decide +kernel
theorem dX0_add_94 : decode cX0_add 94 = .ok (.iadd, 1) := by decide +kernel
theorem dX0_add_95 : decode cX0_add 95 = .ok (.iload 7, 2) := by decide +kernel
theorem dX0_add_97 : decode cX0_add 97 = .ok (.iastore, 1) := by decide +kernel
theorem dX0_add_98 : decode cX0_add 98 = .ok (.aload_n 0, 1) := by decide +kernel
theorem dX0_add_99 : decode cX0_add 99 = .ok (.getfield 18, 3) := by decide +kernel
theorem dX0_add_102 : decode cX0_add 102 = .ok (.iload 9, 2) := by decide +kernel
theorem dX0_add_104 : decode cX0_add 104 = .ok (.aload_n 0, 1) := by decide +kernel
theorem dX0_add_105 : decode cX0_add 105 = .ok (.iload_n 1, 1) := by decide +kernel
theorem dX0_add_106 : decode cX0_add 106 = .ok (.iload 8, 2) := by decide +kernel
theorem dX0_add_108 : decode cX0_add 108 = .ok (.invokevirtual 35, 3) := by decide +kernel
theorem dX0_add_111 : decode cX0_add 111 = .ok (.iastore, 1) := by decide +kernel
theorem dX0_add_112 : decode cX0_add 112 = .ok (.aload_n 0, 1) := by decide +kernel
theorem dX0_add_113 : decode cX0_add 113 = .ok (.getfield 21, 3) := by decide +kernel
theorem dX0_add_116 : decode cX0_add 116 = .ok (.iload 9, 2) := by decide +kernel
theorem dX0_add_118 : decode cX0_add 118 = .ok (.iload_n 2, 1) := by decide +kernel
theorem dX0_add_119 : decode cX0_add 119 = .ok (.iload_n 3, 1) := by decide +kernel
theorem dX0_add_120 : decode cX0_add 120 = .ok (.iload 5, 2) := by decide +kernel
theorem dX0_add_122 : decode cX0_add 122 = .ok (.invokestatic 38, 3) := by decide +kernel
theorem dX0_add_125 : decode cX0_add 125 = .ok (.iastore, 1) := by decide +kernel
theorem dX0_add_126 : decode cX0_add 126 = .ok (.aload_n 0, 1) := by decide +kernel
theorem dX0_add_127 : decode cX0_add 127 = .ok (.getfield 24, 3) := by decide +kernel
theorem dX0_add_130 : decode cX0_add 130 = .ok (.iload 9, 2) := by decide +kernel
theorem dX0_add_132 : decode cX0_add 132 = .ok (.iload 5, 2) := by decide +kernel
theorem dX0_add_134 : decode cX0_add 134 = .ok (.iastore, 1) := by decide +kernel
theorem dX0_add_135 : decode cX0_add 135 = .ok (.aload_n 0, 1) := by decide +kernel
theorem dX0_add_136 : decode cX0_add 136 = .ok (.getfield 9, 3) := by decide +kernel
theorem dX0_add_139 : decode cX0_add 139 = .ok (.iload_n 1, 1) := by decide +kernel
theorem dX0_add_140 : decode cX0_add 140 = .ok (.iload 8, 2) := by decide +kernel
theorem dX0_add_142 : decode cX0_add 142 = .ok (.iconst 1, 1) := by decide +kernel
theorem dX0_add_143 : decode cX0_add 143 = .ok (.iadd, 1) := by decide +kernel
theorem dX0_add_144 : decode cX0_add 144 = .ok (.iastore, 1) := by decide +kernel
theorem dX0_add_145 : decode cX0_add 145 = .ok (.return_, 1) := by decide +kernel
set_option maxRecDepth 20000 in
theorem ggX0_putAmount_X0_row : GoodIn wsX0_putAmount wsX0_row := goodIn_r _ [5] (by decide +kernel) (by decide +kernel)
set_option maxRecDepth 20000 in
theorem gX0_putAmount_X0_row : GoodIn wsX0_putAmount (va_wsS RX0 31 yX0_row wsX0_row) := goodIn_app (goodIn_of _ (by decide +kernel)) ggX0_putAmount_X0_row
theorem dX0_putAmount_0 : decode cX0_putAmount 0 = .ok (.aload_n 0, 1) := by decide +kernel
theorem dX0_putAmount_1 : decode cX0_putAmount 1 = .ok (.getfield 15, 3) := by decide +kernel
theorem dX0_putAmount_4 : decode cX0_putAmount 4 = .ok (.iload_n 1, 1) := by decide +kernel
theorem dX0_putAmount_5 : decode cX0_putAmount 5 = .ok (.iload_n 2, 1) := by decide +kernel
theorem dX0_putAmount_6 : decode cX0_putAmount 6 = .ok (.invokestatic 31, 3) := by decide +kernel
theorem dX0_putAmount_9 : decode cX0_putAmount 9 = .ok (.bipush 6, 2) := by decide +kernel
theorem dX0_putAmount_11 : decode cX0_putAmount 11 = .ok (.imul, 1) := by decide +kernel
theorem dX0_putAmount_12 : decode cX0_putAmount 12 = .ok (.iconst 3, 1) := by decide +kernel
theorem dX0_putAmount_13 : decode cX0_putAmount 13 = .ok (.iadd, 1) := by decide +kernel
theorem dX0_putAmount_14 : decode cX0_putAmount 14 = .ok (.iload_n 3, 1) := by decide +kernel
theorem dX0_putAmount_15 : decode cX0_putAmount 15 = .ok (.iastore, 1) := by decide +kernel
theorem dX0_putAmount_16 : decode cX0_putAmount 16 = .ok (.return_, 1) := by decide +kernel
set_option maxRecDepth 20000 in
theorem ggX0_putAmountBack_X0_row : GoodIn wsX0_putAmountBack wsX0_row := goodIn_r _ [5] (by decide +kernel) (by decide +kernel)
set_option maxRecDepth 20000 in
theorem gX0_putAmountBack_X0_row : GoodIn wsX0_putAmountBack (va_wsS RX0 31 yX0_row wsX0_row) := goodIn_app (goodIn_of _ (by decide +kernel)) ggX0_putAmountBack_X0_row
set_option maxRecDepth 20000 in
theorem ggX0_putAmountBack_X0_putAmount : GoodIn wsX0_putAmountBack wsX0_putAmount := goodIn_r _ [9, 10, 2, 3, 4, 5, 11, 12, 13, 14, 15] (by decide +kernel) (by decide +kernel)
set_option maxRecDepth 20000 in
theorem gX0_putAmountBack_X0_putAmount : GoodIn wsX0_putAmountBack (wsV RX0 41 RX0 yX0_putAmount wsX0_putAmount) := goodIn_app (goodIn_of _ (by decide +kernel)) ggX0_putAmountBack_X0_putAmount
theorem dX0_putAmountBack_0 : decode cX0_putAmountBack 0 = .ok (.aload_n 0, 1) := by decide +kernel
theorem dX0_putAmountBack_1 : decode cX0_putAmountBack 1 = .ok (.iload_n 1, 1) := by decide +kernel
theorem dX0_putAmountBack_2 : decode cX0_putAmountBack 2 = .ok (.iload_n 2, 1) := by decide +kernel
theorem dX0_putAmountBack_3 : decode cX0_putAmountBack 3 = .ok (.aload_n 0, 1) := by decide +kernel
theorem dX0_putAmountBack_4 : decode cX0_putAmountBack 4 = .ok (.getfield 24, 3) := by decide +kernel
theorem dX0_putAmountBack_7 : decode cX0_putAmountBack 7 = .ok (.iload_n 1, 1) := by decide +kernel
theorem dX0_putAmountBack_8 : decode cX0_putAmountBack 8 = .ok (.iload_n 2, 1) := by decide +kernel
theorem dX0_putAmountBack_9 : decode cX0_putAmountBack 9 = .ok (.invokestatic 31, 3) := by decide +kernel
theorem dX0_putAmountBack_12 : decode cX0_putAmountBack 12 = .ok (.iaload, 1) := by decide +kernel
theorem dX0_putAmountBack_13 : decode cX0_putAmountBack 13 = .ok (.invokevirtual 41, 3) := by decide +kernel
theorem dX0_putAmountBack_16 : decode cX0_putAmountBack 16 = .ok (.return_, 1) := by decide +kernel
set_option maxRecDepth 20000 in
theorem ggX0_dropCopies_X1_isIn : GoodIn wsX0_dropCopies wsX1_isIn := goodIn_r _ [4] (by decide +kernel) (by decide +kernel)
set_option maxRecDepth 20000 in
theorem gX0_dropCopies_X1_isIn_n45 : GoodIn wsX0_dropCopies (wsX1_isIn) := ggX0_dropCopies_X1_isIn
theorem dX0_dropCopies_0 : decode cX0_dropCopies 0 = .ok (.iconst 0, 1) := by decide +kernel
theorem dX0_dropCopies_1 : decode cX0_dropCopies 1 = .ok (.istore_n 2, 1) := by decide +kernel
theorem dX0_dropCopies_2 : decode cX0_dropCopies 2 = .ok (.iconst 0, 1) := by decide +kernel
theorem dX0_dropCopies_3 : decode cX0_dropCopies 3 = .ok (.istore_n 3, 1) := by decide +kernel
theorem dX0_dropCopies_4 : decode cX0_dropCopies 4 = .ok (.iload_n 3, 1) := by decide +kernel
theorem dX0_dropCopies_5 : decode cX0_dropCopies 5 = .ok (.aload_n 0, 1) := by decide +kernel
theorem dX0_dropCopies_6 : decode cX0_dropCopies 6 = .ok (.getfield 21, 3) := by decide +kernel
theorem dX0_dropCopies_9 : decode cX0_dropCopies 9 = .ok (.arraylength, 1) := by decide +kernel
theorem dX0_dropCopies_10 : decode cX0_dropCopies 10 = .ok (.if_icmp .ge 39, 3) := by decide +kernel
theorem dX0_dropCopies_13 : decode cX0_dropCopies 13 = .ok (.aload_n 0, 1) := by decide +kernel
theorem dX0_dropCopies_14 : decode cX0_dropCopies 14 = .ok (.getfield 21, 3) := by decide +kernel
theorem dX0_dropCopies_17 : decode cX0_dropCopies 17 = .ok (.iload_n 3, 1) := by decide +kernel
theorem dX0_dropCopies_18 : decode cX0_dropCopies 18 = .ok (.iaload, 1) := by decide +kernel
theorem dX0_dropCopies_19 : decode cX0_dropCopies 19 = .ok (.iload_n 1, 1) := by decide +kernel
theorem dX0_dropCopies_20 : decode cX0_dropCopies 20 = .ok (.invokestatic 45, 3) := by decide +kernel
theorem dX0_dropCopies_23 : decode cX0_dropCopies 23 = .ok (.ifCond .eq 20, 3) := by decide +kernel
theorem dX0_dropCopies_26 : decode cX0_dropCopies 26 = .ok (.aload_n 0, 1) := by decide +kernel
theorem dX0_dropCopies_27 : decode cX0_dropCopies 27 = .ok (.getfield 21, 3) := by decide +kernel
theorem dX0_dropCopies_30 : decode cX0_dropCopies 30 = .ok (.iload_n 3, 1) := by decide +kernel
theorem dX0_dropCopies_31 : decode cX0_dropCopies 31 = .ok (.dup2, 1) := by decide +kernel
theorem dX0_dropCopies_32 : decode cX0_dropCopies 32 = .ok (.iaload, 1) := by decide +kernel
theorem dX0_dropCopies_33 : decode cX0_dropCopies 33 = .ok (.iconst 1, 1) := by decide +kernel
theorem dX0_dropCopies_34 : decode cX0_dropCopies 34 = .ok (.iload_n 1, 1) := by decide +kernel
theorem dX0_dropCopies_35 : decode cX0_dropCopies 35 = .ok (.ishl, 1) := by decide +kernel
theorem dX0_dropCopies_36 : decode cX0_dropCopies 36 = .ok (.iconst (-1), 1) := by decide +kernel
theorem dX0_dropCopies_37 : decode cX0_dropCopies 37 = .ok (.ixor, 1) := by decide +kernel
theorem dX0_dropCopies_38 : decode cX0_dropCopies 38 = .ok (.iand, 1) := by decide +kernel
theorem dX0_dropCopies_39 : decode cX0_dropCopies 39 = .ok (.iastore, 1) := by decide +kernel
theorem dX0_dropCopies_40 : decode cX0_dropCopies 40 = .ok (.iinc 2 1, 3) := by decide +kernel
theorem dX0_dropCopies_43 : decode cX0_dropCopies 43 = .ok (.iinc 3 1, 3) := by decide +kernel
theorem dX0_dropCopies_46 : decode cX0_dropCopies 46 = .ok (.goto (-42), 3) := by decide +kernel
theorem dX0_dropCopies_49 : decode cX0_dropCopies 49 = .ok (.iload_n 2, 1) := by decide +kernel
theorem dX0_dropCopies_50 : decode cX0_dropCopies 50 = .ok (.ireturn, 1) := by decide +kernel
set_option maxRecDepth 20000 in
theorem ggX0_isBroken_X0_proof : GoodIn wsX0_isBroken wsX0_proof := goodIn_r _ [5, 6, 7, 8, 4, 9, 15, 16, 17, 18, 19] (by decide +kernel) (by decide +kernel)
set_option maxRecDepth 20000 in
theorem gX0_isBroken_X0_proof : GoodIn wsX0_isBroken (wsV RX0 49 RX0 yX0_proof wsX0_proof) := goodIn_app (goodIn_of _ (by decide +kernel)) ggX0_isBroken_X0_proof
set_option maxRecDepth 20000 in
theorem ggX0_isBroken_X0_proofMade : GoodIn wsX0_isBroken wsX0_proofMade := goodIn_r _ [13, 6, 14, 7, 8, 4, 9, 15, 16, 17, 18, 19] (by decide +kernel) (by decide +kernel)
set_option maxRecDepth 20000 in
theorem gX0_isBroken_X0_proofMade : GoodIn wsX0_isBroken (wsV RX0 35 RX0 yX0_proofMade wsX0_proofMade) := goodIn_app (goodIn_of _ (by decide +kernel)) ggX0_isBroken_X0_proofMade
theorem dX0_isBroken_0 : decode cX0_isBroken 0 = .ok (.aload_n 0, 1) := by decide +kernel
theorem dX0_isBroken_1 : decode cX0_isBroken 1 = .ok (.iload_n 1, 1) := by decide +kernel
theorem dX0_isBroken_2 : decode cX0_isBroken 2 = .ok (.iload_n 2, 1) := by decide +kernel
theorem dX0_isBroken_3 : decode cX0_isBroken 3 = .ok (.invokevirtual 49, 3) := by decide +kernel
theorem dX0_isBroken_6 : decode cX0_isBroken 6 = .ok (.aload_n 0, 1) := by decide +kernel
theorem dX0_isBroken_7 : decode cX0_isBroken 7 = .ok (.iload_n 1, 1) := by decide +kernel
theorem dX0_isBroken_8 : decode cX0_isBroken 8 = .ok (.iload_n 2, 1) := by decide +kernel
theorem dX0_isBroken_9 : decode cX0_isBroken 9 = .ok (.invokevirtual 35, 3) := by decide +kernel
theorem dX0_isBroken_12 : decode cX0_isBroken 12 = .ok (.if_icmp .eq 7, 3) := by decide +kernel
theorem dX0_isBroken_15 : decode cX0_isBroken 15 = .ok (.iconst 1, 1) := by decide +kernel
theorem dX0_isBroken_16 : decode cX0_isBroken 16 = .ok (.goto 4, 3) := by decide +kernel
theorem dX0_isBroken_19 : decode cX0_isBroken 19 = .ok (.iconst 0, 1) := by decide +kernel
theorem dX0_isBroken_20 : decode cX0_isBroken 20 = .ok (.ireturn, 1) := by decide +kernel
set_option maxRecDepth 20000 in
theorem ggX0_firstBroken_X0_isBroken : GoodIn wsX0_firstBroken wsX0_isBroken := goodIn_r _ [6, 7, 8, 9, 5, 10, 11, 12, 13, 14, 15, 16, 17, 18, 19, 20, 21, 22, 23, 24] (by decide +kernel) (by decide +kernel)
set_option maxRecDepth 20000 in
theorem gX0_firstBroken_X0_isBroken : GoodIn wsX0_firstBroken (wsV RX0 52 RX0 yX0_isBroken wsX0_isBroken) := goodIn_app (goodIn_of _ (by decide +kernel)) ggX0_firstBroken_X0_isBroken
theorem dX0_firstBroken_0 : decode cX0_firstBroken 0 = .ok (.iconst 0, 1) := by decide +kernel
theorem dX0_firstBroken_1 : decode cX0_firstBroken 1 = .ok (.istore_n 2, 1) := by decide +kernel
theorem dX0_firstBroken_2 : decode cX0_firstBroken 2 = .ok (.iload_n 2, 1) := by decide +kernel
theorem dX0_firstBroken_3 : decode cX0_firstBroken 3 = .ok (.aload_n 0, 1) := by decide +kernel
theorem dX0_firstBroken_4 : decode cX0_firstBroken 4 = .ok (.getfield 9, 3) := by decide +kernel
theorem dX0_firstBroken_7 : decode cX0_firstBroken 7 = .ok (.iload_n 1, 1) := by decide +kernel
theorem dX0_firstBroken_8 : decode cX0_firstBroken 8 = .ok (.iaload, 1) := by decide +kernel
theorem dX0_firstBroken_9 : decode cX0_firstBroken 9 = .ok (.if_icmp .ge 20, 3) := by decide +kernel
theorem dX0_firstBroken_12 : decode cX0_firstBroken 12 = .ok (.aload_n 0, 1) := by decide +kernel
theorem dX0_firstBroken_13 : decode cX0_firstBroken 13 = .ok (.iload_n 1, 1) := by decide +kernel
theorem dX0_firstBroken_14 : decode cX0_firstBroken 14 = .ok (.iload_n 2, 1) := by decide +kernel
theorem dX0_firstBroken_15 : decode cX0_firstBroken 15 = .ok (.invokevirtual 52, 3) := by decide +kernel
theorem dX0_firstBroken_18 : decode cX0_firstBroken 18 = .ok (.ifCond .eq 5, 3) := by decide +kernel
theorem dX0_firstBroken_21 : decode cX0_firstBroken 21 = .ok (.iload_n 2, 1) := by decide +kernel
theorem dX0_firstBroken_22 : decode cX0_firstBroken 22 = .ok (.ireturn, 1) := by decide +kernel
theorem dX0_firstBroken_23 : decode cX0_firstBroken 23 = .ok (.iinc 2 1, 3) := by decide +kernel
theorem dX0_firstBroken_26 : decode cX0_firstBroken 26 = .ok (.goto (-24), 3) := by decide +kernel
theorem dX0_firstBroken_29 : decode cX0_firstBroken 29 = .ok (.iconst (-1), 1) := by decide +kernel
theorem dX0_firstBroken_30 : decode cX0_firstBroken 30 = .ok (.ireturn, 1) := by decide +kernel
set_option maxRecDepth 20000 in
theorem ggX0_reach_X1_isIn : GoodIn wsX0_reach wsX1_isIn := goodIn_r _ [3] (by decide +kernel) (by decide +kernel)
set_option maxRecDepth 20000 in
theorem gX0_reach_X1_isIn_n45 : GoodIn wsX0_reach (wsX1_isIn) := ggX0_reach_X1_isIn
set_option maxRecDepth 20000 in
theorem ggX0_reach_X0_toldPallets : GoodIn wsX0_reach wsX0_toldPallets := goodIn_r _ [8, 9, 10, 11, 12, 7, 13, 14, 15, 16, 17, 18, 19, 20, 21, 22] (by decide +kernel) (by decide +kernel)
set_option maxRecDepth 20000 in
theorem gX0_reach_X0_toldPallets : GoodIn wsX0_reach (wsV RX0 55 RX0 yX0_toldPallets wsX0_toldPallets) := goodIn_app (goodIn_of _ (by decide +kernel)) ggX0_reach_X0_toldPallets
theorem dX0_reach_0 : decode cX0_reach 0 = .ok (.iconst 1, 1) := by decide +kernel
theorem dX0_reach_1 : decode cX0_reach 1 = .ok (.iload_n 1, 1) := by decide +kernel
theorem dX0_reach_2 : decode cX0_reach 2 = .ok (.ishl, 1) := by decide +kernel
theorem dX0_reach_3 : decode cX0_reach 3 = .ok (.istore_n 3, 1) := by decide +kernel
theorem dX0_reach_4 : decode cX0_reach 4 = .ok (.iconst 0, 1) := by decide +kernel
theorem dX0_reach_5 : decode cX0_reach 5 = .ok (.istore 4, 2) := by decide +kernel
theorem dX0_reach_7 : decode cX0_reach 7 = .ok (.iconst 0, 1) := by decide +kernel
theorem dX0_reach_8 : decode cX0_reach 8 = .ok (.istore 5, 2) := by decide +kernel
theorem dX0_reach_10 : decode cX0_reach 10 = .ok (.iload 5, 2) := by decide +kernel
theorem dX0_reach_12 : decode cX0_reach 12 = .ok (.bipush 14, 2) := by decide +kernel
theorem dX0_reach_14 : decode cX0_reach 14 = .ok (.if_icmp .ge 69, 3) := by decide +kernel
theorem dX0_reach_17 : decode cX0_reach 17 = .ok (.iload 4, 2) := by decide +kernel
theorem dX0_reach_19 : decode cX0_reach 19 = .ok (.iload_n 3, 1) := by decide +kernel
theorem dX0_reach_20 : decode cX0_reach 20 = .ok (.if_icmp .eq 63, 3) := by decide +kernel
theorem dX0_reach_23 : decode cX0_reach 23 = .ok (.iconst 0, 1) := by decide +kernel
theorem dX0_reach_24 : decode cX0_reach 24 = .ok (.istore 6, 2) := by decide +kernel
theorem dX0_reach_26 : decode cX0_reach 26 = .ok (.iload 6, 2) := by decide +kernel
theorem dX0_reach_28 : decode cX0_reach 28 = .ok (.bipush 14, 2) := by decide +kernel
theorem dX0_reach_30 : decode cX0_reach 30 = .ok (.if_icmp .ge 47, 3) := by decide +kernel
theorem dX0_reach_33 : decode cX0_reach 33 = .ok (.iload_n 3, 1) := by decide +kernel
theorem dX0_reach_34 : decode cX0_reach 34 = .ok (.iload 6, 2) := by decide +kernel
theorem dX0_reach_36 : decode cX0_reach 36 = .ok (.invokestatic 45, 3) := by decide +kernel
theorem dX0_reach_39 : decode cX0_reach 39 = .ok (.ifCond .eq 32, 3) := by decide +kernel
theorem dX0_reach_42 : decode cX0_reach 42 = .ok (.iload 4, 2) := by decide +kernel
theorem dX0_reach_44 : decode cX0_reach 44 = .ok (.iload 6, 2) := by decide +kernel
theorem dX0_reach_46 : decode cX0_reach 46 = .ok (.invokestatic 45, 3) := by decide +kernel
theorem dX0_reach_49 : decode cX0_reach 49 = .ok (.ifCond .ne 22, 3) := by decide +kernel
theorem dX0_reach_52 : decode cX0_reach 52 = .ok (.iload 4, 2) := by decide +kernel
theorem dX0_reach_54 : decode cX0_reach 54 = .ok (.iconst 1, 1) := by decide +kernel
theorem dX0_reach_55 : decode cX0_reach 55 = .ok (.iload 6, 2) := by decide +kernel
theorem dX0_reach_57 : decode cX0_reach 57 = .ok (.ishl, 1) := by decide +kernel
theorem dX0_reach_58 : decode cX0_reach 58 = .ok (.ior, 1) := by decide +kernel
theorem dX0_reach_59 : decode cX0_reach 59 = .ok (.istore 4, 2) := by decide +kernel
theorem dX0_reach_61 : decode cX0_reach 61 = .ok (.iload_n 3, 1) := by decide +kernel
theorem dX0_reach_62 : decode cX0_reach 62 = .ok (.aload_n 0, 1) := by decide +kernel
theorem dX0_reach_63 : decode cX0_reach 63 = .ok (.iload 6, 2) := by decide +kernel
theorem dX0_reach_65 : decode cX0_reach 65 = .ok (.iload_n 2, 1) := by decide +kernel
theorem dX0_reach_66 : decode cX0_reach 66 = .ok (.invokevirtual 55, 3) := by decide +kernel
theorem dX0_reach_69 : decode cX0_reach 69 = .ok (.ior, 1) := by decide +kernel
theorem dX0_reach_70 : decode cX0_reach 70 = .ok (.istore_n 3, 1) := by decide +kernel
theorem dX0_reach_71 : decode cX0_reach 71 = .ok (.iinc 6 1, 3) := by decide +kernel
theorem dX0_reach_74 : decode cX0_reach 74 = .ok (.goto (-48), 3) := by decide +kernel
theorem dX0_reach_77 : decode cX0_reach 77 = .ok (.iinc 5 1, 3) := by decide +kernel
theorem dX0_reach_80 : decode cX0_reach 80 = .ok (.goto (-70), 3) := by decide +kernel
theorem dX0_reach_83 : decode cX0_reach 83 = .ok (.iload_n 3, 1) := by decide +kernel
theorem dX0_reach_84 : decode cX0_reach 84 = .ok (.ireturn, 1) := by decide +kernel
set_option maxRecDepth 20000 in
theorem ggX0_toldByOwnEntries_X0_number : GoodIn wsX0_toldByOwnEntries wsX0_number := goodIn_r _ [6, 7, 8, 9, 5, 10, 14, 15, 16, 17, 18] (by decide +kernel) (by decide +kernel)
set_option maxRecDepth 20000 in
theorem gX0_toldByOwnEntries_X0_number : GoodIn wsX0_toldByOwnEntries (wsV RX0 27 RX0 yX0_number wsX0_number) := goodIn_app (goodIn_of _ (by decide +kernel)) ggX0_toldByOwnEntries_X0_number
set_option maxRecDepth 20000 in
theorem ggX0_toldByOwnEntries_X0_sign : GoodIn wsX0_toldByOwnEntries wsX0_sign := goodIn_r _ [13] (by decide +kernel) (by decide +kernel)
set_option maxRecDepth 20000 in
theorem gX0_toldByOwnEntries_X0_sign : GoodIn wsX0_toldByOwnEntries (va_wsS RX0 59 yX0_sign wsX0_sign) := goodIn_app (goodIn_of _ (by decide +kernel)) ggX0_toldByOwnEntries_X0_sign
theorem dX0_toldByOwnEntries_0 : decode cX0_toldByOwnEntries 0 = .ok (.iconst 0, 1) := by decide +kernel
theorem dX0_toldByOwnEntries_1 : decode cX0_toldByOwnEntries 1 = .ok (.istore_n 3, 1) := by decide +kernel
theorem dX0_toldByOwnEntries_2 : decode cX0_toldByOwnEntries 2 = .ok (.iconst 0, 1) := by decide +kernel
theorem dX0_toldByOwnEntries_3 : decode cX0_toldByOwnEntries 3 = .ok (.istore 4, 2) := by decide +kernel
theorem dX0_toldByOwnEntries_5 : decode cX0_toldByOwnEntries 5 = .ok (.iload 4, 2) := by decide +kernel
theorem dX0_toldByOwnEntries_7 : decode cX0_toldByOwnEntries 7 = .ok (.aload_n 0, 1) := by decide +kernel
theorem dX0_toldByOwnEntries_8 : decode cX0_toldByOwnEntries 8 = .ok (.getfield 9, 3) := by decide +kernel
theorem dX0_toldByOwnEntries_11 : decode cX0_toldByOwnEntries 11 = .ok (.iload_n 1, 1) := by decide +kernel
theorem dX0_toldByOwnEntries_12 : decode cX0_toldByOwnEntries 12 = .ok (.iaload, 1) := by decide +kernel
theorem dX0_toldByOwnEntries_13 : decode cX0_toldByOwnEntries 13 = .ok (.if_icmp .ge 44, 3) := by decide +kernel
theorem dX0_toldByOwnEntries_16 : decode cX0_toldByOwnEntries 16 = .ok (.aload_n 0, 1) := by decide +kernel
theorem dX0_toldByOwnEntries_17 : decode cX0_toldByOwnEntries 17 = .ok (.iload_n 1, 1) := by decide +kernel
theorem dX0_toldByOwnEntries_18 : decode cX0_toldByOwnEntries 18 = .ok (.iload 4, 2) := by decide +kernel
theorem dX0_toldByOwnEntries_20 : decode cX0_toldByOwnEntries 20 = .ok (.iconst 2, 1) := by decide +kernel
theorem dX0_toldByOwnEntries_21 : decode cX0_toldByOwnEntries 21 = .ok (.invokevirtual 27, 3) := by decide +kernel
theorem dX0_toldByOwnEntries_24 : decode cX0_toldByOwnEntries 24 = .ok (.iload_n 2, 1) := by decide +kernel
theorem dX0_toldByOwnEntries_25 : decode cX0_toldByOwnEntries 25 = .ok (.if_icmp .ne 26, 3) := by decide +kernel
theorem dX0_toldByOwnEntries_28 : decode cX0_toldByOwnEntries 28 = .ok (.iload_n 3, 1) := by decide +kernel
theorem dX0_toldByOwnEntries_29 : decode cX0_toldByOwnEntries 29 = .ok (.aload_n 0, 1) := by decide +kernel
theorem dX0_toldByOwnEntries_30 : decode cX0_toldByOwnEntries 30 = .ok (.iload_n 1, 1) := by decide +kernel
theorem dX0_toldByOwnEntries_31 : decode cX0_toldByOwnEntries 31 = .ok (.iload 4, 2) := by decide +kernel
theorem dX0_toldByOwnEntries_33 : decode cX0_toldByOwnEntries 33 = .ok (.iconst 0, 1) := by decide +kernel
theorem dX0_toldByOwnEntries_34 : decode cX0_toldByOwnEntries 34 = .ok (.invokevirtual 27, 3) := by decide +kernel
theorem dX0_toldByOwnEntries_37 : decode cX0_toldByOwnEntries 37 = .ok (.invokestatic 59, 3) := by decide +kernel
theorem dX0_toldByOwnEntries_40 : decode cX0_toldByOwnEntries 40 = .ok (.aload_n 0, 1) := by decide +kernel
theorem dX0_toldByOwnEntries_41 : decode cX0_toldByOwnEntries 41 = .ok (.iload_n 1, 1) := by decide +kernel
theorem dX0_toldByOwnEntries_42 : decode cX0_toldByOwnEntries 42 = .ok (.iload 4, 2) := by decide +kernel
theorem dX0_toldByOwnEntries_44 : decode cX0_toldByOwnEntries 44 = .ok (.iconst 3, 1) := by decide +kernel
theorem dX0_toldByOwnEntries_45 : decode cX0_toldByOwnEntries 45 = .ok (.invokevirtual 27, 3) := by decide +kernel
theorem dX0_toldByOwnEntries_48 : decode cX0_toldByOwnEntries 48 = .ok (.imul, 1) := by decide +kernel
theorem dX0_toldByOwnEntries_49 : decode cX0_toldByOwnEntries 49 = .ok (.iadd, 1) := by decide +kernel
theorem dX0_toldByOwnEntries_50 : decode cX0_toldByOwnEntries 50 = .ok (.istore_n 3, 1) := by decide +kernel
theorem dX0_toldByOwnEntries_51 : decode cX0_toldByOwnEntries 51 = .ok (.iinc 4 1, 3) := by decide +kernel
theorem dX0_toldByOwnEntries_54 : decode cX0_toldByOwnEntries 54 = .ok (.goto (-49), 3) := by decide +kernel
theorem dX0_toldByOwnEntries_57 : decode cX0_toldByOwnEntries 57 = .ok (.iload_n 3, 1) := by decide +kernel
theorem dX0_toldByOwnEntries_58 : decode cX0_toldByOwnEntries 58 = .ok (.ireturn, 1) := by decide +kernel
theorem dX0_row_0 : decode cX0_row 0 = .ok (.iload_n 0, 1) := by decide +kernel
theorem dX0_row_1 : decode cX0_row 1 = .ok (.bipush 30, 2) := by decide +kernel
theorem dX0_row_3 : decode cX0_row 3 = .ok (.imul, 1) := by decide +kernel
theorem dX0_row_4 : decode cX0_row 4 = .ok (.iload_n 1, 1) := by decide +kernel
theorem dX0_row_5 : decode cX0_row 5 = .ok (.iadd, 1) := by decide +kernel
theorem dX0_row_6 : decode cX0_row 6 = .ok (.ireturn, 1) := by decide +kernel
set_option maxRecDepth 20000 in
theorem ggX0_proofMade_X0_row : GoodIn wsX0_proofMade wsX0_row := goodIn_r _ [6] (by decide +kernel) (by decide +kernel)
set_option maxRecDepth 20000 in
theorem gX0_proofMade_X0_row : GoodIn wsX0_proofMade (va_wsS RX0 31 yX0_row wsX0_row) := goodIn_app (goodIn_of _ (by decide +kernel)) ggX0_proofMade_X0_row
theorem dX0_proofMade_0 : decode cX0_proofMade 0 = .ok (.iload_n 1, 1) := by decide +kernel
theorem dX0_proofMade_1 : decode cX0_proofMade 1 = .ok (.iload_n 2, 1) := by decide +kernel
theorem dX0_proofMade_2 : decode cX0_proofMade 2 = .ok (.invokestatic 31, 3) := by decide +kernel
theorem dX0_proofMade_5 : decode cX0_proofMade 5 = .ok (.istore_n 3, 1) := by decide +kernel
theorem dX0_proofMade_6 : decode cX0_proofMade 6 = .ok (.iload_n 2, 1) := by decide +kernel
theorem dX0_proofMade_7 : decode cX0_proofMade 7 = .ok (.ifCond .ne 8, 3) := by decide +kernel
theorem dX0_proofMade_10 : decode cX0_proofMade 10 = .ok (.bipush 17, 2) := by decide +kernel
theorem dX0_proofMade_12 : decode cX0_proofMade 12 = .ok (.goto 11, 3) := by decide +kernel
theorem dX0_proofMade_15 : decode cX0_proofMade 15 = .ok (.aload_n 0, 1) := by decide +kernel
theorem dX0_proofMade_16 : decode cX0_proofMade 16 = .ok (.getfield 18, 3) := by decide +kernel
theorem dX0_proofMade_19 : decode cX0_proofMade 19 = .ok (.iload_n 3, 1) := by decide +kernel
theorem dX0_proofMade_20 : decode cX0_proofMade 20 = .ok (.iconst 1, 1) := by decide +kernel
theorem dX0_proofMade_21 : decode cX0_proofMade 21 = .ok (.isub, 1) := by decide +kernel
theorem dX0_proofMade_22 : decode cX0_proofMade 22 = .ok (.iaload, 1) := by decide +kernel
theorem dX0_proofMade_23 : decode cX0_proofMade 23 = .ok (.istore 4, 2) := by decide +kernel
theorem dX0_proofMade_25 : decode cX0_proofMade 25 = .ok (.iconst 0, 1) := by decide +kernel
theorem dX0_proofMade_26 : decode cX0_proofMade 26 = .ok (.istore 5, 2) := by decide +kernel
theorem dX0_proofMade_28 : decode cX0_proofMade 28 = .ok (.iload 5, 2) := by decide +kernel
theorem dX0_proofMade_30 : decode cX0_proofMade 30 = .ok (.bipush 6, 2) := by decide +kernel
theorem dX0_proofMade_32 : decode cX0_proofMade 32 = .ok (.if_icmp .ge 29, 3) := by decide +kernel
theorem dX0_proofMade_35 : decode cX0_proofMade 35 = .ok (.bipush 31, 2) := by decide +kernel
theorem dX0_proofMade_37 : decode cX0_proofMade 37 = .ok (.iload 4, 2) := by decide +kernel
theorem dX0_proofMade_39 : decode cX0_proofMade 39 = .ok (.imul, 1) := by decide +kernel
theorem dX0_proofMade_40 : decode cX0_proofMade 40 = .ok (.aload_n 0, 1) := by decide +kernel
theorem dX0_proofMade_41 : decode cX0_proofMade 41 = .ok (.getfield 15, 3) := by decide +kernel
theorem dX0_proofMade_44 : decode cX0_proofMade 44 = .ok (.iload_n 3, 1) := by decide +kernel
theorem dX0_proofMade_45 : decode cX0_proofMade 45 = .ok (.bipush 6, 2) := by decide +kernel
theorem dX0_proofMade_47 : decode cX0_proofMade 47 = .ok (.imul, 1) := by decide +kernel
theorem dX0_proofMade_48 : decode cX0_proofMade 48 = .ok (.iload 5, 2) := by decide +kernel
theorem dX0_proofMade_50 : decode cX0_proofMade 50 = .ok (.iadd, 1) := by decide +kernel
theorem dX0_proofMade_51 : decode cX0_proofMade 51 = .ok (.iaload, 1) := by decide +kernel
theorem dX0_proofMade_52 : decode cX0_proofMade 52 = .ok (.iadd, 1) := by decide +kernel
theorem dX0_proofMade_53 : decode cX0_proofMade 53 = .ok (.istore 4, 2) := by decide +kernel
theorem dX0_proofMade_55 : decode cX0_proofMade 55 = .ok (.iinc 5 1, 3) := by decide +kernel
theorem dX0_proofMade_58 : decode cX0_proofMade 58 = .ok (.goto (-30), 3) := by decide +kernel
theorem dX0_proofMade_61 : decode cX0_proofMade 61 = .ok (.iload 4, 2) := by decide +kernel
theorem dX0_proofMade_63 : decode cX0_proofMade 63 = .ok (.ireturn, 1) := by decide +kernel
theorem dX0_witnesses_0 : decode cX0_witnesses 0 = .ok (.iconst 1, 1) := by decide +kernel
theorem dX0_witnesses_1 : decode cX0_witnesses 1 = .ok (.iload_n 1, 1) := by decide +kernel
theorem dX0_witnesses_2 : decode cX0_witnesses 2 = .ok (.ishl, 1) := by decide +kernel
theorem dX0_witnesses_3 : decode cX0_witnesses 3 = .ok (.istore_n 3, 1) := by decide +kernel
theorem dX0_witnesses_4 : decode cX0_witnesses 4 = .ok (.iload_n 0, 1) := by decide +kernel
theorem dX0_witnesses_5 : decode cX0_witnesses 5 = .ok (.bipush 7, 2) := by decide +kernel
theorem dX0_witnesses_7 : decode cX0_witnesses 7 = .ok (.if_icmp .ne 9, 3) := by decide +kernel
theorem dX0_witnesses_10 : decode cX0_witnesses 10 = .ok (.iload_n 3, 1) := by decide +kernel
theorem dX0_witnesses_11 : decode cX0_witnesses 11 = .ok (.iconst 1, 1) := by decide +kernel
theorem dX0_witnesses_12 : decode cX0_witnesses 12 = .ok (.iload_n 2, 1) := by decide +kernel
theorem dX0_witnesses_13 : decode cX0_witnesses 13 = .ok (.ishl, 1) := by decide +kernel
theorem dX0_witnesses_14 : decode cX0_witnesses 14 = .ok (.ior, 1) := by decide +kernel
theorem dX0_witnesses_15 : decode cX0_witnesses 15 = .ok (.istore_n 3, 1) := by decide +kernel
theorem dX0_witnesses_16 : decode cX0_witnesses 16 = .ok (.iload_n 0, 1) := by decide +kernel
theorem dX0_witnesses_17 : decode cX0_witnesses 17 = .ok (.iconst 5, 1) := by decide +kernel
theorem dX0_witnesses_18 : decode cX0_witnesses 18 = .ok (.if_icmp .eq 8, 3) := by decide +kernel
theorem dX0_witnesses_21 : decode cX0_witnesses 21 = .ok (.iload_n 0, 1) := by decide +kernel
theorem dX0_witnesses_22 : decode cX0_witnesses 22 = .ok (.iconst 3, 1) := by decide +kernel
theorem dX0_witnesses_23 : decode cX0_witnesses 23 = .ok (.if_icmp .ne 8, 3) := by decide +kernel
theorem dX0_witnesses_26 : decode cX0_witnesses 26 = .ok (.iload_n 3, 1) := by decide +kernel
theorem dX0_witnesses_27 : decode cX0_witnesses 27 = .ok (.bipush 64, 2) := by decide +kernel
theorem dX0_witnesses_29 : decode cX0_witnesses 29 = .ok (.ior, 1) := by decide +kernel
theorem dX0_witnesses_30 : decode cX0_witnesses 30 = .ok (.istore_n 3, 1) := by decide +kernel
theorem dX0_witnesses_31 : decode cX0_witnesses 31 = .ok (.iload_n 3, 1) := by decide +kernel
theorem dX0_witnesses_32 : decode cX0_witnesses 32 = .ok (.ireturn, 1) := by decide +kernel
set_option maxRecDepth 20000 in
theorem ggX0_toldPallets_X0_number : GoodIn wsX0_toldPallets wsX0_number := goodIn_r _ [6, 7, 8, 9, 5, 10, 11, 12, 13, 14, 15] (by decide +kernel) (by decide +kernel)
set_option maxRecDepth 20000 in
theorem gX0_toldPallets_X0_number : GoodIn wsX0_toldPallets (wsV RX0 27 RX0 yX0_number wsX0_number) := goodIn_app (goodIn_of _ (by decide +kernel)) ggX0_toldPallets_X0_number
theorem dX0_toldPallets_0 : decode cX0_toldPallets 0 = .ok (.iconst 0, 1) := by decide +kernel
theorem dX0_toldPallets_1 : decode cX0_toldPallets 1 = .ok (.istore_n 3, 1) := by decide +kernel
theorem dX0_toldPallets_2 : decode cX0_toldPallets 2 = .ok (.iconst 0, 1) := by decide +kernel
theorem dX0_toldPallets_3 : decode cX0_toldPallets 3 = .ok (.istore 4, 2) := by decide +kernel
theorem dX0_toldPallets_5 : decode cX0_toldPallets 5 = .ok (.iload 4, 2) := by decide +kernel
theorem dX0_toldPallets_7 : decode cX0_toldPallets 7 = .ok (.aload_n 0, 1) := by decide +kernel
theorem dX0_toldPallets_8 : decode cX0_toldPallets 8 = .ok (.getfield 9, 3) := by decide +kernel
theorem dX0_toldPallets_11 : decode cX0_toldPallets 11 = .ok (.iload_n 1, 1) := by decide +kernel
theorem dX0_toldPallets_12 : decode cX0_toldPallets 12 = .ok (.iaload, 1) := by decide +kernel
theorem dX0_toldPallets_13 : decode cX0_toldPallets 13 = .ok (.if_icmp .ge 48, 3) := by decide +kernel
theorem dX0_toldPallets_16 : decode cX0_toldPallets 16 = .ok (.aload_n 0, 1) := by decide +kernel
theorem dX0_toldPallets_17 : decode cX0_toldPallets 17 = .ok (.iload_n 1, 1) := by decide +kernel
theorem dX0_toldPallets_18 : decode cX0_toldPallets 18 = .ok (.iload 4, 2) := by decide +kernel
theorem dX0_toldPallets_20 : decode cX0_toldPallets 20 = .ok (.iconst 0, 1) := by decide +kernel
theorem dX0_toldPallets_21 : decode cX0_toldPallets 21 = .ok (.invokevirtual 27, 3) := by decide +kernel
theorem dX0_toldPallets_24 : decode cX0_toldPallets 24 = .ok (.istore 5, 2) := by decide +kernel
theorem dX0_toldPallets_26 : decode cX0_toldPallets 26 = .ok (.iload 5, 2) := by decide +kernel
theorem dX0_toldPallets_28 : decode cX0_toldPallets 28 = .ok (.iconst 5, 1) := by decide +kernel
theorem dX0_toldPallets_29 : decode cX0_toldPallets 29 = .ok (.if_icmp .eq 13, 3) := by decide +kernel
theorem dX0_toldPallets_32 : decode cX0_toldPallets 32 = .ok (.iload 5, 2) := by decide +kernel
theorem dX0_toldPallets_34 : decode cX0_toldPallets 34 = .ok (.iconst 4, 1) := by decide +kernel
theorem dX0_toldPallets_35 : decode cX0_toldPallets 35 = .ok (.if_icmp .ne 20, 3) := by decide +kernel
theorem dX0_toldPallets_38 : decode cX0_toldPallets 38 = .ok (.iload_n 2, 1) := by decide +kernel
theorem dX0_toldPallets_39 : decode cX0_toldPallets 39 = .ok (.ifCond .eq 16, 3) := by decide +kernel
theorem dX0_toldPallets_42 : decode cX0_toldPallets 42 = .ok (.iload_n 3, 1) := by decide +kernel
theorem dX0_toldPallets_43 : decode cX0_toldPallets 43 = .ok (.iconst 1, 1) := by decide +kernel
theorem dX0_toldPallets_44 : decode cX0_toldPallets 44 = .ok (.aload_n 0, 1) := by decide +kernel
theorem dX0_toldPallets_45 : decode cX0_toldPallets 45 = .ok (.iload_n 1, 1) := by decide +kernel
theorem dX0_toldPallets_46 : decode cX0_toldPallets 46 = .ok (.iload 4, 2) := by decide +kernel
theorem dX0_toldPallets_48 : decode cX0_toldPallets 48 = .ok (.iconst 4, 1) := by decide +kernel
theorem dX0_toldPallets_49 : decode cX0_toldPallets 49 = .ok (.invokevirtual 27, 3) := by decide +kernel
theorem dX0_toldPallets_52 : decode cX0_toldPallets 52 = .ok (.ishl, 1) := by decide +kernel
theorem dX0_toldPallets_53 : decode cX0_toldPallets 53 = .ok (.ior, 1) := by decide +kernel
theorem dX0_toldPallets_54 : decode cX0_toldPallets 54 = .ok (.istore_n 3, 1) := by decide +kernel
theorem dX0_toldPallets_55 : decode cX0_toldPallets 55 = .ok (.iinc 4 1, 3) := by decide +kernel
theorem dX0_toldPallets_58 : decode cX0_toldPallets 58 = .ok (.goto (-53), 3) := by decide +kernel
theorem dX0_toldPallets_61 : decode cX0_toldPallets 61 = .ok (.iload_n 3, 1) := by decide +kernel
theorem dX0_toldPallets_62 : decode cX0_toldPallets 62 = .ok (.ireturn, 1) := by decide +kernel
theorem dX0_sign_0 : decode cX0_sign 0 = .ok (.iload_n 0, 1) := by decide +kernel
theorem dX0_sign_1 : decode cX0_sign 1 = .ok (.tableswitch 35 1 4 #[31, 33, 33, 31], 31) := by decide +kernel
theorem dX0_sign_32 : decode cX0_sign 32 = .ok (.iconst 1, 1) := by decide +kernel
theorem dX0_sign_33 : decode cX0_sign 33 = .ok (.ireturn, 1) := by decide +kernel
theorem dX0_sign_34 : decode cX0_sign 34 = .ok (.iconst (-1), 1) := by decide +kernel
theorem dX0_sign_35 : decode cX0_sign 35 = .ok (.ireturn, 1) := by decide +kernel
theorem dX0_sign_36 : decode cX0_sign 36 = .ok (.iconst 0, 1) := by decide +kernel
theorem dX0_sign_37 : decode cX0_sign 37 = .ok (.ireturn, 1) := by decide +kernel
end
section
set_option maxRecDepth 20000 in
theorem ggX1_init_X0_init : GoodIn wsX1_init wsX0_init := goodIn_r _ [15, 16, 2, 3, 8, 17, 18, 19, 20, 21, 22, 23, 24, 25, 26] (by decide +kernel) (by decide +kernel)
set_option maxRecDepth 20000 in
theorem gX1_init_X0_init_n9 : GoodIn wsX1_init (wsX0_init) := ggX1_init_X0_init
theorem dX1_init_0 : decode cX1_init 0 = .ok (.aload_n 0, 1) := by decide +kernel
theorem dX1_init_1 : decode cX1_init 1 = .ok (.invokespecial 1, 3) := by decide +kernel
theorem dX1_init_4 : decode cX1_init 4 = .ok (.aload_n 0, 1) := by decide +kernel
theorem dX1_init_5 : decode cX1_init 5 = .ok (.new 7, 3) := by decide +kernel
theorem dX1_init_8 : decode cX1_init 8 = .ok (.dup, 1) := by decide +kernel
theorem dX1_init_9 : decode cX1_init 9 = .ok (.invokespecial 9, 3) := by decide +kernel
theorem dX1_init_12 : decode cX1_init 12 = .ok (.putfield 10, 3) := by decide +kernel
theorem dX1_init_15 : decode cX1_init 15 = .ok (.aload_n 0, 1) := by decide +kernel
theorem dX1_init_16 : decode cX1_init 16 = .ok (.bipush 14, 2) := by decide +kernel
theorem dX1_init_18 : decode cX1_init 18 = .ok (.newarray .int, 2) := by decide +kernel
theorem dX1_init_20 : decode cX1_init 20 = .ok (.putfield 16, 3) := by decide +kernel
theorem dX1_init_23 : decode cX1_init 23 = .ok (.aload_n 0, 1) := by decide +kernel
theorem dX1_init_24 : decode cX1_init 24 = .ok (.bipush 84, 2) := by decide +kernel
theorem dX1_init_26 : decode cX1_init 26 = .ok (.newarray .int, 2) := by decide +kernel
theorem dX1_init_28 : decode cX1_init 28 = .ok (.putfield 20, 3) := by decide +kernel
theorem dX1_init_31 : decode cX1_init 31 = .ok (.aload_n 0, 1) := by decide +kernel
theorem dX1_init_32 : decode cX1_init 32 = .ok (.bipush 12, 2) := by decide +kernel
theorem dX1_init_34 : decode cX1_init 34 = .ok (.newarray .int, 2) := by decide +kernel
theorem dX1_init_36 : decode cX1_init 36 = .ok (.putfield 23, 3) := by decide +kernel
theorem dX1_init_39 : decode cX1_init 39 = .ok (.aload_n 0, 1) := by decide +kernel
theorem dX1_init_40 : decode cX1_init 40 = .ok (.bipush 10, 2) := by decide +kernel
theorem dX1_init_42 : decode cX1_init 42 = .ok (.newarray .int, 2) := by decide +kernel
theorem dX1_init_44 : decode cX1_init 44 = .ok (.putfield 26, 3) := by decide +kernel
theorem dX1_init_47 : decode cX1_init 47 = .ok (.aload_n 0, 1) := by decide +kernel
theorem dX1_init_48 : decode cX1_init 48 = .ok (.bipush 7, 2) := by decide +kernel
theorem dX1_init_50 : decode cX1_init 50 = .ok (.newarray .int, 2) := by decide +kernel
theorem dX1_init_52 : decode cX1_init 52 = .ok (.putfield 29, 3) := by decide +kernel
theorem dX1_init_55 : decode cX1_init 55 = .ok (.iconst 0, 1) := by decide +kernel
theorem dX1_init_56 : decode cX1_init 56 = .ok (.istore_n 1, 1) := by decide +kernel
theorem dX1_init_57 : decode cX1_init 57 = .ok (.iload_n 1, 1) := by decide +kernel
theorem dX1_init_58 : decode cX1_init 58 = .ok (.bipush 10, 2) := by decide +kernel
theorem dX1_init_60 : decode cX1_init 60 = .ok (.if_icmp .ge 18, 3) := by decide +kernel
theorem dX1_init_63 : decode cX1_init 63 = .ok (.aload_n 0, 1) := by decide +kernel
theorem dX1_init_64 : decode cX1_init 64 = .ok (.getfield 26, 3) := by decide +kernel
theorem dX1_init_67 : decode cX1_init 67 = .ok (.iload_n 1, 1) := by decide +kernel
theorem dX1_init_68 : decode cX1_init 68 = .ok (.iload_n 1, 1) := by decide +kernel
theorem dX1_init_69 : decode cX1_init 69 = .ok (.iconst 1, 1) := by decide +kernel
theorem dX1_init_70 : decode cX1_init 70 = .ok (.iadd, 1) := by decide +kernel
theorem dX1_init_71 : decode cX1_init 71 = .ok (.iastore, 1) := by decide +kernel
theorem dX1_init_72 : decode cX1_init 72 = .ok (.iinc 1 1, 3) := by decide +kernel
theorem dX1_init_75 : decode cX1_init 75 = .ok (.goto (-18), 3) := by decide +kernel
theorem dX1_init_78 : decode cX1_init 78 = .ok (.return_, 1) := by decide +kernel
set_option maxRecDepth 20000 in
theorem ggX1_make_X1_isDock : GoodIn wsX1_make wsX1_isDock := goodIn_r _ [5] (by decide +kernel) (by decide +kernel)
set_option maxRecDepth 20000 in
theorem gX1_make_X1_isDock : GoodIn wsX1_make (va_wsS RX1 32 yX1_isDock wsX1_isDock) := goodIn_app (goodIn_of _ (by decide +kernel)) ggX1_make_X1_isDock
set_option maxRecDepth 20000 in
theorem ggX1_make_X1_needThere : GoodIn wsX1_make wsX1_needThere := goodIn_ca (goodIn_r _ [8, 9, 10] (by decide +kernel) (by decide +kernel)) (goodIn_sub (fun _ h => List.mem_cons_of_mem _ (List.mem_append_left _ (List.mem_append_right _ h))) (by decide +kernel))
set_option maxRecDepth 20000 in
theorem gX1_make_X1_needThere : GoodIn wsX1_make (va_wsS RX1 36 yX1_needThere wsX1_needThere) := goodIn_app (goodIn_of _ (by decide +kernel)) ggX1_make_X1_needThere
set_option maxRecDepth 20000 in
theorem ggX1_make_X1_needState : GoodIn wsX1_make wsX1_needState := goodIn_ca (goodIn_r _ [13, 14, 15] (by decide +kernel) (by decide +kernel)) (goodIn_sub (fun _ h => List.mem_cons_of_mem _ (List.mem_append_right _ h)) (by decide +kernel))
set_option maxRecDepth 20000 in
theorem gX1_make_X1_needState : GoodIn wsX1_make (va_wsS RX1 44 yX1_needState wsX1_needState) := goodIn_app (goodIn_of _ (by decide +kernel)) ggX1_make_X1_needState
set_option maxRecDepth 20000 in
theorem ggX1_make_X1_stand : GoodIn wsX1_make wsX1_stand := goodIn_r _ [19, 1, 20, 48, 49, 50, 51, 52, 53, 54] (by decide +kernel) (by decide +kernel)
set_option maxRecDepth 20000 in
theorem gX1_make_X1_stand : GoodIn wsX1_make (wsV RX1 47 RX1 yX1_stand wsX1_stand) := goodIn_app (goodIn_of _ (by decide +kernel)) ggX1_make_X1_stand
set_option maxRecDepth 20000 in
theorem ggX1_make_X1_write : GoodIn wsX1_make wsX1_write := goodIn_r _ [24, 20, 25, 26, 27, 28, 29, 30, 31, 32, 33, 34, 35, 36, 37, 38, 39, 40, 41, 42, 43, 44, 45, 46, 47, 48, 49, 50, 51, 52, 53, 54, 55, 56, 57, 58, 59] (by decide +kernel) (by decide +kernel)
set_option maxRecDepth 20000 in
theorem gX1_make_X1_write : GoodIn wsX1_make (wsV RX1 51 RX1 yX1_write wsX1_write) := goodIn_app (goodIn_of _ (by decide +kernel)) ggX1_make_X1_write
theorem dX1_make_0 : decode cX1_make 0 = .ok (.iload_n 1, 1) := by decide +kernel
theorem dX1_make_1 : decode cX1_make 1 = .ok (.invokestatic 32, 3) := by decide +kernel
theorem dX1_make_4 : decode cX1_make 4 = .ok (.invokestatic 36, 3) := by decide +kernel
theorem dX1_make_7 : decode cX1_make 7 = .ok (.aload_n 0, 1) := by decide +kernel
theorem dX1_make_8 : decode cX1_make 8 = .ok (.getfield 40, 3) := by decide +kernel
theorem dX1_make_11 : decode cX1_make 11 = .ok (.bipush 14, 2) := by decide +kernel
theorem dX1_make_13 : decode cX1_make 13 = .ok (.if_icmp .ge 7, 3) := by decide +kernel
theorem dX1_make_16 : decode cX1_make 16 = .ok (.iconst 1, 1) := by decide +kernel
theorem dX1_make_17 : decode cX1_make 17 = .ok (.goto 4, 3) := by decide +kernel
theorem dX1_make_20 : decode cX1_make 20 = .ok (.iconst 0, 1) := by decide +kernel
theorem dX1_make_21 : decode cX1_make 21 = .ok (.invokestatic 44, 3) := by decide +kernel
theorem dX1_make_24 : decode cX1_make 24 = .ok (.aload_n 0, 1) := by decide +kernel
theorem dX1_make_25 : decode cX1_make 25 = .ok (.iload_n 1, 1) := by decide +kernel
theorem dX1_make_26 : decode cX1_make 26 = .ok (.invokevirtual 47, 3) := by decide +kernel
theorem dX1_make_29 : decode cX1_make 29 = .ok (.istore_n 2, 1) := by decide +kernel
theorem dX1_make_30 : decode cX1_make 30 = .ok (.aload_n 0, 1) := by decide +kernel
theorem dX1_make_31 : decode cX1_make 31 = .ok (.iload_n 2, 1) := by decide +kernel
theorem dX1_make_32 : decode cX1_make 32 = .ok (.iconst 0, 1) := by decide +kernel
theorem dX1_make_33 : decode cX1_make 33 = .ok (.iconst 0, 1) := by decide +kernel
theorem dX1_make_34 : decode cX1_make 34 = .ok (.iconst 0, 1) := by decide +kernel
theorem dX1_make_35 : decode cX1_make 35 = .ok (.iconst 0, 1) := by decide +kernel
theorem dX1_make_36 : decode cX1_make 36 = .ok (.iconst 0, 1) := by decide +kernel
theorem dX1_make_37 : decode cX1_make 37 = .ok (.invokevirtual 51, 3) := by decide +kernel
theorem dX1_make_40 : decode cX1_make 40 = .ok (.iload_n 2, 1) := by decide +kernel
theorem dX1_make_41 : decode cX1_make 41 = .ok (.ireturn, 1) := by decide +kernel
set_option maxRecDepth 20000 in
theorem ggX1_load_X1_isPallet : GoodIn wsX1_load wsX1_isPallet := goodIn_r _ [7, 8, 122, 123, 124, 125, 126, 127, 128] (by decide +kernel) (by decide +kernel)
set_option maxRecDepth 20000 in
theorem gX1_load_X1_isPallet : GoodIn wsX1_load (wsV RX1 55 RX1 yX1_isPallet wsX1_isPallet) := goodIn_app (goodIn_of _ (by decide +kernel)) ggX1_load_X1_isPallet
set_option maxRecDepth 20000 in
theorem ggX1_load_X1_isGood : GoodIn wsX1_load wsX1_isGood := goodIn_r _ [11] (by decide +kernel) (by decide +kernel)
set_option maxRecDepth 20000 in
theorem gX1_load_X1_isGood : GoodIn wsX1_load (va_wsS RX1 58 yX1_isGood wsX1_isGood) := goodIn_app (goodIn_of _ (by decide +kernel)) ggX1_load_X1_isGood
set_option maxRecDepth 20000 in
theorem ggX1_load_X1_needThere : GoodIn wsX1_load wsX1_needThere := goodIn_ca (goodIn_r _ [14, 15, 16] (by decide +kernel) (by decide +kernel)) (goodIn_sub (fun _ h => List.mem_cons_of_mem _ (List.mem_append_left _ (List.mem_append_left _ (List.mem_append_right _ h)))) (by decide +kernel))
set_option maxRecDepth 20000 in
theorem gX1_load_X1_needThere : GoodIn wsX1_load (va_wsS RX1 36 yX1_needThere wsX1_needThere) := goodIn_app (goodIn_of _ (by decide +kernel)) ggX1_load_X1_needThere
set_option maxRecDepth 20000 in
theorem ggX1_load_X1_isWithin : GoodIn wsX1_load wsX1_isWithin := goodIn_r _ [19] (by decide +kernel) (by decide +kernel)
set_option maxRecDepth 20000 in
theorem gX1_load_X1_isWithin : GoodIn wsX1_load (va_wsS RX1 61 yX1_isWithin wsX1_isWithin) := goodIn_app (goodIn_of _ (by decide +kernel)) ggX1_load_X1_isWithin
set_option maxRecDepth 20000 in
theorem ggX1_load_X1_needRange : GoodIn wsX1_load wsX1_needRange := goodIn_ca (goodIn_r _ [22, 23, 24] (by decide +kernel) (by decide +kernel)) (goodIn_sub (fun _ h => List.mem_cons_of_mem _ (List.mem_append_left _ (List.mem_append_right _ h))) (by decide +kernel))
set_option maxRecDepth 20000 in
theorem gX1_load_X1_needRange : GoodIn wsX1_load (va_wsS RX1 65 yX1_needRange wsX1_needRange) := goodIn_app (goodIn_of _ (by decide +kernel)) ggX1_load_X1_needRange
set_option maxRecDepth 20000 in
theorem ggX1_load_X1_isWorkable : GoodIn wsX1_load wsX1_isWorkable := goodIn_r _ [28, 29, 30, 31, 32, 6, 33, 34, 35, 36, 37, 38, 39, 40, 41, 42, 43, 44, 45, 46, 47, 48, 49, 50, 51, 52, 53, 54, 55, 56, 57, 58, 59, 8, 60, 61, 62, 63, 64, 65, 66, 67, 68, 69, 70, 71, 72, 73, 74, 75, 76, 77, 78, 79, 80, 81, 82, 83, 84, 85, 86, 87, 122, 123, 124, 125, 126, 127, 128, 129, 130, 131, 132, 133] (by decide +kernel) (by decide +kernel)
set_option maxRecDepth 20000 in
theorem gX1_load_X1_isWorkable : GoodIn wsX1_load (wsV RX1 68 RX1 yX1_isWorkable wsX1_isWorkable) := goodIn_app (goodIn_of _ (by decide +kernel)) ggX1_load_X1_isWorkable
set_option maxRecDepth 20000 in
theorem ggX1_load_X1_weightOfOne : GoodIn wsX1_load wsX1_weightOfOne := goodIn_r _ [90] (by decide +kernel) (by decide +kernel)
set_option maxRecDepth 20000 in
theorem gX1_load_X1_weightOfOne : GoodIn wsX1_load (va_wsS RX1 71 yX1_weightOfOne wsX1_weightOfOne) := goodIn_app (goodIn_of _ (by decide +kernel)) ggX1_load_X1_weightOfOne
set_option maxRecDepth 20000 in
theorem ggX1_load_X1_hasRoom : GoodIn wsX1_load wsX1_hasRoom := goodIn_r _ [94, 8, 2, 95, 96, 6, 97, 98, 99, 100, 101, 1, 88, 89, 90, 122, 123, 124, 125, 126, 127, 128] (by decide +kernel) (by decide +kernel)
set_option maxRecDepth 20000 in
theorem gX1_load_X1_hasRoom : GoodIn wsX1_load (wsV RX1 74 RX1 yX1_hasRoom wsX1_hasRoom) := goodIn_app (goodIn_of _ (by decide +kernel)) ggX1_load_X1_hasRoom
set_option maxRecDepth 20000 in
theorem ggX1_load_X1_needState : GoodIn wsX1_load wsX1_needState := goodIn_ca (goodIn_r _ [104, 105, 106] (by decide +kernel) (by decide +kernel)) (goodIn_sub (fun _ h => List.mem_cons_of_mem _ (List.mem_append_right _ h)) (by decide +kernel))
set_option maxRecDepth 20000 in
theorem gX1_load_X1_needState : GoodIn wsX1_load (va_wsS RX1 44 yX1_needState wsX1_needState) := goodIn_app (goodIn_of _ (by decide +kernel)) ggX1_load_X1_needState
set_option maxRecDepth 20000 in
theorem ggX1_load_X1_write : GoodIn wsX1_load wsX1_write := goodIn_r _ [110, 2, 29, 111, 112, 113, 114, 115, 37, 116, 39, 44, 83, 117, 118, 45, 46, 47, 84, 85, 86, 87, 119, 120, 121, 122, 123, 124, 125, 126, 127, 128, 129, 130, 131, 132, 133] (by decide +kernel) (by decide +kernel)
set_option maxRecDepth 20000 in
theorem gX1_load_X1_write : GoodIn wsX1_load (wsV RX1 51 RX1 yX1_write wsX1_write) := goodIn_app (goodIn_of _ (by decide +kernel)) ggX1_load_X1_write
theorem dX1_load_0 : decode cX1_load 0 = .ok (.aload_n 0, 1) := by decide +kernel
theorem dX1_load_1 : decode cX1_load 1 = .ok (.iload_n 1, 1) := by decide +kernel
theorem dX1_load_2 : decode cX1_load 2 = .ok (.invokevirtual 55, 3) := by decide +kernel
theorem dX1_load_5 : decode cX1_load 5 = .ok (.ifCond .eq 14, 3) := by decide +kernel
theorem dX1_load_8 : decode cX1_load 8 = .ok (.iload_n 2, 1) := by decide +kernel
theorem dX1_load_9 : decode cX1_load 9 = .ok (.invokestatic 58, 3) := by decide +kernel
theorem dX1_load_12 : decode cX1_load 12 = .ok (.ifCond .eq 7, 3) := by decide +kernel
theorem dX1_load_15 : decode cX1_load 15 = .ok (.iconst 1, 1) := by decide +kernel
theorem dX1_load_16 : decode cX1_load 16 = .ok (.goto 4, 3) := by decide +kernel
theorem dX1_load_19 : decode cX1_load 19 = .ok (.iconst 0, 1) := by decide +kernel
theorem dX1_load_20 : decode cX1_load 20 = .ok (.invokestatic 36, 3) := by decide +kernel
theorem dX1_load_23 : decode cX1_load 23 = .ok (.iload_n 3, 1) := by decide +kernel
theorem dX1_load_24 : decode cX1_load 24 = .ok (.ifCond .eq 18, 3) := by decide +kernel
theorem dX1_load_27 : decode cX1_load 27 = .ok (.iload_n 3, 1) := by decide +kernel
theorem dX1_load_28 : decode cX1_load 28 = .ok (.bipush (-99), 2) := by decide +kernel
theorem dX1_load_30 : decode cX1_load 30 = .ok (.bipush 99, 2) := by decide +kernel
theorem dX1_load_32 : decode cX1_load 32 = .ok (.invokestatic 61, 3) := by decide +kernel
theorem dX1_load_35 : decode cX1_load 35 = .ok (.ifCond .eq 7, 3) := by decide +kernel
theorem dX1_load_38 : decode cX1_load 38 = .ok (.iconst 1, 1) := by decide +kernel
theorem dX1_load_39 : decode cX1_load 39 = .ok (.goto 4, 3) := by decide +kernel
theorem dX1_load_42 : decode cX1_load 42 = .ok (.iconst 0, 1) := by decide +kernel
theorem dX1_load_43 : decode cX1_load 43 = .ok (.invokestatic 65, 3) := by decide +kernel
theorem dX1_load_46 : decode cX1_load 46 = .ok (.aload_n 0, 1) := by decide +kernel
theorem dX1_load_47 : decode cX1_load 47 = .ok (.getfield 20, 3) := by decide +kernel
theorem dX1_load_50 : decode cX1_load 50 = .ok (.iload_n 1, 1) := by decide +kernel
theorem dX1_load_51 : decode cX1_load 51 = .ok (.bipush 6, 2) := by decide +kernel
theorem dX1_load_53 : decode cX1_load 53 = .ok (.imul, 1) := by decide +kernel
theorem dX1_load_54 : decode cX1_load 54 = .ok (.iload_n 2, 1) := by decide +kernel
theorem dX1_load_55 : decode cX1_load 55 = .ok (.iadd, 1) := by decide +kernel
theorem dX1_load_56 : decode cX1_load 56 = .ok (.iaload, 1) := by decide +kernel
theorem dX1_load_57 : decode cX1_load 57 = .ok (.iload_n 3, 1) := by decide +kernel
theorem dX1_load_58 : decode cX1_load 58 = .ok (.iadd, 1) := by decide +kernel
theorem dX1_load_59 : decode cX1_load 59 = .ok (.istore 4, 2) := by decide +kernel
theorem dX1_load_61 : decode cX1_load 61 = .ok (.aload_n 0, 1) := by decide +kernel
theorem dX1_load_62 : decode cX1_load 62 = .ok (.iload_n 1, 1) := by decide +kernel
theorem dX1_load_63 : decode cX1_load 63 = .ok (.invokevirtual 68, 3) := by decide +kernel
theorem dX1_load_66 : decode cX1_load 66 = .ok (.ifCond .eq 38, 3) := by decide +kernel
theorem dX1_load_69 : decode cX1_load 69 = .ok (.iload 4, 2) := by decide +kernel
theorem dX1_load_71 : decode cX1_load 71 = .ok (.iconst 0, 1) := by decide +kernel
theorem dX1_load_72 : decode cX1_load 72 = .ok (.sipush 999, 3) := by decide +kernel
theorem dX1_load_75 : decode cX1_load 75 = .ok (.invokestatic 61, 3) := by decide +kernel
theorem dX1_load_78 : decode cX1_load 78 = .ok (.ifCond .eq 26, 3) := by decide +kernel
theorem dX1_load_81 : decode cX1_load 81 = .ok (.aload_n 0, 1) := by decide +kernel
theorem dX1_load_82 : decode cX1_load 82 = .ok (.aload_n 0, 1) := by decide +kernel
theorem dX1_load_83 : decode cX1_load 83 = .ok (.getfield 16, 3) := by decide +kernel
theorem dX1_load_86 : decode cX1_load 86 = .ok (.iload_n 1, 1) := by decide +kernel
theorem dX1_load_87 : decode cX1_load 87 = .ok (.iaload, 1) := by decide +kernel
theorem dX1_load_88 : decode cX1_load 88 = .ok (.iload_n 3, 1) := by decide +kernel
theorem dX1_load_89 : decode cX1_load 89 = .ok (.iload_n 2, 1) := by decide +kernel
theorem dX1_load_90 : decode cX1_load 90 = .ok (.invokestatic 71, 3) := by decide +kernel
theorem dX1_load_93 : decode cX1_load 93 = .ok (.imul, 1) := by decide +kernel
theorem dX1_load_94 : decode cX1_load 94 = .ok (.invokevirtual 74, 3) := by decide +kernel
theorem dX1_load_97 : decode cX1_load 97 = .ok (.ifCond .eq 7, 3) := by decide +kernel
theorem dX1_load_100 : decode cX1_load 100 = .ok (.iconst 1, 1) := by decide +kernel
theorem dX1_load_101 : decode cX1_load 101 = .ok (.goto 4, 3) := by decide +kernel
theorem dX1_load_104 : decode cX1_load 104 = .ok (.iconst 0, 1) := by decide +kernel
theorem dX1_load_105 : decode cX1_load 105 = .ok (.invokestatic 44, 3) := by decide +kernel
theorem dX1_load_108 : decode cX1_load 108 = .ok (.aload_n 0, 1) := by decide +kernel
theorem dX1_load_109 : decode cX1_load 109 = .ok (.getfield 20, 3) := by decide +kernel
theorem dX1_load_112 : decode cX1_load 112 = .ok (.iload_n 1, 1) := by decide +kernel
theorem dX1_load_113 : decode cX1_load 113 = .ok (.bipush 6, 2) := by decide +kernel
theorem dX1_load_115 : decode cX1_load 115 = .ok (.imul, 1) := by decide +kernel
theorem dX1_load_116 : decode cX1_load 116 = .ok (.iload_n 2, 1) := by decide +kernel
theorem dX1_load_117 : decode cX1_load 117 = .ok (.iadd, 1) := by decide +kernel
theorem dX1_load_118 : decode cX1_load 118 = .ok (.iload 4, 2) := by decide +kernel
theorem dX1_load_120 : decode cX1_load 120 = .ok (.iastore, 1) := by decide +kernel
theorem dX1_load_121 : decode cX1_load 121 = .ok (.iload_n 3, 1) := by decide +kernel
theorem dX1_load_122 : decode cX1_load 122 = .ok (.ifCond .le 16, 3) := by decide +kernel
theorem dX1_load_125 : decode cX1_load 125 = .ok (.aload_n 0, 1) := by decide +kernel
theorem dX1_load_126 : decode cX1_load 126 = .ok (.iload_n 1, 1) := by decide +kernel
theorem dX1_load_127 : decode cX1_load 127 = .ok (.iconst 1, 1) := by decide +kernel
theorem dX1_load_128 : decode cX1_load 128 = .ok (.iload_n 2, 1) := by decide +kernel
theorem dX1_load_129 : decode cX1_load 129 = .ok (.iload_n 3, 1) := by decide +kernel
theorem dX1_load_130 : decode cX1_load 130 = .ok (.iconst 0, 1) := by decide +kernel
theorem dX1_load_131 : decode cX1_load 131 = .ok (.iconst 0, 1) := by decide +kernel
theorem dX1_load_132 : decode cX1_load 132 = .ok (.invokevirtual 51, 3) := by decide +kernel
theorem dX1_load_135 : decode cX1_load 135 = .ok (.goto 14, 3) := by decide +kernel
theorem dX1_load_138 : decode cX1_load 138 = .ok (.aload_n 0, 1) := by decide +kernel
theorem dX1_load_139 : decode cX1_load 139 = .ok (.iload_n 1, 1) := by decide +kernel
theorem dX1_load_140 : decode cX1_load 140 = .ok (.iconst 2, 1) := by decide +kernel
theorem dX1_load_141 : decode cX1_load 141 = .ok (.iload_n 2, 1) := by decide +kernel
theorem dX1_load_142 : decode cX1_load 142 = .ok (.iload_n 3, 1) := by decide +kernel
theorem dX1_load_143 : decode cX1_load 143 = .ok (.ineg, 1) := by decide +kernel
theorem dX1_load_144 : decode cX1_load 144 = .ok (.iconst 0, 1) := by decide +kernel
theorem dX1_load_145 : decode cX1_load 145 = .ok (.iconst 0, 1) := by decide +kernel
theorem dX1_load_146 : decode cX1_load 146 = .ok (.invokevirtual 51, 3) := by decide +kernel
theorem dX1_load_149 : decode cX1_load 149 = .ok (.iload 4, 2) := by decide +kernel
theorem dX1_load_151 : decode cX1_load 151 = .ok (.ireturn, 1) := by decide +kernel
set_option maxRecDepth 20000 in
theorem ggX1_part_X1_isPallet : GoodIn wsX1_part wsX1_isPallet := goodIn_r _ [9, 2, 116, 117, 118, 119, 120, 121, 122] (by decide +kernel) (by decide +kernel)
set_option maxRecDepth 20000 in
theorem gX1_part_X1_isPallet : GoodIn wsX1_part (wsV RX1 55 RX1 yX1_isPallet wsX1_isPallet) := goodIn_app (goodIn_of _ (by decide +kernel)) ggX1_part_X1_isPallet
set_option maxRecDepth 20000 in
theorem ggX1_part_X1_isGood : GoodIn wsX1_part wsX1_isGood := goodIn_r _ [12] (by decide +kernel) (by decide +kernel)
set_option maxRecDepth 20000 in
theorem gX1_part_X1_isGood : GoodIn wsX1_part (va_wsS RX1 58 yX1_isGood wsX1_isGood) := goodIn_app (goodIn_of _ (by decide +kernel)) ggX1_part_X1_isGood
set_option maxRecDepth 20000 in
theorem ggX1_part_X1_needThere : GoodIn wsX1_part wsX1_needThere := goodIn_ca (goodIn_r _ [15, 16, 17] (by decide +kernel) (by decide +kernel)) (goodIn_sub (fun _ h => List.mem_cons_of_mem _ (List.mem_append_left _ (List.mem_append_left _ (List.mem_append_right _ h)))) (by decide +kernel))
set_option maxRecDepth 20000 in
theorem gX1_part_X1_needThere : GoodIn wsX1_part (va_wsS RX1 36 yX1_needThere wsX1_needThere) := goodIn_app (goodIn_of _ (by decide +kernel)) ggX1_part_X1_needThere
set_option maxRecDepth 20000 in
theorem ggX1_part_X1_isWithin : GoodIn wsX1_part wsX1_isWithin := goodIn_r _ [20] (by decide +kernel) (by decide +kernel)
set_option maxRecDepth 20000 in
theorem gX1_part_X1_isWithin : GoodIn wsX1_part (va_wsS RX1 61 yX1_isWithin wsX1_isWithin) := goodIn_app (goodIn_of _ (by decide +kernel)) ggX1_part_X1_isWithin
set_option maxRecDepth 20000 in
theorem ggX1_part_X1_needRange : GoodIn wsX1_part wsX1_needRange := goodIn_ca (goodIn_r _ [23, 24, 25] (by decide +kernel) (by decide +kernel)) (goodIn_sub (fun _ h => List.mem_cons_of_mem _ (List.mem_append_left _ (List.mem_append_right _ h))) (by decide +kernel))
set_option maxRecDepth 20000 in
theorem gX1_part_X1_needRange : GoodIn wsX1_part (va_wsS RX1 65 yX1_needRange wsX1_needRange) := goodIn_app (goodIn_of _ (by decide +kernel)) ggX1_part_X1_needRange
set_option maxRecDepth 20000 in
theorem ggX1_part_X1_isWorkable : GoodIn wsX1_part wsX1_isWorkable := goodIn_r _ [29, 4, 30, 31, 32, 8, 33, 34, 35, 36, 37, 38, 39, 40, 41, 42, 43, 44, 45, 46, 47, 48, 49, 50, 51, 52, 53, 54, 55, 56, 57, 58, 59, 2, 60, 61, 62, 63, 64, 65, 66, 67, 68, 69, 70, 71, 72, 73, 74, 75, 76, 77, 78, 79, 80, 81, 82, 83, 84, 85, 86, 87, 116, 117, 118, 119, 120, 121, 122, 123, 124, 125, 126, 127] (by decide +kernel) (by decide +kernel)
set_option maxRecDepth 20000 in
theorem gX1_part_X1_isWorkable : GoodIn wsX1_part (wsV RX1 68 RX1 yX1_isWorkable wsX1_isWorkable) := goodIn_app (goodIn_of _ (by decide +kernel)) ggX1_part_X1_isWorkable
set_option maxRecDepth 20000 in
theorem ggX1_part_X1_needState : GoodIn wsX1_part wsX1_needState := goodIn_ca (goodIn_r _ [90, 91, 92] (by decide +kernel) (by decide +kernel)) (goodIn_sub (fun _ h => List.mem_cons_of_mem _ (List.mem_append_right _ h)) (by decide +kernel))
set_option maxRecDepth 20000 in
theorem gX1_part_X1_needState : GoodIn wsX1_part (va_wsS RX1 44 yX1_needState wsX1_needState) := goodIn_app (goodIn_of _ (by decide +kernel)) ggX1_part_X1_needState
set_option maxRecDepth 20000 in
theorem ggX1_part_X1_stand : GoodIn wsX1_part wsX1_stand := goodIn_r _ [96, 2, 3, 116, 117, 118, 119, 120, 121, 122] (by decide +kernel) (by decide +kernel)
set_option maxRecDepth 20000 in
theorem gX1_part_X1_stand : GoodIn wsX1_part (wsV RX1 47 RX1 yX1_stand wsX1_stand) := goodIn_app (goodIn_of _ (by decide +kernel)) ggX1_part_X1_stand
set_option maxRecDepth 20000 in
theorem ggX1_part_X0_length : GoodIn wsX1_part wsX0_length := goodIn_r _ [100, 39, 123, 124, 125, 126, 127] (by decide +kernel) (by decide +kernel)
set_option maxRecDepth 20000 in
theorem gX1_part_X0_length : GoodIn wsX1_part (wsV RX1 78 RX0 yX0_length wsX0_length) := goodIn_app (goodIn_of _ (by decide +kernel)) ggX1_part_X0_length
set_option maxRecDepth 20000 in
theorem ggX1_part_X1_write : GoodIn wsX1_part wsX1_write := goodIn_r _ [104, 3, 4, 105, 106, 107, 108, 109, 37, 110, 39, 44, 83, 111, 112, 45, 46, 47, 84, 85, 86, 87, 113, 114, 115, 116, 117, 118, 119, 120, 121, 122, 123, 124, 125, 126, 127] (by decide +kernel) (by decide +kernel)
set_option maxRecDepth 20000 in
theorem gX1_part_X1_write : GoodIn wsX1_part (wsV RX1 51 RX1 yX1_write wsX1_write) := goodIn_app (goodIn_of _ (by decide +kernel)) ggX1_part_X1_write
theorem dX1_part_0 : decode cX1_part 0 = .ok (.aload_n 0, 1) := by decide +kernel
theorem dX1_part_1 : decode cX1_part 1 = .ok (.iload_n 1, 1) := by decide +kernel
theorem dX1_part_2 : decode cX1_part 2 = .ok (.invokevirtual 55, 3) := by decide +kernel
theorem dX1_part_5 : decode cX1_part 5 = .ok (.ifCond .eq 14, 3) := by decide +kernel
theorem dX1_part_8 : decode cX1_part 8 = .ok (.iload_n 2, 1) := by decide +kernel
theorem dX1_part_9 : decode cX1_part 9 = .ok (.invokestatic 58, 3) := by decide +kernel
theorem dX1_part_12 : decode cX1_part 12 = .ok (.ifCond .eq 7, 3) := by decide +kernel
theorem dX1_part_15 : decode cX1_part 15 = .ok (.iconst 1, 1) := by decide +kernel
theorem dX1_part_16 : decode cX1_part 16 = .ok (.goto 4, 3) := by decide +kernel
theorem dX1_part_19 : decode cX1_part 19 = .ok (.iconst 0, 1) := by decide +kernel
theorem dX1_part_20 : decode cX1_part 20 = .ok (.invokestatic 36, 3) := by decide +kernel
theorem dX1_part_23 : decode cX1_part 23 = .ok (.iload_n 3, 1) := by decide +kernel
theorem dX1_part_24 : decode cX1_part 24 = .ok (.iconst 1, 1) := by decide +kernel
theorem dX1_part_25 : decode cX1_part 25 = .ok (.bipush 99, 2) := by decide +kernel
theorem dX1_part_27 : decode cX1_part 27 = .ok (.invokestatic 61, 3) := by decide +kernel
theorem dX1_part_30 : decode cX1_part 30 = .ok (.invokestatic 65, 3) := by decide +kernel
theorem dX1_part_33 : decode cX1_part 33 = .ok (.aload_n 0, 1) := by decide +kernel
theorem dX1_part_34 : decode cX1_part 34 = .ok (.iload_n 1, 1) := by decide +kernel
theorem dX1_part_35 : decode cX1_part 35 = .ok (.invokevirtual 68, 3) := by decide +kernel
theorem dX1_part_38 : decode cX1_part 38 = .ok (.ifCond .eq 31, 3) := by decide +kernel
theorem dX1_part_41 : decode cX1_part 41 = .ok (.aload_n 0, 1) := by decide +kernel
theorem dX1_part_42 : decode cX1_part 42 = .ok (.getfield 20, 3) := by decide +kernel
theorem dX1_part_45 : decode cX1_part 45 = .ok (.iload_n 1, 1) := by decide +kernel
theorem dX1_part_46 : decode cX1_part 46 = .ok (.bipush 6, 2) := by decide +kernel
theorem dX1_part_48 : decode cX1_part 48 = .ok (.imul, 1) := by decide +kernel
theorem dX1_part_49 : decode cX1_part 49 = .ok (.iload_n 2, 1) := by decide +kernel
theorem dX1_part_50 : decode cX1_part 50 = .ok (.iadd, 1) := by decide +kernel
theorem dX1_part_51 : decode cX1_part 51 = .ok (.iaload, 1) := by decide +kernel
theorem dX1_part_52 : decode cX1_part 52 = .ok (.iload_n 3, 1) := by decide +kernel
theorem dX1_part_53 : decode cX1_part 53 = .ok (.if_icmp .lt 16, 3) := by decide +kernel
theorem dX1_part_56 : decode cX1_part 56 = .ok (.aload_n 0, 1) := by decide +kernel
theorem dX1_part_57 : decode cX1_part 57 = .ok (.getfield 40, 3) := by decide +kernel
theorem dX1_part_60 : decode cX1_part 60 = .ok (.bipush 14, 2) := by decide +kernel
theorem dX1_part_62 : decode cX1_part 62 = .ok (.if_icmp .ge 7, 3) := by decide +kernel
theorem dX1_part_65 : decode cX1_part 65 = .ok (.iconst 1, 1) := by decide +kernel
theorem dX1_part_66 : decode cX1_part 66 = .ok (.goto 4, 3) := by decide +kernel
theorem dX1_part_69 : decode cX1_part 69 = .ok (.iconst 0, 1) := by decide +kernel
theorem dX1_part_70 : decode cX1_part 70 = .ok (.invokestatic 44, 3) := by decide +kernel
theorem dX1_part_73 : decode cX1_part 73 = .ok (.aload_n 0, 1) := by decide +kernel
theorem dX1_part_74 : decode cX1_part 74 = .ok (.aload_n 0, 1) := by decide +kernel
theorem dX1_part_75 : decode cX1_part 75 = .ok (.getfield 16, 3) := by decide +kernel
theorem dX1_part_78 : decode cX1_part 78 = .ok (.iload_n 1, 1) := by decide +kernel
theorem dX1_part_79 : decode cX1_part 79 = .ok (.iaload, 1) := by decide +kernel
theorem dX1_part_80 : decode cX1_part 80 = .ok (.invokevirtual 47, 3) := by decide +kernel
theorem dX1_part_83 : decode cX1_part 83 = .ok (.istore 4, 2) := by decide +kernel
theorem dX1_part_85 : decode cX1_part 85 = .ok (.aload_n 0, 1) := by decide +kernel
theorem dX1_part_86 : decode cX1_part 86 = .ok (.getfield 20, 3) := by decide +kernel
theorem dX1_part_89 : decode cX1_part 89 = .ok (.iload_n 1, 1) := by decide +kernel
theorem dX1_part_90 : decode cX1_part 90 = .ok (.bipush 6, 2) := by decide +kernel
theorem dX1_part_92 : decode cX1_part 92 = .ok (.imul, 1) := by decide +kernel
theorem dX1_part_93 : decode cX1_part 93 = .ok (.iload_n 2, 1) := by decide +kernel
theorem dX1_part_94 : decode cX1_part 94 = .ok (.iadd, 1) := by decide +kernel
theorem dX1_part_95 : decode cX1_part 95 = .ok (.dup2, 1) := by decide +kernel
theorem dX1_part_96 : decode cX1_part 96 = .ok (.iaload, 1) := by decide +kernel
theorem dX1_part_97 : decode cX1_part 97 = .ok (.iload_n 3, 1) := by decide +kernel
theorem dX1_part_98 : decode cX1_part 98 = .ok (.isub, 1) := by decide +kernel
theorem dX1_part_99 : decode cX1_part 99 = .ok (.iastore, 1) := by decide +kernel
theorem dX1_part_100 : decode cX1_part 100 = .ok (.aload_n 0, 1) := by decide +kernel
theorem dX1_part_101 : decode cX1_part 101 = .ok (.getfield 20, 3) := by decide +kernel
theorem dX1_part_104 : decode cX1_part 104 = .ok (.iload 4, 2) := by decide +kernel
theorem dX1_part_106 : decode cX1_part 106 = .ok (.bipush 6, 2) := by decide +kernel
theorem dX1_part_108 : decode cX1_part 108 = .ok (.imul, 1) := by decide +kernel
theorem dX1_part_109 : decode cX1_part 109 = .ok (.iload_n 2, 1) := by decide +kernel
theorem dX1_part_110 : decode cX1_part 110 = .ok (.iadd, 1) := by decide +kernel
theorem dX1_part_111 : decode cX1_part 111 = .ok (.iload_n 3, 1) := by decide +kernel
theorem dX1_part_112 : decode cX1_part 112 = .ok (.iastore, 1) := by decide +kernel
theorem dX1_part_113 : decode cX1_part 113 = .ok (.aload_n 0, 1) := by decide +kernel
theorem dX1_part_114 : decode cX1_part 114 = .ok (.getfield 10, 3) := by decide +kernel
theorem dX1_part_117 : decode cX1_part 117 = .ok (.iload_n 1, 1) := by decide +kernel
theorem dX1_part_118 : decode cX1_part 118 = .ok (.invokevirtual 78, 3) := by decide +kernel
theorem dX1_part_121 : decode cX1_part 121 = .ok (.istore 5, 2) := by decide +kernel
theorem dX1_part_123 : decode cX1_part 123 = .ok (.aload_n 0, 1) := by decide +kernel
theorem dX1_part_124 : decode cX1_part 124 = .ok (.iload_n 1, 1) := by decide +kernel
theorem dX1_part_125 : decode cX1_part 125 = .ok (.iconst 3, 1) := by decide +kernel
theorem dX1_part_126 : decode cX1_part 126 = .ok (.iload_n 2, 1) := by decide +kernel
theorem dX1_part_127 : decode cX1_part 127 = .ok (.iload_n 3, 1) := by decide +kernel
theorem dX1_part_128 : decode cX1_part 128 = .ok (.iload 4, 2) := by decide +kernel
theorem dX1_part_130 : decode cX1_part 130 = .ok (.iconst 0, 1) := by decide +kernel
theorem dX1_part_131 : decode cX1_part 131 = .ok (.invokevirtual 51, 3) := by decide +kernel
theorem dX1_part_134 : decode cX1_part 134 = .ok (.aload_n 0, 1) := by decide +kernel
theorem dX1_part_135 : decode cX1_part 135 = .ok (.iload 4, 2) := by decide +kernel
theorem dX1_part_137 : decode cX1_part 137 = .ok (.iconst 4, 1) := by decide +kernel
theorem dX1_part_138 : decode cX1_part 138 = .ok (.iload_n 2, 1) := by decide +kernel
theorem dX1_part_139 : decode cX1_part 139 = .ok (.iload_n 3, 1) := by decide +kernel
theorem dX1_part_140 : decode cX1_part 140 = .ok (.iload_n 1, 1) := by decide +kernel
theorem dX1_part_141 : decode cX1_part 141 = .ok (.iload 5, 2) := by decide +kernel
theorem dX1_part_143 : decode cX1_part 143 = .ok (.invokevirtual 51, 3) := by decide +kernel
theorem dX1_part_146 : decode cX1_part 146 = .ok (.iload 4, 2) := by decide +kernel
theorem dX1_part_148 : decode cX1_part 148 = .ok (.ireturn, 1) := by decide +kernel
set_option maxRecDepth 20000 in
theorem ggX1_join_X1_isPallet : GoodIn wsX1_join wsX1_isPallet := goodIn_r _ [8, 9, 110, 111, 112, 113, 114, 115, 116] (by decide +kernel) (by decide +kernel)
set_option maxRecDepth 20000 in
theorem gX1_join_X1_isPallet : GoodIn wsX1_join (wsV RX1 55 RX1 yX1_isPallet wsX1_isPallet) := goodIn_app (goodIn_of _ (by decide +kernel)) ggX1_join_X1_isPallet
set_option maxRecDepth 20000 in
theorem ggX1_join_X1_needThere : GoodIn wsX1_join wsX1_needThere := goodIn_ca (goodIn_r _ [12, 13, 14] (by decide +kernel) (by decide +kernel)) (goodIn_sub (fun _ h => List.mem_cons_of_mem _ (List.mem_append_left _ (List.mem_append_left _ (List.mem_append_right _ h)))) (by decide +kernel))
set_option maxRecDepth 20000 in
theorem gX1_join_X1_needThere : GoodIn wsX1_join (va_wsS RX1 36 yX1_needThere wsX1_needThere) := goodIn_app (goodIn_of _ (by decide +kernel)) ggX1_join_X1_needThere
set_option maxRecDepth 20000 in
theorem ggX1_join_X1_needRange : GoodIn wsX1_join wsX1_needRange := goodIn_ca (goodIn_r _ [17, 18, 19] (by decide +kernel) (by decide +kernel)) (goodIn_sub (fun _ h => List.mem_cons_of_mem _ (List.mem_append_left _ (List.mem_append_right _ h))) (by decide +kernel))
set_option maxRecDepth 20000 in
theorem gX1_join_X1_needRange : GoodIn wsX1_join (va_wsS RX1 65 yX1_needRange wsX1_needRange) := goodIn_app (goodIn_of _ (by decide +kernel)) ggX1_join_X1_needRange
set_option maxRecDepth 20000 in
theorem ggX1_join_X1_isWorkable : GoodIn wsX1_join wsX1_isWorkable := goodIn_r _ [23, 3, 24, 25, 26, 7, 27, 28, 29, 30, 31, 32, 33, 34, 35, 36, 37, 38, 39, 40, 41, 42, 43, 44, 45, 46, 47, 48, 49, 50, 51, 52, 53, 9, 54, 55, 56, 57, 58, 59, 60, 61, 62, 63, 64, 65, 66, 67, 68, 69, 70, 71, 72, 73, 74, 75, 76, 77, 78, 79, 80, 81, 110, 111, 112, 113, 114, 115, 116, 117, 118, 119, 120, 121] (by decide +kernel) (by decide +kernel)
set_option maxRecDepth 20000 in
theorem gX1_join_X1_isWorkable : GoodIn wsX1_join (wsV RX1 68 RX1 yX1_isWorkable wsX1_isWorkable) := goodIn_app (goodIn_of _ (by decide +kernel)) ggX1_join_X1_isWorkable
set_option maxRecDepth 20000 in
theorem ggX1_join_X1_canComeTogether : GoodIn wsX1_join wsX1_canComeTogether := goodIn_r _ [85, 2, 110, 111, 112, 113, 114, 115, 116] (by decide +kernel) (by decide +kernel)
set_option maxRecDepth 20000 in
theorem gX1_join_X1_canComeTogether : GoodIn wsX1_join (wsV RX1 81 RX1 yX1_canComeTogether wsX1_canComeTogether) := goodIn_app (goodIn_of _ (by decide +kernel)) ggX1_join_X1_canComeTogether
set_option maxRecDepth 20000 in
theorem ggX1_join_X1_needState : GoodIn wsX1_join wsX1_needState := goodIn_ca (goodIn_r _ [88, 89, 90] (by decide +kernel) (by decide +kernel)) (goodIn_sub (fun _ h => List.mem_cons_of_mem _ (List.mem_append_right _ h)) (by decide +kernel))
set_option maxRecDepth 20000 in
theorem gX1_join_X1_needState : GoodIn wsX1_join (va_wsS RX1 44 yX1_needState wsX1_needState) := goodIn_app (goodIn_of _ (by decide +kernel)) ggX1_join_X1_needState
set_option maxRecDepth 20000 in
theorem ggX1_join_X0_length : GoodIn wsX1_join wsX0_length := goodIn_r _ [94, 33, 117, 118, 119, 120, 121] (by decide +kernel) (by decide +kernel)
set_option maxRecDepth 20000 in
theorem gX1_join_X0_length : GoodIn wsX1_join (wsV RX1 78 RX0 yX0_length wsX0_length) := goodIn_app (goodIn_of _ (by decide +kernel)) ggX1_join_X0_length
set_option maxRecDepth 20000 in
theorem ggX1_join_X1_write : GoodIn wsX1_join wsX1_write := goodIn_r _ [98, 1, 3, 99, 100, 101, 102, 103, 31, 104, 33, 38, 77, 105, 106, 39, 40, 41, 78, 79, 80, 81, 107, 108, 109, 110, 111, 112, 113, 114, 115, 116, 117, 118, 119, 120, 121] (by decide +kernel) (by decide +kernel)
set_option maxRecDepth 20000 in
theorem gX1_join_X1_write : GoodIn wsX1_join (wsV RX1 51 RX1 yX1_write wsX1_write) := goodIn_app (goodIn_of _ (by decide +kernel)) ggX1_join_X1_write
theorem dX1_join_0 : decode cX1_join 0 = .ok (.aload_n 0, 1) := by decide +kernel
theorem dX1_join_1 : decode cX1_join 1 = .ok (.iload_n 1, 1) := by decide +kernel
theorem dX1_join_2 : decode cX1_join 2 = .ok (.invokevirtual 55, 3) := by decide +kernel
theorem dX1_join_5 : decode cX1_join 5 = .ok (.ifCond .eq 15, 3) := by decide +kernel
theorem dX1_join_8 : decode cX1_join 8 = .ok (.aload_n 0, 1) := by decide +kernel
theorem dX1_join_9 : decode cX1_join 9 = .ok (.iload_n 2, 1) := by decide +kernel
theorem dX1_join_10 : decode cX1_join 10 = .ok (.invokevirtual 55, 3) := by decide +kernel
theorem dX1_join_13 : decode cX1_join 13 = .ok (.ifCond .eq 7, 3) := by decide +kernel
theorem dX1_join_16 : decode cX1_join 16 = .ok (.iconst 1, 1) := by decide +kernel
theorem dX1_join_17 : decode cX1_join 17 = .ok (.goto 4, 3) := by decide +kernel
theorem dX1_join_20 : decode cX1_join 20 = .ok (.iconst 0, 1) := by decide +kernel
theorem dX1_join_21 : decode cX1_join 21 = .ok (.invokestatic 36, 3) := by decide +kernel
theorem dX1_join_24 : decode cX1_join 24 = .ok (.iload_n 1, 1) := by decide +kernel
theorem dX1_join_25 : decode cX1_join 25 = .ok (.iload_n 2, 1) := by decide +kernel
theorem dX1_join_26 : decode cX1_join 26 = .ok (.if_icmp .eq 7, 3) := by decide +kernel
theorem dX1_join_29 : decode cX1_join 29 = .ok (.iconst 1, 1) := by decide +kernel
theorem dX1_join_30 : decode cX1_join 30 = .ok (.goto 4, 3) := by decide +kernel
theorem dX1_join_33 : decode cX1_join 33 = .ok (.iconst 0, 1) := by decide +kernel
theorem dX1_join_34 : decode cX1_join 34 = .ok (.invokestatic 65, 3) := by decide +kernel
theorem dX1_join_37 : decode cX1_join 37 = .ok (.aload_n 0, 1) := by decide +kernel
theorem dX1_join_38 : decode cX1_join 38 = .ok (.iload_n 1, 1) := by decide +kernel
theorem dX1_join_39 : decode cX1_join 39 = .ok (.invokevirtual 68, 3) := by decide +kernel
theorem dX1_join_42 : decode cX1_join 42 = .ok (.ifCond .eq 39, 3) := by decide +kernel
theorem dX1_join_45 : decode cX1_join 45 = .ok (.aload_n 0, 1) := by decide +kernel
theorem dX1_join_46 : decode cX1_join 46 = .ok (.iload_n 2, 1) := by decide +kernel
theorem dX1_join_47 : decode cX1_join 47 = .ok (.invokevirtual 68, 3) := by decide +kernel
theorem dX1_join_50 : decode cX1_join 50 = .ok (.ifCond .eq 31, 3) := by decide +kernel
theorem dX1_join_53 : decode cX1_join 53 = .ok (.aload_n 0, 1) := by decide +kernel
theorem dX1_join_54 : decode cX1_join 54 = .ok (.getfield 16, 3) := by decide +kernel
theorem dX1_join_57 : decode cX1_join 57 = .ok (.iload_n 1, 1) := by decide +kernel
theorem dX1_join_58 : decode cX1_join 58 = .ok (.iaload, 1) := by decide +kernel
theorem dX1_join_59 : decode cX1_join 59 = .ok (.aload_n 0, 1) := by decide +kernel
theorem dX1_join_60 : decode cX1_join 60 = .ok (.getfield 16, 3) := by decide +kernel
theorem dX1_join_63 : decode cX1_join 63 = .ok (.iload_n 2, 1) := by decide +kernel
theorem dX1_join_64 : decode cX1_join 64 = .ok (.iaload, 1) := by decide +kernel
theorem dX1_join_65 : decode cX1_join 65 = .ok (.if_icmp .ne 16, 3) := by decide +kernel
theorem dX1_join_68 : decode cX1_join 68 = .ok (.aload_n 0, 1) := by decide +kernel
theorem dX1_join_69 : decode cX1_join 69 = .ok (.iload_n 1, 1) := by decide +kernel
theorem dX1_join_70 : decode cX1_join 70 = .ok (.iload_n 2, 1) := by decide +kernel
theorem dX1_join_71 : decode cX1_join 71 = .ok (.invokevirtual 81, 3) := by decide +kernel
theorem dX1_join_74 : decode cX1_join 74 = .ok (.ifCond .eq 7, 3) := by decide +kernel
theorem dX1_join_77 : decode cX1_join 77 = .ok (.iconst 1, 1) := by decide +kernel
theorem dX1_join_78 : decode cX1_join 78 = .ok (.goto 4, 3) := by decide +kernel
theorem dX1_join_81 : decode cX1_join 81 = .ok (.iconst 0, 1) := by decide +kernel
theorem dX1_join_82 : decode cX1_join 82 = .ok (.invokestatic 44, 3) := by decide +kernel
theorem dX1_join_85 : decode cX1_join 85 = .ok (.iconst 0, 1) := by decide +kernel
theorem dX1_join_86 : decode cX1_join 86 = .ok (.istore_n 3, 1) := by decide +kernel
theorem dX1_join_87 : decode cX1_join 87 = .ok (.iconst 0, 1) := by decide +kernel
theorem dX1_join_88 : decode cX1_join 88 = .ok (.istore 4, 2) := by decide +kernel
theorem dX1_join_90 : decode cX1_join 90 = .ok (.iload 4, 2) := by decide +kernel
theorem dX1_join_92 : decode cX1_join 92 = .ok (.bipush 6, 2) := by decide +kernel
theorem dX1_join_94 : decode cX1_join 94 = .ok (.if_icmp .ge 64, 3) := by decide +kernel
theorem dX1_join_97 : decode cX1_join 97 = .ok (.aload_n 0, 1) := by decide +kernel
theorem dX1_join_98 : decode cX1_join 98 = .ok (.getfield 20, 3) := by decide +kernel
theorem dX1_join_101 : decode cX1_join 101 = .ok (.iload_n 2, 1) := by decide +kernel
theorem dX1_join_102 : decode cX1_join 102 = .ok (.bipush 6, 2) := by decide +kernel
theorem dX1_join_104 : decode cX1_join 104 = .ok (.imul, 1) := by decide +kernel
theorem dX1_join_105 : decode cX1_join 105 = .ok (.iload 4, 2) := by decide +kernel
theorem dX1_join_107 : decode cX1_join 107 = .ok (.iadd, 1) := by decide +kernel
theorem dX1_join_108 : decode cX1_join 108 = .ok (.dup2, 1) := by decide +kernel
theorem dX1_join_109 : decode cX1_join 109 = .ok (.iaload, 1) := by decide +kernel
theorem dX1_join_110 : decode cX1_join 110 = .ok (.aload_n 0, 1) := by decide +kernel
theorem dX1_join_111 : decode cX1_join 111 = .ok (.getfield 20, 3) := by decide +kernel
theorem dX1_join_114 : decode cX1_join 114 = .ok (.iload_n 1, 1) := by decide +kernel
theorem dX1_join_115 : decode cX1_join 115 = .ok (.bipush 6, 2) := by decide +kernel
theorem dX1_join_117 : decode cX1_join 117 = .ok (.imul, 1) := by decide +kernel
theorem dX1_join_118 : decode cX1_join 118 = .ok (.iload 4, 2) := by decide +kernel
theorem dX1_join_120 : decode cX1_join 120 = .ok (.iadd, 1) := by decide +kernel
theorem dX1_join_121 : decode cX1_join 121 = .ok (.iaload, 1) := by decide +kernel
theorem dX1_join_122 : decode cX1_join 122 = .ok (.iadd, 1) := by decide +kernel
theorem dX1_join_123 : decode cX1_join 123 = .ok (.iastore, 1) := by decide +kernel
theorem dX1_join_124 : decode cX1_join 124 = .ok (.aload_n 0, 1) := by decide +kernel
theorem dX1_join_125 : decode cX1_join 125 = .ok (.getfield 20, 3) := by decide +kernel
theorem dX1_join_128 : decode cX1_join 128 = .ok (.iload_n 1, 1) := by decide +kernel
theorem dX1_join_129 : decode cX1_join 129 = .ok (.bipush 6, 2) := by decide +kernel
theorem dX1_join_131 : decode cX1_join 131 = .ok (.imul, 1) := by decide +kernel
theorem dX1_join_132 : decode cX1_join 132 = .ok (.iload 4, 2) := by decide +kernel
theorem dX1_join_134 : decode cX1_join 134 = .ok (.iadd, 1) := by decide +kernel
theorem dX1_join_135 : decode cX1_join 135 = .ok (.iconst 0, 1) := by decide +kernel
theorem dX1_join_136 : decode cX1_join 136 = .ok (.iastore, 1) := by decide +kernel
theorem dX1_join_137 : decode cX1_join 137 = .ok (.iload_n 3, 1) := by decide +kernel
theorem dX1_join_138 : decode cX1_join 138 = .ok (.aload_n 0, 1) := by decide +kernel
theorem dX1_join_139 : decode cX1_join 139 = .ok (.getfield 20, 3) := by decide +kernel
theorem dX1_join_142 : decode cX1_join 142 = .ok (.iload_n 2, 1) := by decide +kernel
theorem dX1_join_143 : decode cX1_join 143 = .ok (.bipush 6, 2) := by decide +kernel
theorem dX1_join_145 : decode cX1_join 145 = .ok (.imul, 1) := by decide +kernel
theorem dX1_join_146 : decode cX1_join 146 = .ok (.iload 4, 2) := by decide +kernel
theorem dX1_join_148 : decode cX1_join 148 = .ok (.iadd, 1) := by decide +kernel
theorem dX1_join_149 : decode cX1_join 149 = .ok (.iaload, 1) := by decide +kernel
theorem dX1_join_150 : decode cX1_join 150 = .ok (.iadd, 1) := by decide +kernel
theorem dX1_join_151 : decode cX1_join 151 = .ok (.istore_n 3, 1) := by decide +kernel
theorem dX1_join_152 : decode cX1_join 152 = .ok (.iinc 4 1, 3) := by decide +kernel
theorem dX1_join_155 : decode cX1_join 155 = .ok (.goto (-65), 3) := by decide +kernel
theorem dX1_join_158 : decode cX1_join 158 = .ok (.aload_n 0, 1) := by decide +kernel
theorem dX1_join_159 : decode cX1_join 159 = .ok (.getfield 10, 3) := by decide +kernel
theorem dX1_join_162 : decode cX1_join 162 = .ok (.iload_n 1, 1) := by decide +kernel
theorem dX1_join_163 : decode cX1_join 163 = .ok (.invokevirtual 78, 3) := by decide +kernel
theorem dX1_join_166 : decode cX1_join 166 = .ok (.istore 4, 2) := by decide +kernel
theorem dX1_join_168 : decode cX1_join 168 = .ok (.aload_n 0, 1) := by decide +kernel
theorem dX1_join_169 : decode cX1_join 169 = .ok (.getfield 10, 3) := by decide +kernel
theorem dX1_join_172 : decode cX1_join 172 = .ok (.iload_n 2, 1) := by decide +kernel
theorem dX1_join_173 : decode cX1_join 173 = .ok (.invokevirtual 78, 3) := by decide +kernel
theorem dX1_join_176 : decode cX1_join 176 = .ok (.istore 5, 2) := by decide +kernel
theorem dX1_join_178 : decode cX1_join 178 = .ok (.aload_n 0, 1) := by decide +kernel
theorem dX1_join_179 : decode cX1_join 179 = .ok (.iload_n 1, 1) := by decide +kernel
theorem dX1_join_180 : decode cX1_join 180 = .ok (.bipush 6, 2) := by decide +kernel
theorem dX1_join_182 : decode cX1_join 182 = .ok (.iconst 0, 1) := by decide +kernel
theorem dX1_join_183 : decode cX1_join 183 = .ok (.iconst 0, 1) := by decide +kernel
theorem dX1_join_184 : decode cX1_join 184 = .ok (.iload_n 2, 1) := by decide +kernel
theorem dX1_join_185 : decode cX1_join 185 = .ok (.iload 5, 2) := by decide +kernel
theorem dX1_join_187 : decode cX1_join 187 = .ok (.invokevirtual 51, 3) := by decide +kernel
theorem dX1_join_190 : decode cX1_join 190 = .ok (.aload_n 0, 1) := by decide +kernel
theorem dX1_join_191 : decode cX1_join 191 = .ok (.iload_n 2, 1) := by decide +kernel
theorem dX1_join_192 : decode cX1_join 192 = .ok (.iconst 5, 1) := by decide +kernel
theorem dX1_join_193 : decode cX1_join 193 = .ok (.iconst 0, 1) := by decide +kernel
theorem dX1_join_194 : decode cX1_join 194 = .ok (.iconst 0, 1) := by decide +kernel
theorem dX1_join_195 : decode cX1_join 195 = .ok (.iload_n 1, 1) := by decide +kernel
theorem dX1_join_196 : decode cX1_join 196 = .ok (.iload 4, 2) := by decide +kernel
theorem dX1_join_198 : decode cX1_join 198 = .ok (.invokevirtual 51, 3) := by decide +kernel
theorem dX1_join_201 : decode cX1_join 201 = .ok (.iload_n 3, 1) := by decide +kernel
theorem dX1_join_202 : decode cX1_join 202 = .ok (.ireturn, 1) := by decide +kernel
set_option maxRecDepth 20000 in
theorem ggX1_move_X1_isPallet : GoodIn wsX1_move wsX1_isPallet := goodIn_r _ [6, 7, 114, 115, 116, 117, 118, 119, 120] (by decide +kernel) (by decide +kernel)
set_option maxRecDepth 20000 in
theorem gX1_move_X1_isPallet : GoodIn wsX1_move (wsV RX1 55 RX1 yX1_isPallet wsX1_isPallet) := goodIn_app (goodIn_of _ (by decide +kernel)) ggX1_move_X1_isPallet
set_option maxRecDepth 20000 in
theorem ggX1_move_X1_isHolder : GoodIn wsX1_move wsX1_isHolder := goodIn_r _ [10] (by decide +kernel) (by decide +kernel)
set_option maxRecDepth 20000 in
theorem gX1_move_X1_isHolder : GoodIn wsX1_move (va_wsS RX1 84 yX1_isHolder wsX1_isHolder) := goodIn_app (goodIn_of _ (by decide +kernel)) ggX1_move_X1_isHolder
set_option maxRecDepth 20000 in
theorem ggX1_move_X1_needThere : GoodIn wsX1_move wsX1_needThere := goodIn_ca (goodIn_r _ [13, 14, 15] (by decide +kernel) (by decide +kernel)) (goodIn_sub (fun _ h => List.mem_cons_of_mem _ (List.mem_append_left _ (List.mem_append_right _ h))) (by decide +kernel))
set_option maxRecDepth 20000 in
theorem gX1_move_X1_needThere : GoodIn wsX1_move (va_wsS RX1 36 yX1_needThere wsX1_needThere) := goodIn_app (goodIn_of _ (by decide +kernel)) ggX1_move_X1_needThere
set_option maxRecDepth 20000 in
theorem ggX1_move_X1_weightOf : GoodIn wsX1_move wsX1_weightOf := goodIn_r _ [19, 20, 21, 22, 5, 23, 114, 115, 116, 117, 118, 119, 120] (by decide +kernel) (by decide +kernel)
set_option maxRecDepth 20000 in
theorem gX1_move_X1_weightOf : GoodIn wsX1_move (wsV RX1 87 RX1 yX1_weightOf wsX1_weightOf) := goodIn_app (goodIn_of _ (by decide +kernel)) ggX1_move_X1_weightOf
set_option maxRecDepth 20000 in
theorem ggX1_move_X1_isWorkable : GoodIn wsX1_move wsX1_isWorkable := goodIn_r _ [27, 28, 29, 30, 31, 5, 32, 33, 34, 35, 36, 37, 38, 39, 40, 41, 42, 43, 44, 45, 46, 47, 48, 49, 50, 51, 52, 53, 54, 55, 56, 57, 58, 7, 59, 60, 61, 62, 63, 64, 65, 66, 67, 68, 69, 70, 71, 72, 73, 74, 75, 76, 77, 78, 79, 80, 81, 82, 83, 84, 85, 86, 114, 115, 116, 117, 118, 119, 120, 121, 122, 123, 124, 125] (by decide +kernel) (by decide +kernel)
set_option maxRecDepth 20000 in
theorem gX1_move_X1_isWorkable : GoodIn wsX1_move (wsV RX1 68 RX1 yX1_isWorkable wsX1_isWorkable) := goodIn_app (goodIn_of _ (by decide +kernel)) ggX1_move_X1_isWorkable
set_option maxRecDepth 20000 in
theorem ggX1_move_X1_isDock : GoodIn wsX1_move wsX1_isDock := goodIn_r _ [89] (by decide +kernel) (by decide +kernel)
set_option maxRecDepth 20000 in
theorem gX1_move_X1_isDock : GoodIn wsX1_move (va_wsS RX1 32 yX1_isDock wsX1_isDock) := goodIn_app (goodIn_of _ (by decide +kernel)) ggX1_move_X1_isDock
set_option maxRecDepth 20000 in
theorem ggX1_move_X1_hasRoom : GoodIn wsX1_move wsX1_hasRoom := goodIn_r _ [93, 7, 1, 87, 88, 5, 89, 16, 17, 18, 19, 20, 21, 22, 23, 114, 115, 116, 117, 118, 119, 120] (by decide +kernel) (by decide +kernel)
set_option maxRecDepth 20000 in
theorem gX1_move_X1_hasRoom : GoodIn wsX1_move (wsV RX1 74 RX1 yX1_hasRoom wsX1_hasRoom) := goodIn_app (goodIn_of _ (by decide +kernel)) ggX1_move_X1_hasRoom
set_option maxRecDepth 20000 in
theorem ggX1_move_X1_needState : GoodIn wsX1_move wsX1_needState := goodIn_ca (goodIn_r _ [96, 97, 98] (by decide +kernel) (by decide +kernel)) (goodIn_sub (fun _ h => List.mem_cons_of_mem _ (List.mem_append_right _ h)) (by decide +kernel))
set_option maxRecDepth 20000 in
theorem gX1_move_X1_needState : GoodIn wsX1_move (va_wsS RX1 44 yX1_needState wsX1_needState) := goodIn_app (goodIn_of _ (by decide +kernel)) ggX1_move_X1_needState
set_option maxRecDepth 20000 in
theorem ggX1_move_X1_write : GoodIn wsX1_move wsX1_write := goodIn_r _ [102, 1, 28, 103, 104, 105, 106, 107, 36, 108, 38, 43, 82, 109, 110, 44, 45, 46, 83, 84, 85, 86, 111, 112, 113, 114, 115, 116, 117, 118, 119, 120, 121, 122, 123, 124, 125] (by decide +kernel) (by decide +kernel)
set_option maxRecDepth 20000 in
theorem gX1_move_X1_write : GoodIn wsX1_move (wsV RX1 51 RX1 yX1_write wsX1_write) := goodIn_app (goodIn_of _ (by decide +kernel)) ggX1_move_X1_write
theorem dX1_move_0 : decode cX1_move 0 = .ok (.aload_n 0, 1) := by decide +kernel
theorem dX1_move_1 : decode cX1_move 1 = .ok (.iload_n 1, 1) := by decide +kernel
theorem dX1_move_2 : decode cX1_move 2 = .ok (.invokevirtual 55, 3) := by decide +kernel
theorem dX1_move_5 : decode cX1_move 5 = .ok (.ifCond .eq 14, 3) := by decide +kernel
theorem dX1_move_8 : decode cX1_move 8 = .ok (.iload_n 2, 1) := by decide +kernel
theorem dX1_move_9 : decode cX1_move 9 = .ok (.invokestatic 84, 3) := by decide +kernel
theorem dX1_move_12 : decode cX1_move 12 = .ok (.ifCond .eq 7, 3) := by decide +kernel
theorem dX1_move_15 : decode cX1_move 15 = .ok (.iconst 1, 1) := by decide +kernel
theorem dX1_move_16 : decode cX1_move 16 = .ok (.goto 4, 3) := by decide +kernel
theorem dX1_move_19 : decode cX1_move 19 = .ok (.iconst 0, 1) := by decide +kernel
theorem dX1_move_20 : decode cX1_move 20 = .ok (.invokestatic 36, 3) := by decide +kernel
theorem dX1_move_23 : decode cX1_move 23 = .ok (.aload_n 0, 1) := by decide +kernel
theorem dX1_move_24 : decode cX1_move 24 = .ok (.iload_n 1, 1) := by decide +kernel
theorem dX1_move_25 : decode cX1_move 25 = .ok (.invokevirtual 87, 3) := by decide +kernel
theorem dX1_move_28 : decode cX1_move 28 = .ok (.istore_n 3, 1) := by decide +kernel
theorem dX1_move_29 : decode cX1_move 29 = .ok (.aload_n 0, 1) := by decide +kernel
theorem dX1_move_30 : decode cX1_move 30 = .ok (.iload_n 1, 1) := by decide +kernel
theorem dX1_move_31 : decode cX1_move 31 = .ok (.invokevirtual 68, 3) := by decide +kernel
theorem dX1_move_34 : decode cX1_move 34 = .ok (.ifCond .eq 32, 3) := by decide +kernel
theorem dX1_move_37 : decode cX1_move 37 = .ok (.aload_n 0, 1) := by decide +kernel
theorem dX1_move_38 : decode cX1_move 38 = .ok (.getfield 16, 3) := by decide +kernel
theorem dX1_move_41 : decode cX1_move 41 = .ok (.iload_n 1, 1) := by decide +kernel
theorem dX1_move_42 : decode cX1_move 42 = .ok (.iaload, 1) := by decide +kernel
theorem dX1_move_43 : decode cX1_move 43 = .ok (.invokestatic 32, 3) := by decide +kernel
theorem dX1_move_46 : decode cX1_move 46 = .ok (.iload_n 2, 1) := by decide +kernel
theorem dX1_move_47 : decode cX1_move 47 = .ok (.invokestatic 32, 3) := by decide +kernel
theorem dX1_move_50 : decode cX1_move 50 = .ok (.if_icmp .eq 16, 3) := by decide +kernel
theorem dX1_move_53 : decode cX1_move 53 = .ok (.aload_n 0, 1) := by decide +kernel
theorem dX1_move_54 : decode cX1_move 54 = .ok (.iload_n 2, 1) := by decide +kernel
theorem dX1_move_55 : decode cX1_move 55 = .ok (.iload_n 3, 1) := by decide +kernel
theorem dX1_move_56 : decode cX1_move 56 = .ok (.invokevirtual 74, 3) := by decide +kernel
theorem dX1_move_59 : decode cX1_move 59 = .ok (.ifCond .eq 7, 3) := by decide +kernel
theorem dX1_move_62 : decode cX1_move 62 = .ok (.iconst 1, 1) := by decide +kernel
theorem dX1_move_63 : decode cX1_move 63 = .ok (.goto 4, 3) := by decide +kernel
theorem dX1_move_66 : decode cX1_move 66 = .ok (.iconst 0, 1) := by decide +kernel
theorem dX1_move_67 : decode cX1_move 67 = .ok (.invokestatic 44, 3) := by decide +kernel
theorem dX1_move_70 : decode cX1_move 70 = .ok (.aload_n 0, 1) := by decide +kernel
theorem dX1_move_71 : decode cX1_move 71 = .ok (.iload_n 1, 1) := by decide +kernel
theorem dX1_move_72 : decode cX1_move 72 = .ok (.bipush 7, 2) := by decide +kernel
theorem dX1_move_74 : decode cX1_move 74 = .ok (.iconst 0, 1) := by decide +kernel
theorem dX1_move_75 : decode cX1_move 75 = .ok (.iload_n 2, 1) := by decide +kernel
theorem dX1_move_76 : decode cX1_move 76 = .ok (.iconst 0, 1) := by decide +kernel
theorem dX1_move_77 : decode cX1_move 77 = .ok (.iconst 0, 1) := by decide +kernel
theorem dX1_move_78 : decode cX1_move 78 = .ok (.invokevirtual 51, 3) := by decide +kernel
theorem dX1_move_81 : decode cX1_move 81 = .ok (.aload_n 0, 1) := by decide +kernel
theorem dX1_move_82 : decode cX1_move 82 = .ok (.getfield 16, 3) := by decide +kernel
theorem dX1_move_85 : decode cX1_move 85 = .ok (.iload_n 1, 1) := by decide +kernel
theorem dX1_move_86 : decode cX1_move 86 = .ok (.iload_n 2, 1) := by decide +kernel
theorem dX1_move_87 : decode cX1_move 87 = .ok (.iastore, 1) := by decide +kernel
theorem dX1_move_88 : decode cX1_move 88 = .ok (.iload_n 3, 1) := by decide +kernel
theorem dX1_move_89 : decode cX1_move 89 = .ok (.ireturn, 1) := by decide +kernel
set_option maxRecDepth 20000 in
theorem ggX1_hold_X1_isPallet : GoodIn wsX1_hold wsX1_isPallet := goodIn_r _ [6, 7, 65, 66, 67, 68, 69, 70, 71] (by decide +kernel) (by decide +kernel)
set_option maxRecDepth 20000 in
theorem gX1_hold_X1_isPallet : GoodIn wsX1_hold (wsV RX1 55 RX1 yX1_isPallet wsX1_isPallet) := goodIn_app (goodIn_of _ (by decide +kernel)) ggX1_hold_X1_isPallet
set_option maxRecDepth 20000 in
theorem ggX1_hold_X1_needThere : GoodIn wsX1_hold wsX1_needThere := goodIn_ca (goodIn_r _ [10, 11, 12] (by decide +kernel) (by decide +kernel)) (goodIn_sub (fun _ h => List.mem_cons_of_mem _ (List.mem_append_left _ (List.mem_append_right _ h))) (by decide +kernel))
set_option maxRecDepth 20000 in
theorem gX1_hold_X1_needThere : GoodIn wsX1_hold (va_wsS RX1 36 yX1_needThere wsX1_needThere) := goodIn_app (goodIn_of _ (by decide +kernel)) ggX1_hold_X1_needThere
set_option maxRecDepth 20000 in
theorem ggX1_hold_X1_isGone : GoodIn wsX1_hold wsX1_isGone := goodIn_r _ [16, 1, 17, 18, 19, 20, 21, 22, 23, 24, 25, 26, 27, 28, 29, 30, 65, 66, 67, 68, 69, 70, 71, 72, 73, 74, 75, 76] (by decide +kernel) (by decide +kernel)
set_option maxRecDepth 20000 in
theorem gX1_hold_X1_isGone : GoodIn wsX1_hold (wsV RX1 90 RX1 yX1_isGone wsX1_isGone) := goodIn_app (goodIn_of _ (by decide +kernel)) ggX1_hold_X1_isGone
set_option maxRecDepth 20000 in
theorem ggX1_hold_X0_hasRoom : GoodIn wsX1_hold wsX0_hasRoom := goodIn_r _ [34, 22, 72, 73, 74, 75, 76] (by decide +kernel) (by decide +kernel)
set_option maxRecDepth 20000 in
theorem gX1_hold_X0_hasRoom : GoodIn wsX1_hold (wsV RX1 93 RX0 yX0_hasRoom wsX0_hasRoom) := goodIn_app (goodIn_of _ (by decide +kernel)) ggX1_hold_X0_hasRoom
set_option maxRecDepth 20000 in
theorem ggX1_hold_X1_needState : GoodIn wsX1_hold wsX1_needState := goodIn_ca (goodIn_r _ [37, 38, 39] (by decide +kernel) (by decide +kernel)) (goodIn_sub (fun _ h => List.mem_cons_of_mem _ (List.mem_append_right _ h)) (by decide +kernel))
set_option maxRecDepth 20000 in
theorem gX1_hold_X1_needState : GoodIn wsX1_hold (va_wsS RX1 44 yX1_needState wsX1_needState) := goodIn_app (goodIn_of _ (by decide +kernel)) ggX1_hold_X1_needState
set_option maxRecDepth 20000 in
theorem ggX1_hold_X1_isHeld : GoodIn wsX1_hold wsX1_isHeld := goodIn_r _ [43, 1, 17, 18, 19, 20, 21, 22, 23, 24, 25, 26, 27, 28, 29, 30, 65, 66, 67, 68, 69, 70, 71, 72, 73, 74, 75, 76] (by decide +kernel) (by decide +kernel)
set_option maxRecDepth 20000 in
theorem gX1_hold_X1_isHeld : GoodIn wsX1_hold (wsV RX1 95 RX1 yX1_isHeld wsX1_isHeld) := goodIn_app (goodIn_of _ (by decide +kernel)) ggX1_hold_X1_isHeld
set_option maxRecDepth 20000 in
theorem ggX1_hold_X1_write : GoodIn wsX1_hold wsX1_write := goodIn_r _ [47, 48, 1, 49, 50, 51, 52, 53, 20, 54, 22, 27, 55, 56, 57, 28, 29, 30, 58, 59, 60, 61, 62, 63, 64, 65, 66, 67, 68, 69, 70, 71, 72, 73, 74, 75, 76] (by decide +kernel) (by decide +kernel)
set_option maxRecDepth 20000 in
theorem gX1_hold_X1_write : GoodIn wsX1_hold (wsV RX1 51 RX1 yX1_write wsX1_write) := goodIn_app (goodIn_of _ (by decide +kernel)) ggX1_hold_X1_write
theorem dX1_hold_0 : decode cX1_hold 0 = .ok (.aload_n 0, 1) := by decide +kernel
theorem dX1_hold_1 : decode cX1_hold 1 = .ok (.iload_n 1, 1) := by decide +kernel
theorem dX1_hold_2 : decode cX1_hold 2 = .ok (.invokevirtual 55, 3) := by decide +kernel
theorem dX1_hold_5 : decode cX1_hold 5 = .ok (.invokestatic 36, 3) := by decide +kernel
theorem dX1_hold_8 : decode cX1_hold 8 = .ok (.aload_n 0, 1) := by decide +kernel
theorem dX1_hold_9 : decode cX1_hold 9 = .ok (.iload_n 1, 1) := by decide +kernel
theorem dX1_hold_10 : decode cX1_hold 10 = .ok (.invokevirtual 90, 3) := by decide +kernel
theorem dX1_hold_13 : decode cX1_hold 13 = .ok (.ifCond .ne 18, 3) := by decide +kernel
theorem dX1_hold_16 : decode cX1_hold 16 = .ok (.aload_n 0, 1) := by decide +kernel
theorem dX1_hold_17 : decode cX1_hold 17 = .ok (.getfield 10, 3) := by decide +kernel
theorem dX1_hold_20 : decode cX1_hold 20 = .ok (.iload_n 1, 1) := by decide +kernel
theorem dX1_hold_21 : decode cX1_hold 21 = .ok (.invokevirtual 93, 3) := by decide +kernel
theorem dX1_hold_24 : decode cX1_hold 24 = .ok (.ifCond .eq 7, 3) := by decide +kernel
theorem dX1_hold_27 : decode cX1_hold 27 = .ok (.iconst 1, 1) := by decide +kernel
theorem dX1_hold_28 : decode cX1_hold 28 = .ok (.goto 4, 3) := by decide +kernel
theorem dX1_hold_31 : decode cX1_hold 31 = .ok (.iconst 0, 1) := by decide +kernel
theorem dX1_hold_32 : decode cX1_hold 32 = .ok (.invokestatic 44, 3) := by decide +kernel
theorem dX1_hold_35 : decode cX1_hold 35 = .ok (.aload_n 0, 1) := by decide +kernel
theorem dX1_hold_36 : decode cX1_hold 36 = .ok (.iload_n 1, 1) := by decide +kernel
theorem dX1_hold_37 : decode cX1_hold 37 = .ok (.invokevirtual 95, 3) := by decide +kernel
theorem dX1_hold_40 : decode cX1_hold 40 = .ok (.ifCond .ne 7, 3) := by decide +kernel
theorem dX1_hold_43 : decode cX1_hold 43 = .ok (.iconst 1, 1) := by decide +kernel
theorem dX1_hold_44 : decode cX1_hold 44 = .ok (.goto 4, 3) := by decide +kernel
theorem dX1_hold_47 : decode cX1_hold 47 = .ok (.iconst 0, 1) := by decide +kernel
theorem dX1_hold_48 : decode cX1_hold 48 = .ok (.istore_n 2, 1) := by decide +kernel
theorem dX1_hold_49 : decode cX1_hold 49 = .ok (.aload_n 0, 1) := by decide +kernel
theorem dX1_hold_50 : decode cX1_hold 50 = .ok (.iload_n 1, 1) := by decide +kernel
theorem dX1_hold_51 : decode cX1_hold 51 = .ok (.iload_n 2, 1) := by decide +kernel
theorem dX1_hold_52 : decode cX1_hold 52 = .ok (.ifCond .eq 8, 3) := by decide +kernel
theorem dX1_hold_55 : decode cX1_hold 55 = .ok (.bipush 8, 2) := by decide +kernel
theorem dX1_hold_57 : decode cX1_hold 57 = .ok (.goto 5, 3) := by decide +kernel
theorem dX1_hold_60 : decode cX1_hold 60 = .ok (.bipush 9, 2) := by decide +kernel
theorem dX1_hold_62 : decode cX1_hold 62 = .ok (.iconst 0, 1) := by decide +kernel
theorem dX1_hold_63 : decode cX1_hold 63 = .ok (.iconst 0, 1) := by decide +kernel
theorem dX1_hold_64 : decode cX1_hold 64 = .ok (.iconst 0, 1) := by decide +kernel
theorem dX1_hold_65 : decode cX1_hold 65 = .ok (.iconst 0, 1) := by decide +kernel
theorem dX1_hold_66 : decode cX1_hold 66 = .ok (.invokevirtual 51, 3) := by decide +kernel
theorem dX1_hold_69 : decode cX1_hold 69 = .ok (.iload_n 2, 1) := by decide +kernel
theorem dX1_hold_70 : decode cX1_hold 70 = .ok (.ireturn, 1) := by decide +kernel
set_option maxRecDepth 20000 in
theorem ggX1_spoil_X1_isPallet : GoodIn wsX1_spoil wsX1_isPallet := goodIn_r _ [6, 7, 39, 40, 41, 42, 43, 44, 45] (by decide +kernel) (by decide +kernel)
set_option maxRecDepth 20000 in
theorem gX1_spoil_X1_isPallet : GoodIn wsX1_spoil (wsV RX1 55 RX1 yX1_isPallet wsX1_isPallet) := goodIn_app (goodIn_of _ (by decide +kernel)) ggX1_spoil_X1_isPallet
set_option maxRecDepth 20000 in
theorem ggX1_spoil_X0_has : GoodIn wsX1_spoil wsX0_has := goodIn_r _ [12, 13, 46, 47, 48, 49, 50] (by decide +kernel) (by decide +kernel)
set_option maxRecDepth 20000 in
theorem gX1_spoil_X0_has : GoodIn wsX1_spoil (wsV RX1 98 RX0 yX0_has wsX0_has) := goodIn_app (goodIn_of _ (by decide +kernel)) ggX1_spoil_X0_has
set_option maxRecDepth 20000 in
theorem ggX1_spoil_X1_needThere : GoodIn wsX1_spoil wsX1_needThere := goodIn_ca (goodIn_r _ [16, 17, 18] (by decide +kernel) (by decide +kernel)) (goodIn_sub (fun _ h => List.mem_cons_of_mem _ (List.mem_append_left _ (List.mem_append_right _ h))) (by decide +kernel))
set_option maxRecDepth 20000 in
theorem gX1_spoil_X1_needThere : GoodIn wsX1_spoil (va_wsS RX1 36 yX1_needThere wsX1_needThere) := goodIn_app (goodIn_of _ (by decide +kernel)) ggX1_spoil_X1_needThere
set_option maxRecDepth 20000 in
theorem ggX1_spoil_X1_isWithin : GoodIn wsX1_spoil wsX1_isWithin := goodIn_r _ [21] (by decide +kernel) (by decide +kernel)
set_option maxRecDepth 20000 in
theorem gX1_spoil_X1_isWithin : GoodIn wsX1_spoil (va_wsS RX1 61 yX1_isWithin wsX1_isWithin) := goodIn_app (goodIn_of _ (by decide +kernel)) ggX1_spoil_X1_isWithin
set_option maxRecDepth 20000 in
theorem ggX1_spoil_X1_needRange : GoodIn wsX1_spoil wsX1_needRange := goodIn_ca (goodIn_r _ [24, 25, 26] (by decide +kernel) (by decide +kernel)) (goodIn_sub (fun _ h => List.mem_cons_of_mem _ (List.mem_append_right _ h)) (by decide +kernel))
set_option maxRecDepth 20000 in
theorem gX1_spoil_X1_needRange : GoodIn wsX1_spoil (va_wsS RX1 65 yX1_needRange wsX1_needRange) := goodIn_app (goodIn_of _ (by decide +kernel)) ggX1_spoil_X1_needRange
set_option maxRecDepth 20000 in
theorem ggX1_spoil_X0_number : GoodIn wsX1_spoil wsX0_number := goodIn_r _ [30, 31, 32, 33, 11, 34, 46, 47, 48, 49, 50] (by decide +kernel) (by decide +kernel)
set_option maxRecDepth 20000 in
theorem gX1_spoil_X0_number : GoodIn wsX1_spoil (wsV RX1 101 RX0 yX0_number wsX0_number) := goodIn_app (goodIn_of _ (by decide +kernel)) ggX1_spoil_X0_number
set_option maxRecDepth 20000 in
theorem ggX1_spoil_X0_putAmount : GoodIn wsX1_spoil wsX0_putAmount := goodIn_r _ [38, 31, 32, 33, 11, 34, 46, 47, 48, 49, 50] (by decide +kernel) (by decide +kernel)
set_option maxRecDepth 20000 in
theorem gX1_spoil_X0_putAmount : GoodIn wsX1_spoil (wsV RX1 105 RX0 yX0_putAmount wsX0_putAmount) := goodIn_app (goodIn_of _ (by decide +kernel)) ggX1_spoil_X0_putAmount
theorem dX1_spoil_0 : decode cX1_spoil 0 = .ok (.aload_n 0, 1) := by decide +kernel
theorem dX1_spoil_1 : decode cX1_spoil 1 = .ok (.iload_n 1, 1) := by decide +kernel
theorem dX1_spoil_2 : decode cX1_spoil 2 = .ok (.invokevirtual 55, 3) := by decide +kernel
theorem dX1_spoil_5 : decode cX1_spoil 5 = .ok (.ifCond .eq 19, 3) := by decide +kernel
theorem dX1_spoil_8 : decode cX1_spoil 8 = .ok (.aload_n 0, 1) := by decide +kernel
theorem dX1_spoil_9 : decode cX1_spoil 9 = .ok (.getfield 10, 3) := by decide +kernel
theorem dX1_spoil_12 : decode cX1_spoil 12 = .ok (.iload_n 1, 1) := by decide +kernel
theorem dX1_spoil_13 : decode cX1_spoil 13 = .ok (.iload_n 2, 1) := by decide +kernel
theorem dX1_spoil_14 : decode cX1_spoil 14 = .ok (.invokevirtual 98, 3) := by decide +kernel
theorem dX1_spoil_17 : decode cX1_spoil 17 = .ok (.ifCond .eq 7, 3) := by decide +kernel
theorem dX1_spoil_20 : decode cX1_spoil 20 = .ok (.iconst 1, 1) := by decide +kernel
theorem dX1_spoil_21 : decode cX1_spoil 21 = .ok (.goto 4, 3) := by decide +kernel
theorem dX1_spoil_24 : decode cX1_spoil 24 = .ok (.iconst 0, 1) := by decide +kernel
theorem dX1_spoil_25 : decode cX1_spoil 25 = .ok (.invokestatic 36, 3) := by decide +kernel
theorem dX1_spoil_28 : decode cX1_spoil 28 = .ok (.iload_n 3, 1) := by decide +kernel
theorem dX1_spoil_29 : decode cX1_spoil 29 = .ok (.sipush (-999), 3) := by decide +kernel
theorem dX1_spoil_32 : decode cX1_spoil 32 = .ok (.sipush 999, 3) := by decide +kernel
theorem dX1_spoil_35 : decode cX1_spoil 35 = .ok (.invokestatic 61, 3) := by decide +kernel
theorem dX1_spoil_38 : decode cX1_spoil 38 = .ok (.invokestatic 65, 3) := by decide +kernel
theorem dX1_spoil_41 : decode cX1_spoil 41 = .ok (.aload_n 0, 1) := by decide +kernel
theorem dX1_spoil_42 : decode cX1_spoil 42 = .ok (.getfield 10, 3) := by decide +kernel
theorem dX1_spoil_45 : decode cX1_spoil 45 = .ok (.iload_n 1, 1) := by decide +kernel
theorem dX1_spoil_46 : decode cX1_spoil 46 = .ok (.iload_n 2, 1) := by decide +kernel
theorem dX1_spoil_47 : decode cX1_spoil 47 = .ok (.iconst 3, 1) := by decide +kernel
theorem dX1_spoil_48 : decode cX1_spoil 48 = .ok (.invokevirtual 101, 3) := by decide +kernel
theorem dX1_spoil_51 : decode cX1_spoil 51 = .ok (.istore 4, 2) := by decide +kernel
theorem dX1_spoil_53 : decode cX1_spoil 53 = .ok (.aload_n 0, 1) := by decide +kernel
theorem dX1_spoil_54 : decode cX1_spoil 54 = .ok (.getfield 10, 3) := by decide +kernel
theorem dX1_spoil_57 : decode cX1_spoil 57 = .ok (.iload_n 1, 1) := by decide +kernel
theorem dX1_spoil_58 : decode cX1_spoil 58 = .ok (.iload_n 2, 1) := by decide +kernel
theorem dX1_spoil_59 : decode cX1_spoil 59 = .ok (.iload_n 3, 1) := by decide +kernel
theorem dX1_spoil_60 : decode cX1_spoil 60 = .ok (.invokevirtual 105, 3) := by decide +kernel
theorem dX1_spoil_63 : decode cX1_spoil 63 = .ok (.iload 4, 2) := by decide +kernel
theorem dX1_spoil_65 : decode cX1_spoil 65 = .ok (.ireturn, 1) := by decide +kernel
set_option maxRecDepth 20000 in
theorem ggX1_lose_X1_isOwer : GoodIn wsX1_lose wsX1_isOwer := goodIn_r _ [5] (by decide +kernel) (by decide +kernel)
set_option maxRecDepth 20000 in
theorem gX1_lose_X1_isOwer : GoodIn wsX1_lose (va_wsS RX1 109 yX1_isOwer wsX1_isOwer) := goodIn_app (goodIn_of _ (by decide +kernel)) ggX1_lose_X1_isOwer
set_option maxRecDepth 20000 in
theorem ggX1_lose_X1_needThere : GoodIn wsX1_lose wsX1_needThere := goodIn_ca (goodIn_r _ [8, 9, 10] (by decide +kernel) (by decide +kernel)) (goodIn_sub (fun _ h => List.mem_cons_of_mem _ (List.mem_append_right _ h)) (by decide +kernel))
set_option maxRecDepth 20000 in
theorem gX1_lose_X1_needThere : GoodIn wsX1_lose (va_wsS RX1 36 yX1_needThere wsX1_needThere) := goodIn_app (goodIn_of _ (by decide +kernel)) ggX1_lose_X1_needThere
set_option maxRecDepth 20000 in
theorem ggX1_lose_X0_dropCopies : GoodIn wsX1_lose wsX0_dropCopies := goodIn_r _ [15, 16, 17, 4, 18, 26, 27, 28, 29, 30] (by decide +kernel) (by decide +kernel)
set_option maxRecDepth 20000 in
theorem gX1_lose_X0_dropCopies : GoodIn wsX1_lose (wsV RX1 112 RX0 yX0_dropCopies wsX0_dropCopies) := goodIn_app (goodIn_of _ (by decide +kernel)) ggX1_lose_X0_dropCopies
theorem dX1_lose_0 : decode cX1_lose 0 = .ok (.iload_n 1, 1) := by decide +kernel
theorem dX1_lose_1 : decode cX1_lose 1 = .ok (.invokestatic 109, 3) := by decide +kernel
theorem dX1_lose_4 : decode cX1_lose 4 = .ok (.invokestatic 36, 3) := by decide +kernel
theorem dX1_lose_7 : decode cX1_lose 7 = .ok (.aload_n 0, 1) := by decide +kernel
theorem dX1_lose_8 : decode cX1_lose 8 = .ok (.getfield 10, 3) := by decide +kernel
theorem dX1_lose_11 : decode cX1_lose 11 = .ok (.iload_n 1, 1) := by decide +kernel
theorem dX1_lose_12 : decode cX1_lose 12 = .ok (.invokevirtual 112, 3) := by decide +kernel
theorem dX1_lose_15 : decode cX1_lose 15 = .ok (.ireturn, 1) := by decide +kernel
set_option maxRecDepth 20000 in
theorem ggX1_repair_X1_isPallet : GoodIn wsX1_repair wsX1_isPallet := goodIn_r _ [8, 9, 63, 64, 65, 66, 67, 68, 69] (by decide +kernel) (by decide +kernel)
set_option maxRecDepth 20000 in
theorem gX1_repair_X1_isPallet : GoodIn wsX1_repair (wsV RX1 55 RX1 yX1_isPallet wsX1_isPallet) := goodIn_app (goodIn_of _ (by decide +kernel)) ggX1_repair_X1_isPallet
set_option maxRecDepth 20000 in
theorem ggX1_repair_X0_has : GoodIn wsX1_repair wsX0_has := goodIn_r _ [14, 15, 70, 71, 72, 73, 74] (by decide +kernel) (by decide +kernel)
set_option maxRecDepth 20000 in
theorem gX1_repair_X0_has : GoodIn wsX1_repair (wsV RX1 98 RX0 yX0_has wsX0_has) := goodIn_app (goodIn_of _ (by decide +kernel)) ggX1_repair_X0_has
set_option maxRecDepth 20000 in
theorem ggX1_repair_X1_needThere : GoodIn wsX1_repair wsX1_needThere := goodIn_ca (goodIn_r _ [18, 19, 20] (by decide +kernel) (by decide +kernel)) (goodIn_sub (fun _ h => List.mem_cons_of_mem _ (List.mem_append_left _ (List.mem_append_right _ h))) (by decide +kernel))
set_option maxRecDepth 20000 in
theorem gX1_repair_X1_needThere : GoodIn wsX1_repair (va_wsS RX1 36 yX1_needThere wsX1_needThere) := goodIn_app (goodIn_of _ (by decide +kernel)) ggX1_repair_X1_needThere
set_option maxRecDepth 20000 in
theorem ggX1_repair_X0_copies : GoodIn wsX1_repair wsX0_copies := goodIn_r _ [24, 25, 26, 27, 13, 28, 70, 71, 72, 73, 74] (by decide +kernel) (by decide +kernel)
set_option maxRecDepth 20000 in
theorem gX1_repair_X0_copies : GoodIn wsX1_repair (wsV RX1 115 RX0 yX0_copies wsX0_copies) := goodIn_app (goodIn_of _ (by decide +kernel)) ggX1_repair_X0_copies
set_option maxRecDepth 20000 in
theorem ggX1_repair_X1_lowestOf : GoodIn wsX1_repair wsX1_lowestOf := goodIn_r _ [31, 32, 33, 7, 34] (by decide +kernel) (by decide +kernel)
set_option maxRecDepth 20000 in
theorem gX1_repair_X1_lowestOf : GoodIn wsX1_repair (va_wsS RX1 119 yX1_lowestOf wsX1_lowestOf) := goodIn_app (goodIn_of _ (by decide +kernel)) ggX1_repair_X1_lowestOf
set_option maxRecDepth 20000 in
theorem ggX1_repair_X0_isBroken : GoodIn wsX1_repair wsX0_isBroken := goodIn_r _ [38, 39, 40, 41, 13, 42, 43, 26, 27, 28, 44, 45, 46, 47, 48, 70, 71, 72, 73, 74] (by decide +kernel) (by decide +kernel)
set_option maxRecDepth 20000 in
theorem gX1_repair_X0_isBroken : GoodIn wsX1_repair (wsV RX1 122 RX0 yX0_isBroken wsX0_isBroken) := goodIn_app (goodIn_of _ (by decide +kernel)) ggX1_repair_X0_isBroken
set_option maxRecDepth 20000 in
theorem ggX1_repair_X1_needState : GoodIn wsX1_repair wsX1_needState := goodIn_ca (goodIn_r _ [51, 52, 53] (by decide +kernel) (by decide +kernel)) (goodIn_sub (fun _ h => List.mem_cons_of_mem _ (List.mem_append_right _ h)) (by decide +kernel))
set_option maxRecDepth 20000 in
theorem gX1_repair_X1_needState : GoodIn wsX1_repair (va_wsS RX1 44 yX1_needState wsX1_needState) := goodIn_app (goodIn_of _ (by decide +kernel)) ggX1_repair_X1_needState
set_option maxRecDepth 20000 in
theorem ggX1_repair_X0_putAmountBack : GoodIn wsX1_repair wsX0_putAmountBack := goodIn_r _ [57, 58, 26, 27, 13, 28, 59, 60, 61, 62, 48, 70, 71, 72, 73, 74] (by decide +kernel) (by decide +kernel)
set_option maxRecDepth 20000 in
theorem gX1_repair_X0_putAmountBack : GoodIn wsX1_repair (wsV RX1 125 RX0 yX0_putAmountBack wsX0_putAmountBack) := goodIn_app (goodIn_of _ (by decide +kernel)) ggX1_repair_X0_putAmountBack
theorem dX1_repair_0 : decode cX1_repair 0 = .ok (.aload_n 0, 1) := by decide +kernel
theorem dX1_repair_1 : decode cX1_repair 1 = .ok (.iload_n 1, 1) := by decide +kernel
theorem dX1_repair_2 : decode cX1_repair 2 = .ok (.invokevirtual 55, 3) := by decide +kernel
theorem dX1_repair_5 : decode cX1_repair 5 = .ok (.ifCond .eq 19, 3) := by decide +kernel
theorem dX1_repair_8 : decode cX1_repair 8 = .ok (.aload_n 0, 1) := by decide +kernel
theorem dX1_repair_9 : decode cX1_repair 9 = .ok (.getfield 10, 3) := by decide +kernel
theorem dX1_repair_12 : decode cX1_repair 12 = .ok (.iload_n 1, 1) := by decide +kernel
theorem dX1_repair_13 : decode cX1_repair 13 = .ok (.iload_n 2, 1) := by decide +kernel
theorem dX1_repair_14 : decode cX1_repair 14 = .ok (.invokevirtual 98, 3) := by decide +kernel
theorem dX1_repair_17 : decode cX1_repair 17 = .ok (.ifCond .eq 7, 3) := by decide +kernel
theorem dX1_repair_20 : decode cX1_repair 20 = .ok (.iconst 1, 1) := by decide +kernel
theorem dX1_repair_21 : decode cX1_repair 21 = .ok (.goto 4, 3) := by decide +kernel
theorem dX1_repair_24 : decode cX1_repair 24 = .ok (.iconst 0, 1) := by decide +kernel
theorem dX1_repair_25 : decode cX1_repair 25 = .ok (.invokestatic 36, 3) := by decide +kernel
theorem dX1_repair_28 : decode cX1_repair 28 = .ok (.aload_n 0, 1) := by decide +kernel
theorem dX1_repair_29 : decode cX1_repair 29 = .ok (.getfield 10, 3) := by decide +kernel
theorem dX1_repair_32 : decode cX1_repair 32 = .ok (.iload_n 1, 1) := by decide +kernel
theorem dX1_repair_33 : decode cX1_repair 33 = .ok (.iload_n 2, 1) := by decide +kernel
theorem dX1_repair_34 : decode cX1_repair 34 = .ok (.invokevirtual 115, 3) := by decide +kernel
theorem dX1_repair_37 : decode cX1_repair 37 = .ok (.invokestatic 119, 3) := by decide +kernel
theorem dX1_repair_40 : decode cX1_repair 40 = .ok (.istore_n 3, 1) := by decide +kernel
theorem dX1_repair_41 : decode cX1_repair 41 = .ok (.aload_n 0, 1) := by decide +kernel
theorem dX1_repair_42 : decode cX1_repair 42 = .ok (.getfield 10, 3) := by decide +kernel
theorem dX1_repair_45 : decode cX1_repair 45 = .ok (.iload_n 1, 1) := by decide +kernel
theorem dX1_repair_46 : decode cX1_repair 46 = .ok (.iload_n 2, 1) := by decide +kernel
theorem dX1_repair_47 : decode cX1_repair 47 = .ok (.invokevirtual 122, 3) := by decide +kernel
theorem dX1_repair_50 : decode cX1_repair 50 = .ok (.ifCond .eq 12, 3) := by decide +kernel
theorem dX1_repair_53 : decode cX1_repair 53 = .ok (.iload_n 3, 1) := by decide +kernel
theorem dX1_repair_54 : decode cX1_repair 54 = .ok (.iconst (-1), 1) := by decide +kernel
theorem dX1_repair_55 : decode cX1_repair 55 = .ok (.if_icmp .eq 7, 3) := by decide +kernel
theorem dX1_repair_58 : decode cX1_repair 58 = .ok (.iconst 1, 1) := by decide +kernel
theorem dX1_repair_59 : decode cX1_repair 59 = .ok (.goto 4, 3) := by decide +kernel
theorem dX1_repair_62 : decode cX1_repair 62 = .ok (.iconst 0, 1) := by decide +kernel
theorem dX1_repair_63 : decode cX1_repair 63 = .ok (.invokestatic 44, 3) := by decide +kernel
theorem dX1_repair_66 : decode cX1_repair 66 = .ok (.aload_n 0, 1) := by decide +kernel
theorem dX1_repair_67 : decode cX1_repair 67 = .ok (.getfield 10, 3) := by decide +kernel
theorem dX1_repair_70 : decode cX1_repair 70 = .ok (.iload_n 1, 1) := by decide +kernel
theorem dX1_repair_71 : decode cX1_repair 71 = .ok (.iload_n 2, 1) := by decide +kernel
theorem dX1_repair_72 : decode cX1_repair 72 = .ok (.invokevirtual 125, 3) := by decide +kernel
theorem dX1_repair_75 : decode cX1_repair 75 = .ok (.aload_n 0, 1) := by decide +kernel
theorem dX1_repair_76 : decode cX1_repair 76 = .ok (.getfield 29, 3) := by decide +kernel
theorem dX1_repair_79 : decode cX1_repair 79 = .ok (.aload_n 0, 1) := by decide +kernel
theorem dX1_repair_80 : decode cX1_repair 80 = .ok (.getfield 16, 3) := by decide +kernel
theorem dX1_repair_83 : decode cX1_repair 83 = .ok (.iload_n 1, 1) := by decide +kernel
theorem dX1_repair_84 : decode cX1_repair 84 = .ok (.iaload, 1) := by decide +kernel
theorem dX1_repair_85 : decode cX1_repair 85 = .ok (.dup2, 1) := by decide +kernel
theorem dX1_repair_86 : decode cX1_repair 86 = .ok (.iaload, 1) := by decide +kernel
theorem dX1_repair_87 : decode cX1_repair 87 = .ok (.iconst 5, 1) := by decide +kernel
theorem dX1_repair_88 : decode cX1_repair 88 = .ok (.iadd, 1) := by decide +kernel
theorem dX1_repair_89 : decode cX1_repair 89 = .ok (.iastore, 1) := by decide +kernel
theorem dX1_repair_90 : decode cX1_repair 90 = .ok (.iload_n 3, 1) := by decide +kernel
theorem dX1_repair_91 : decode cX1_repair 91 = .ok (.ireturn, 1) := by decide +kernel
set_option maxRecDepth 20000 in
theorem ggX1_broken_X1_isPallet : GoodIn wsX1_broken wsX1_isPallet := goodIn_r _ [6, 7, 36, 37, 38, 39, 40, 41, 42] (by decide +kernel) (by decide +kernel)
set_option maxRecDepth 20000 in
theorem gX1_broken_X1_isPallet : GoodIn wsX1_broken (wsV RX1 55 RX1 yX1_isPallet wsX1_isPallet) := goodIn_app (goodIn_of _ (by decide +kernel)) ggX1_broken_X1_isPallet
set_option maxRecDepth 20000 in
theorem ggX1_broken_X1_needThere : GoodIn wsX1_broken wsX1_needThere := goodIn_ca (goodIn_r _ [10, 11, 12] (by decide +kernel) (by decide +kernel)) (goodIn_sub (fun _ h => List.mem_cons_of_mem _ (List.mem_append_right _ h)) (by decide +kernel))
set_option maxRecDepth 20000 in
theorem gX1_broken_X1_needThere : GoodIn wsX1_broken (va_wsS RX1 36 yX1_needThere wsX1_needThere) := goodIn_app (goodIn_of _ (by decide +kernel)) ggX1_broken_X1_needThere
set_option maxRecDepth 20000 in
theorem ggX1_broken_X0_firstBroken : GoodIn wsX1_broken wsX0_firstBroken := goodIn_r _ [17, 18, 19, 20, 21, 16, 22, 23, 24, 25, 26, 27, 28, 29, 30, 31, 32, 33, 34, 35, 43, 44, 45, 46, 47] (by decide +kernel) (by decide +kernel)
set_option maxRecDepth 20000 in
theorem gX1_broken_X0_firstBroken : GoodIn wsX1_broken (wsV RX1 129 RX0 yX0_firstBroken wsX0_firstBroken) := goodIn_app (goodIn_of _ (by decide +kernel)) ggX1_broken_X0_firstBroken
theorem dX1_broken_0 : decode cX1_broken 0 = .ok (.aload_n 0, 1) := by decide +kernel
theorem dX1_broken_1 : decode cX1_broken 1 = .ok (.iload_n 1, 1) := by decide +kernel
theorem dX1_broken_2 : decode cX1_broken 2 = .ok (.invokevirtual 55, 3) := by decide +kernel
theorem dX1_broken_5 : decode cX1_broken 5 = .ok (.invokestatic 36, 3) := by decide +kernel
theorem dX1_broken_8 : decode cX1_broken 8 = .ok (.aload_n 0, 1) := by decide +kernel
theorem dX1_broken_9 : decode cX1_broken 9 = .ok (.getfield 10, 3) := by decide +kernel
theorem dX1_broken_12 : decode cX1_broken 12 = .ok (.iload_n 1, 1) := by decide +kernel
theorem dX1_broken_13 : decode cX1_broken 13 = .ok (.invokevirtual 129, 3) := by decide +kernel
theorem dX1_broken_16 : decode cX1_broken 16 = .ok (.ireturn, 1) := by decide +kernel
set_option maxRecDepth 20000 in
theorem ggX1_isSound_X1_isPallet : GoodIn wsX1_isSound wsX1_isPallet := goodIn_r _ [5, 6, 55, 56, 57, 58, 59, 60, 61] (by decide +kernel) (by decide +kernel)
set_option maxRecDepth 20000 in
theorem gX1_isSound_X1_isPallet : GoodIn wsX1_isSound (wsV RX1 55 RX1 yX1_isPallet wsX1_isPallet) := goodIn_app (goodIn_of _ (by decide +kernel)) ggX1_isSound_X1_isPallet
set_option maxRecDepth 20000 in
theorem ggX1_isSound_X1_needThere : GoodIn wsX1_isSound wsX1_needThere := goodIn_ca (goodIn_r _ [9, 10, 11] (by decide +kernel) (by decide +kernel)) (goodIn_sub (fun _ h => List.mem_cons_of_mem _ (List.mem_append_right _ h)) (by decide +kernel))
set_option maxRecDepth 20000 in
theorem gX1_isSound_X1_needThere : GoodIn wsX1_isSound (va_wsS RX1 36 yX1_needThere wsX1_needThere) := goodIn_app (goodIn_of _ (by decide +kernel)) ggX1_isSound_X1_needThere
set_option maxRecDepth 20000 in
theorem ggX1_isSound_X1_allAreUnbroken : GoodIn wsX1_isSound wsX1_allAreUnbroken := goodIn_r _ [15, 16, 6, 17, 18, 19, 20, 21, 22, 4, 23, 24, 25, 26, 27, 28, 29, 30, 31, 32, 33, 34, 35, 36, 37, 38, 39, 40, 41, 42, 43, 44, 45, 46, 47, 48, 49, 50, 51, 52, 53, 54, 55, 56, 57, 58, 59, 60, 61, 62, 63, 64, 65, 66] (by decide +kernel) (by decide +kernel)
set_option maxRecDepth 20000 in
theorem gX1_isSound_X1_allAreUnbroken : GoodIn wsX1_isSound (wsV RX1 132 RX1 yX1_allAreUnbroken wsX1_allAreUnbroken) := goodIn_app (goodIn_of _ (by decide +kernel)) ggX1_isSound_X1_allAreUnbroken
theorem dX1_isSound_0 : decode cX1_isSound 0 = .ok (.aload_n 0, 1) := by decide +kernel
theorem dX1_isSound_1 : decode cX1_isSound 1 = .ok (.iload_n 1, 1) := by decide +kernel
theorem dX1_isSound_2 : decode cX1_isSound 2 = .ok (.invokevirtual 55, 3) := by decide +kernel
theorem dX1_isSound_5 : decode cX1_isSound 5 = .ok (.invokestatic 36, 3) := by decide +kernel
theorem dX1_isSound_8 : decode cX1_isSound 8 = .ok (.aload_n 0, 1) := by decide +kernel
theorem dX1_isSound_9 : decode cX1_isSound 9 = .ok (.iload_n 1, 1) := by decide +kernel
theorem dX1_isSound_10 : decode cX1_isSound 10 = .ok (.invokevirtual 132, 3) := by decide +kernel
theorem dX1_isSound_13 : decode cX1_isSound 13 = .ok (.ireturn, 1) := by decide +kernel
set_option maxRecDepth 20000 in
theorem ggX1_pallet_X1_isPallet : GoodIn wsX1_pallet wsX1_isPallet := goodIn_r _ [7, 8, 56, 57, 58, 59, 60, 61, 62] (by decide +kernel) (by decide +kernel)
set_option maxRecDepth 20000 in
theorem gX1_pallet_X1_isPallet : GoodIn wsX1_pallet (wsV RX1 55 RX1 yX1_isPallet wsX1_isPallet) := goodIn_app (goodIn_of _ (by decide +kernel)) ggX1_pallet_X1_isPallet
set_option maxRecDepth 20000 in
theorem ggX1_pallet_X1_needThere : GoodIn wsX1_pallet wsX1_needThere := goodIn_ca (goodIn_r _ [11, 12, 13] (by decide +kernel) (by decide +kernel)) (goodIn_sub (fun _ h => List.mem_cons_of_mem _ (List.mem_append_left _ (List.mem_append_right _ h))) (by decide +kernel))
set_option maxRecDepth 20000 in
theorem gX1_pallet_X1_needThere : GoodIn wsX1_pallet (va_wsS RX1 36 yX1_needThere wsX1_needThere) := goodIn_app (goodIn_of _ (by decide +kernel)) ggX1_pallet_X1_needThere
set_option maxRecDepth 20000 in
theorem ggX1_pallet_X1_isWithin : GoodIn wsX1_pallet wsX1_isWithin := goodIn_r _ [16] (by decide +kernel) (by decide +kernel)
set_option maxRecDepth 20000 in
theorem gX1_pallet_X1_isWithin : GoodIn wsX1_pallet (va_wsS RX1 61 yX1_isWithin wsX1_isWithin) := goodIn_app (goodIn_of _ (by decide +kernel)) ggX1_pallet_X1_isWithin
set_option maxRecDepth 20000 in
theorem ggX1_pallet_X1_needRange : GoodIn wsX1_pallet wsX1_needRange := goodIn_ca (goodIn_r _ [19, 20, 21] (by decide +kernel) (by decide +kernel)) (goodIn_sub (fun _ h => List.mem_cons_of_mem _ (List.mem_append_right _ h)) (by decide +kernel))
set_option maxRecDepth 20000 in
theorem gX1_pallet_X1_needRange : GoodIn wsX1_pallet (va_wsS RX1 65 yX1_needRange wsX1_needRange) := goodIn_app (goodIn_of _ (by decide +kernel)) ggX1_pallet_X1_needRange
set_option maxRecDepth 20000 in
theorem ggX1_pallet_X0_length : GoodIn wsX1_pallet wsX0_length := goodIn_r _ [26, 27, 63, 64, 65, 66, 67] (by decide +kernel) (by decide +kernel)
set_option maxRecDepth 20000 in
theorem gX1_pallet_X0_length : GoodIn wsX1_pallet (wsV RX1 78 RX0 yX0_length wsX0_length) := goodIn_app (goodIn_of _ (by decide +kernel)) ggX1_pallet_X0_length
set_option maxRecDepth 20000 in
theorem ggX1_pallet_X1_weightOf : GoodIn wsX1_pallet wsX1_weightOf := goodIn_r _ [31, 32, 33, 34, 6, 35, 56, 57, 58, 59, 60, 61, 62] (by decide +kernel) (by decide +kernel)
set_option maxRecDepth 20000 in
theorem gX1_pallet_X1_weightOf : GoodIn wsX1_pallet (wsV RX1 87 RX1 yX1_weightOf wsX1_weightOf) := goodIn_app (goodIn_of _ (by decide +kernel)) ggX1_pallet_X1_weightOf
set_option maxRecDepth 20000 in
theorem ggX1_pallet_X1_isHeld : GoodIn wsX1_pallet wsX1_isHeld := goodIn_r _ [39, 2, 40, 41, 42, 25, 43, 27, 44, 45, 46, 47, 48, 49, 50, 51, 56, 57, 58, 59, 60, 61, 62, 63, 64, 65, 66, 67] (by decide +kernel) (by decide +kernel)
set_option maxRecDepth 20000 in
theorem gX1_pallet_X1_isHeld : GoodIn wsX1_pallet (wsV RX1 95 RX1 yX1_isHeld wsX1_isHeld) := goodIn_app (goodIn_of _ (by decide +kernel)) ggX1_pallet_X1_isHeld
set_option maxRecDepth 20000 in
theorem ggX1_pallet_X1_isGone : GoodIn wsX1_pallet wsX1_isGone := goodIn_r _ [55, 2, 40, 41, 42, 25, 43, 27, 44, 45, 46, 47, 48, 49, 50, 51, 56, 57, 58, 59, 60, 61, 62, 63, 64, 65, 66, 67] (by decide +kernel) (by decide +kernel)
set_option maxRecDepth 20000 in
theorem gX1_pallet_X1_isGone : GoodIn wsX1_pallet (wsV RX1 90 RX1 yX1_isGone wsX1_isGone) := goodIn_app (goodIn_of _ (by decide +kernel)) ggX1_pallet_X1_isGone
theorem dX1_pallet_0 : decode cX1_pallet 0 = .ok (.aload_n 0, 1) := by decide +kernel
theorem dX1_pallet_1 : decode cX1_pallet 1 = .ok (.iload_n 1, 1) := by decide +kernel
theorem dX1_pallet_2 : decode cX1_pallet 2 = .ok (.invokevirtual 55, 3) := by decide +kernel
theorem dX1_pallet_5 : decode cX1_pallet 5 = .ok (.invokestatic 36, 3) := by decide +kernel
theorem dX1_pallet_8 : decode cX1_pallet 8 = .ok (.iload_n 2, 1) := by decide +kernel
theorem dX1_pallet_9 : decode cX1_pallet 9 = .ok (.iconst 0, 1) := by decide +kernel
theorem dX1_pallet_10 : decode cX1_pallet 10 = .ok (.iconst 4, 1) := by decide +kernel
theorem dX1_pallet_11 : decode cX1_pallet 11 = .ok (.invokestatic 61, 3) := by decide +kernel
theorem dX1_pallet_14 : decode cX1_pallet 14 = .ok (.invokestatic 65, 3) := by decide +kernel
theorem dX1_pallet_17 : decode cX1_pallet 17 = .ok (.iload_n 2, 1) := by decide +kernel
theorem dX1_pallet_18 : decode cX1_pallet 18 = .ok (.tableswitch 66 0 3 #[30, 37, 46, 52], 30) := by decide +kernel
theorem dX1_pallet_48 : decode cX1_pallet 48 = .ok (.aload_n 0, 1) := by decide +kernel
theorem dX1_pallet_49 : decode cX1_pallet 49 = .ok (.getfield 16, 3) := by decide +kernel
theorem dX1_pallet_52 : decode cX1_pallet 52 = .ok (.iload_n 1, 1) := by decide +kernel
theorem dX1_pallet_53 : decode cX1_pallet 53 = .ok (.iaload, 1) := by decide +kernel
theorem dX1_pallet_54 : decode cX1_pallet 54 = .ok (.ireturn, 1) := by decide +kernel
theorem dX1_pallet_55 : decode cX1_pallet 55 = .ok (.aload_n 0, 1) := by decide +kernel
theorem dX1_pallet_56 : decode cX1_pallet 56 = .ok (.getfield 10, 3) := by decide +kernel
theorem dX1_pallet_59 : decode cX1_pallet 59 = .ok (.iload_n 1, 1) := by decide +kernel
theorem dX1_pallet_60 : decode cX1_pallet 60 = .ok (.invokevirtual 78, 3) := by decide +kernel
theorem dX1_pallet_63 : decode cX1_pallet 63 = .ok (.ireturn, 1) := by decide +kernel
theorem dX1_pallet_64 : decode cX1_pallet 64 = .ok (.aload_n 0, 1) := by decide +kernel
theorem dX1_pallet_65 : decode cX1_pallet 65 = .ok (.iload_n 1, 1) := by decide +kernel
theorem dX1_pallet_66 : decode cX1_pallet 66 = .ok (.invokevirtual 87, 3) := by decide +kernel
theorem dX1_pallet_69 : decode cX1_pallet 69 = .ok (.ireturn, 1) := by decide +kernel
theorem dX1_pallet_70 : decode cX1_pallet 70 = .ok (.aload_n 0, 1) := by decide +kernel
theorem dX1_pallet_71 : decode cX1_pallet 71 = .ok (.iload_n 1, 1) := by decide +kernel
theorem dX1_pallet_72 : decode cX1_pallet 72 = .ok (.invokevirtual 95, 3) := by decide +kernel
theorem dX1_pallet_75 : decode cX1_pallet 75 = .ok (.ifCond .eq 7, 3) := by decide +kernel
theorem dX1_pallet_78 : decode cX1_pallet 78 = .ok (.iconst 1, 1) := by decide +kernel
theorem dX1_pallet_79 : decode cX1_pallet 79 = .ok (.goto 4, 3) := by decide +kernel
theorem dX1_pallet_82 : decode cX1_pallet 82 = .ok (.iconst 0, 1) := by decide +kernel
theorem dX1_pallet_83 : decode cX1_pallet 83 = .ok (.ireturn, 1) := by decide +kernel
theorem dX1_pallet_84 : decode cX1_pallet 84 = .ok (.aload_n 0, 1) := by decide +kernel
theorem dX1_pallet_85 : decode cX1_pallet 85 = .ok (.iload_n 1, 1) := by decide +kernel
theorem dX1_pallet_86 : decode cX1_pallet 86 = .ok (.invokevirtual 90, 3) := by decide +kernel
theorem dX1_pallet_89 : decode cX1_pallet 89 = .ok (.ifCond .eq 7, 3) := by decide +kernel
theorem dX1_pallet_92 : decode cX1_pallet 92 = .ok (.iconst 1, 1) := by decide +kernel
theorem dX1_pallet_93 : decode cX1_pallet 93 = .ok (.goto 4, 3) := by decide +kernel
theorem dX1_pallet_96 : decode cX1_pallet 96 = .ok (.iconst 0, 1) := by decide +kernel
theorem dX1_pallet_97 : decode cX1_pallet 97 = .ok (.ireturn, 1) := by decide +kernel
set_option maxRecDepth 20000 in
theorem ggX1_entry_X1_isPallet : GoodIn wsX1_entry wsX1_isPallet := goodIn_r _ [6, 7, 45, 46, 47, 48, 49, 50, 51] (by decide +kernel) (by decide +kernel)
set_option maxRecDepth 20000 in
theorem gX1_entry_X1_isPallet : GoodIn wsX1_entry (wsV RX1 55 RX1 yX1_isPallet wsX1_isPallet) := goodIn_app (goodIn_of _ (by decide +kernel)) ggX1_entry_X1_isPallet
set_option maxRecDepth 20000 in
theorem ggX1_entry_X0_has : GoodIn wsX1_entry wsX0_has := goodIn_r _ [12, 13, 52, 53, 54, 55, 56] (by decide +kernel) (by decide +kernel)
set_option maxRecDepth 20000 in
theorem gX1_entry_X0_has : GoodIn wsX1_entry (wsV RX1 98 RX0 yX0_has wsX0_has) := goodIn_app (goodIn_of _ (by decide +kernel)) ggX1_entry_X0_has
set_option maxRecDepth 20000 in
theorem ggX1_entry_X1_needThere : GoodIn wsX1_entry wsX1_needThere := goodIn_ca (goodIn_r _ [16, 17, 18] (by decide +kernel) (by decide +kernel)) (goodIn_sub (fun _ h => List.mem_cons_of_mem _ (List.mem_append_left _ (List.mem_append_right _ h))) (by decide +kernel))
set_option maxRecDepth 20000 in
theorem gX1_entry_X1_needThere : GoodIn wsX1_entry (va_wsS RX1 36 yX1_needThere wsX1_needThere) := goodIn_app (goodIn_of _ (by decide +kernel)) ggX1_entry_X1_needThere
set_option maxRecDepth 20000 in
theorem ggX1_entry_X1_isWithin : GoodIn wsX1_entry wsX1_isWithin := goodIn_r _ [21] (by decide +kernel) (by decide +kernel)
set_option maxRecDepth 20000 in
theorem gX1_entry_X1_isWithin : GoodIn wsX1_entry (va_wsS RX1 61 yX1_isWithin wsX1_isWithin) := goodIn_app (goodIn_of _ (by decide +kernel)) ggX1_entry_X1_isWithin
set_option maxRecDepth 20000 in
theorem ggX1_entry_X1_needRange : GoodIn wsX1_entry wsX1_needRange := goodIn_ca (goodIn_r _ [24, 25, 26] (by decide +kernel) (by decide +kernel)) (goodIn_sub (fun _ h => List.mem_cons_of_mem _ (List.mem_append_right _ h)) (by decide +kernel))
set_option maxRecDepth 20000 in
theorem gX1_entry_X1_needRange : GoodIn wsX1_entry (va_wsS RX1 65 yX1_needRange wsX1_needRange) := goodIn_app (goodIn_of _ (by decide +kernel)) ggX1_entry_X1_needRange
set_option maxRecDepth 20000 in
theorem ggX1_entry_X0_number : GoodIn wsX1_entry wsX0_number := goodIn_r _ [30, 31, 32, 33, 11, 34, 52, 53, 54, 55, 56] (by decide +kernel) (by decide +kernel)
set_option maxRecDepth 20000 in
theorem gX1_entry_X0_number : GoodIn wsX1_entry (wsV RX1 101 RX0 yX0_number wsX0_number) := goodIn_app (goodIn_of _ (by decide +kernel)) ggX1_entry_X0_number
set_option maxRecDepth 20000 in
theorem ggX1_entry_X0_proof : GoodIn wsX1_entry wsX0_proof := goodIn_r _ [38, 39, 32, 33, 11, 34, 52, 53, 54, 55, 56] (by decide +kernel) (by decide +kernel)
set_option maxRecDepth 20000 in
theorem gX1_entry_X0_proof : GoodIn wsX1_entry (wsV RX1 135 RX0 yX0_proof wsX0_proof) := goodIn_app (goodIn_of _ (by decide +kernel)) ggX1_entry_X0_proof
set_option maxRecDepth 20000 in
theorem ggX1_entry_X0_copies : GoodIn wsX1_entry wsX0_copies := goodIn_r _ [43, 44, 32, 33, 11, 34, 52, 53, 54, 55, 56] (by decide +kernel) (by decide +kernel)
set_option maxRecDepth 20000 in
theorem gX1_entry_X0_copies : GoodIn wsX1_entry (wsV RX1 115 RX0 yX0_copies wsX0_copies) := goodIn_app (goodIn_of _ (by decide +kernel)) ggX1_entry_X0_copies
theorem dX1_entry_0 : decode cX1_entry 0 = .ok (.aload_n 0, 1) := by decide +kernel
theorem dX1_entry_1 : decode cX1_entry 1 = .ok (.iload_n 1, 1) := by decide +kernel
theorem dX1_entry_2 : decode cX1_entry 2 = .ok (.invokevirtual 55, 3) := by decide +kernel
theorem dX1_entry_5 : decode cX1_entry 5 = .ok (.ifCond .eq 19, 3) := by decide +kernel
theorem dX1_entry_8 : decode cX1_entry 8 = .ok (.aload_n 0, 1) := by decide +kernel
theorem dX1_entry_9 : decode cX1_entry 9 = .ok (.getfield 10, 3) := by decide +kernel
theorem dX1_entry_12 : decode cX1_entry 12 = .ok (.iload_n 1, 1) := by decide +kernel
theorem dX1_entry_13 : decode cX1_entry 13 = .ok (.iload_n 2, 1) := by decide +kernel
theorem dX1_entry_14 : decode cX1_entry 14 = .ok (.invokevirtual 98, 3) := by decide +kernel
theorem dX1_entry_17 : decode cX1_entry 17 = .ok (.ifCond .eq 7, 3) := by decide +kernel
theorem dX1_entry_20 : decode cX1_entry 20 = .ok (.iconst 1, 1) := by decide +kernel
theorem dX1_entry_21 : decode cX1_entry 21 = .ok (.goto 4, 3) := by decide +kernel
theorem dX1_entry_24 : decode cX1_entry 24 = .ok (.iconst 0, 1) := by decide +kernel
theorem dX1_entry_25 : decode cX1_entry 25 = .ok (.invokestatic 36, 3) := by decide +kernel
theorem dX1_entry_28 : decode cX1_entry 28 = .ok (.iload_n 3, 1) := by decide +kernel
theorem dX1_entry_29 : decode cX1_entry 29 = .ok (.iconst 0, 1) := by decide +kernel
theorem dX1_entry_30 : decode cX1_entry 30 = .ok (.bipush 7, 2) := by decide +kernel
theorem dX1_entry_32 : decode cX1_entry 32 = .ok (.invokestatic 61, 3) := by decide +kernel
theorem dX1_entry_35 : decode cX1_entry 35 = .ok (.invokestatic 65, 3) := by decide +kernel
theorem dX1_entry_38 : decode cX1_entry 38 = .ok (.iload_n 3, 1) := by decide +kernel
theorem dX1_entry_39 : decode cX1_entry 39 = .ok (.bipush 6, 2) := by decide +kernel
theorem dX1_entry_41 : decode cX1_entry 41 = .ok (.if_icmp .ge 14, 3) := by decide +kernel
theorem dX1_entry_44 : decode cX1_entry 44 = .ok (.aload_n 0, 1) := by decide +kernel
theorem dX1_entry_45 : decode cX1_entry 45 = .ok (.getfield 10, 3) := by decide +kernel
theorem dX1_entry_48 : decode cX1_entry 48 = .ok (.iload_n 1, 1) := by decide +kernel
theorem dX1_entry_49 : decode cX1_entry 49 = .ok (.iload_n 2, 1) := by decide +kernel
theorem dX1_entry_50 : decode cX1_entry 50 = .ok (.iload_n 3, 1) := by decide +kernel
theorem dX1_entry_51 : decode cX1_entry 51 = .ok (.invokevirtual 101, 3) := by decide +kernel
theorem dX1_entry_54 : decode cX1_entry 54 = .ok (.ireturn, 1) := by decide +kernel
theorem dX1_entry_55 : decode cX1_entry 55 = .ok (.iload_n 3, 1) := by decide +kernel
theorem dX1_entry_56 : decode cX1_entry 56 = .ok (.bipush 6, 2) := by decide +kernel
theorem dX1_entry_58 : decode cX1_entry 58 = .ok (.if_icmp .ne 15, 3) := by decide +kernel
theorem dX1_entry_61 : decode cX1_entry 61 = .ok (.aload_n 0, 1) := by decide +kernel
theorem dX1_entry_62 : decode cX1_entry 62 = .ok (.getfield 10, 3) := by decide +kernel
theorem dX1_entry_65 : decode cX1_entry 65 = .ok (.iload_n 1, 1) := by decide +kernel
theorem dX1_entry_66 : decode cX1_entry 66 = .ok (.iload_n 2, 1) := by decide +kernel
theorem dX1_entry_67 : decode cX1_entry 67 = .ok (.invokevirtual 135, 3) := by decide +kernel
theorem dX1_entry_70 : decode cX1_entry 70 = .ok (.goto 12, 3) := by decide +kernel
theorem dX1_entry_73 : decode cX1_entry 73 = .ok (.aload_n 0, 1) := by decide +kernel
theorem dX1_entry_74 : decode cX1_entry 74 = .ok (.getfield 10, 3) := by decide +kernel
theorem dX1_entry_77 : decode cX1_entry 77 = .ok (.iload_n 1, 1) := by decide +kernel
theorem dX1_entry_78 : decode cX1_entry 78 = .ok (.iload_n 2, 1) := by decide +kernel
theorem dX1_entry_79 : decode cX1_entry 79 = .ok (.invokevirtual 115, 3) := by decide +kernel
theorem dX1_entry_82 : decode cX1_entry 82 = .ok (.ireturn, 1) := by decide +kernel
set_option maxRecDepth 20000 in
theorem ggX1_contents_X1_isPallet : GoodIn wsX1_contents wsX1_isPallet := goodIn_r _ [6, 7, 16, 17, 18, 19, 20, 21, 22] (by decide +kernel) (by decide +kernel)
set_option maxRecDepth 20000 in
theorem gX1_contents_X1_isPallet : GoodIn wsX1_contents (wsV RX1 55 RX1 yX1_isPallet wsX1_isPallet) := goodIn_app (goodIn_of _ (by decide +kernel)) ggX1_contents_X1_isPallet
set_option maxRecDepth 20000 in
theorem ggX1_contents_X1_isGood : GoodIn wsX1_contents wsX1_isGood := goodIn_r _ [10] (by decide +kernel) (by decide +kernel)
set_option maxRecDepth 20000 in
theorem gX1_contents_X1_isGood : GoodIn wsX1_contents (va_wsS RX1 58 yX1_isGood wsX1_isGood) := goodIn_app (goodIn_of _ (by decide +kernel)) ggX1_contents_X1_isGood
set_option maxRecDepth 20000 in
theorem ggX1_contents_X1_needThere : GoodIn wsX1_contents wsX1_needThere := goodIn_ca (goodIn_r _ [13, 14, 15] (by decide +kernel) (by decide +kernel)) (goodIn_sub (fun _ h => List.mem_cons_of_mem _ (List.mem_append_right _ h)) (by decide +kernel))
set_option maxRecDepth 20000 in
theorem gX1_contents_X1_needThere : GoodIn wsX1_contents (va_wsS RX1 36 yX1_needThere wsX1_needThere) := goodIn_app (goodIn_of _ (by decide +kernel)) ggX1_contents_X1_needThere
theorem dX1_contents_0 : decode cX1_contents 0 = .ok (.aload_n 0, 1) := by decide +kernel
theorem dX1_contents_1 : decode cX1_contents 1 = .ok (.iload_n 1, 1) := by decide +kernel
theorem dX1_contents_2 : decode cX1_contents 2 = .ok (.invokevirtual 55, 3) := by decide +kernel
theorem dX1_contents_5 : decode cX1_contents 5 = .ok (.ifCond .eq 14, 3) := by decide +kernel
theorem dX1_contents_8 : decode cX1_contents 8 = .ok (.iload_n 2, 1) := by decide +kernel
theorem dX1_contents_9 : decode cX1_contents 9 = .ok (.invokestatic 58, 3) := by decide +kernel
theorem dX1_contents_12 : decode cX1_contents 12 = .ok (.ifCond .eq 7, 3) := by decide +kernel
theorem dX1_contents_15 : decode cX1_contents 15 = .ok (.iconst 1, 1) := by decide +kernel
theorem dX1_contents_16 : decode cX1_contents 16 = .ok (.goto 4, 3) := by decide +kernel
theorem dX1_contents_19 : decode cX1_contents 19 = .ok (.iconst 0, 1) := by decide +kernel
theorem dX1_contents_20 : decode cX1_contents 20 = .ok (.invokestatic 36, 3) := by decide +kernel
theorem dX1_contents_23 : decode cX1_contents 23 = .ok (.aload_n 0, 1) := by decide +kernel
theorem dX1_contents_24 : decode cX1_contents 24 = .ok (.getfield 20, 3) := by decide +kernel
theorem dX1_contents_27 : decode cX1_contents 27 = .ok (.iload_n 1, 1) := by decide +kernel
theorem dX1_contents_28 : decode cX1_contents 28 = .ok (.bipush 6, 2) := by decide +kernel
theorem dX1_contents_30 : decode cX1_contents 30 = .ok (.imul, 1) := by decide +kernel
theorem dX1_contents_31 : decode cX1_contents 31 = .ok (.iload_n 2, 1) := by decide +kernel
theorem dX1_contents_32 : decode cX1_contents 32 = .ok (.iadd, 1) := by decide +kernel
theorem dX1_contents_33 : decode cX1_contents 33 = .ok (.iaload, 1) := by decide +kernel
theorem dX1_contents_34 : decode cX1_contents 34 = .ok (.ireturn, 1) := by decide +kernel
set_option maxRecDepth 20000 in
theorem ggX1_contentsAnew_X1_isPallet : GoodIn wsX1_contentsAnew wsX1_isPallet := goodIn_r _ [5, 6, 56, 57, 58, 59, 60, 61, 62] (by decide +kernel) (by decide +kernel)
set_option maxRecDepth 20000 in
theorem gX1_contentsAnew_X1_isPallet : GoodIn wsX1_contentsAnew (wsV RX1 55 RX1 yX1_isPallet wsX1_isPallet) := goodIn_app (goodIn_of _ (by decide +kernel)) ggX1_contentsAnew_X1_isPallet
set_option maxRecDepth 20000 in
theorem ggX1_contentsAnew_X1_isGood : GoodIn wsX1_contentsAnew wsX1_isGood := goodIn_r _ [9] (by decide +kernel) (by decide +kernel)
set_option maxRecDepth 20000 in
theorem gX1_contentsAnew_X1_isGood : GoodIn wsX1_contentsAnew (va_wsS RX1 58 yX1_isGood wsX1_isGood) := goodIn_app (goodIn_of _ (by decide +kernel)) ggX1_contentsAnew_X1_isGood
set_option maxRecDepth 20000 in
theorem ggX1_contentsAnew_X1_needThere : GoodIn wsX1_contentsAnew wsX1_needThere := goodIn_ca (goodIn_r _ [12, 13, 14] (by decide +kernel) (by decide +kernel)) (goodIn_sub (fun _ h => List.mem_cons_of_mem _ (List.mem_append_right _ h)) (by decide +kernel))
set_option maxRecDepth 20000 in
theorem gX1_contentsAnew_X1_needThere : GoodIn wsX1_contentsAnew (va_wsS RX1 36 yX1_needThere wsX1_needThere) := goodIn_app (goodIn_of _ (by decide +kernel)) ggX1_contentsAnew_X1_needThere
set_option maxRecDepth 20000 in
theorem ggX1_contentsAnew_X1_toldByPapers : GoodIn wsX1_contentsAnew wsX1_toldByPapers := goodIn_r _ [18, 19, 6, 20, 21, 22, 4, 23, 24, 25, 26, 27, 28, 29, 30, 31, 32, 33, 34, 35, 36, 37, 38, 39, 40, 41, 42, 43, 44, 45, 46, 47, 48, 49, 50, 51, 52, 53, 54, 55, 56, 57, 58, 59, 60, 61, 62, 63, 64, 65, 66, 67] (by decide +kernel) (by decide +kernel)
set_option maxRecDepth 20000 in
theorem gX1_contentsAnew_X1_toldByPapers : GoodIn wsX1_contentsAnew (wsV RX1 138 RX1 yX1_toldByPapers wsX1_toldByPapers) := goodIn_app (goodIn_of _ (by decide +kernel)) ggX1_contentsAnew_X1_toldByPapers
theorem dX1_contentsAnew_0 : decode cX1_contentsAnew 0 = .ok (.aload_n 0, 1) := by decide +kernel
theorem dX1_contentsAnew_1 : decode cX1_contentsAnew 1 = .ok (.iload_n 1, 1) := by decide +kernel
theorem dX1_contentsAnew_2 : decode cX1_contentsAnew 2 = .ok (.invokevirtual 55, 3) := by decide +kernel
theorem dX1_contentsAnew_5 : decode cX1_contentsAnew 5 = .ok (.ifCond .eq 14, 3) := by decide +kernel
theorem dX1_contentsAnew_8 : decode cX1_contentsAnew 8 = .ok (.iload_n 2, 1) := by decide +kernel
theorem dX1_contentsAnew_9 : decode cX1_contentsAnew 9 = .ok (.invokestatic 58, 3) := by decide +kernel
theorem dX1_contentsAnew_12 : decode cX1_contentsAnew 12 = .ok (.ifCond .eq 7, 3) := by decide +kernel
theorem dX1_contentsAnew_15 : decode cX1_contentsAnew 15 = .ok (.iconst 1, 1) := by decide +kernel
theorem dX1_contentsAnew_16 : decode cX1_contentsAnew 16 = .ok (.goto 4, 3) := by decide +kernel
theorem dX1_contentsAnew_19 : decode cX1_contentsAnew 19 = .ok (.iconst 0, 1) := by decide +kernel
theorem dX1_contentsAnew_20 : decode cX1_contentsAnew 20 = .ok (.invokestatic 36, 3) := by decide +kernel
theorem dX1_contentsAnew_23 : decode cX1_contentsAnew 23 = .ok (.aload_n 0, 1) := by decide +kernel
theorem dX1_contentsAnew_24 : decode cX1_contentsAnew 24 = .ok (.iload_n 1, 1) := by decide +kernel
theorem dX1_contentsAnew_25 : decode cX1_contentsAnew 25 = .ok (.iload_n 2, 1) := by decide +kernel
theorem dX1_contentsAnew_26 : decode cX1_contentsAnew 26 = .ok (.invokevirtual 138, 3) := by decide +kernel
theorem dX1_contentsAnew_29 : decode cX1_contentsAnew 29 = .ok (.ireturn, 1) := by decide +kernel
set_option maxRecDepth 20000 in
theorem ggX1_declare_X1_isTruck : GoodIn wsX1_declare wsX1_isTruck := goodIn_r _ [5] (by decide +kernel) (by decide +kernel)
set_option maxRecDepth 20000 in
theorem gX1_declare_X1_isTruck : GoodIn wsX1_declare (va_wsS RX1 141 yX1_isTruck wsX1_isTruck) := goodIn_app (goodIn_of _ (by decide +kernel)) ggX1_declare_X1_isTruck
set_option maxRecDepth 20000 in
theorem ggX1_declare_X1_isGood : GoodIn wsX1_declare wsX1_isGood := goodIn_r _ [8] (by decide +kernel) (by decide +kernel)
set_option maxRecDepth 20000 in
theorem gX1_declare_X1_isGood : GoodIn wsX1_declare (va_wsS RX1 58 yX1_isGood wsX1_isGood) := goodIn_app (goodIn_of _ (by decide +kernel)) ggX1_declare_X1_isGood
set_option maxRecDepth 20000 in
theorem ggX1_declare_X1_needThere : GoodIn wsX1_declare wsX1_needThere := goodIn_ca (goodIn_r _ [11, 12, 13] (by decide +kernel) (by decide +kernel)) (goodIn_sub (fun _ h => List.mem_cons_of_mem _ (List.mem_append_left _ (List.mem_append_right _ h))) (by decide +kernel))
set_option maxRecDepth 20000 in
theorem gX1_declare_X1_needThere : GoodIn wsX1_declare (va_wsS RX1 36 yX1_needThere wsX1_needThere) := goodIn_app (goodIn_of _ (by decide +kernel)) ggX1_declare_X1_needThere
set_option maxRecDepth 20000 in
theorem ggX1_declare_X1_isWithin : GoodIn wsX1_declare wsX1_isWithin := goodIn_r _ [16] (by decide +kernel) (by decide +kernel)
set_option maxRecDepth 20000 in
theorem gX1_declare_X1_isWithin : GoodIn wsX1_declare (va_wsS RX1 61 yX1_isWithin wsX1_isWithin) := goodIn_app (goodIn_of _ (by decide +kernel)) ggX1_declare_X1_isWithin
set_option maxRecDepth 20000 in
theorem ggX1_declare_X1_needRange : GoodIn wsX1_declare wsX1_needRange := goodIn_ca (goodIn_r _ [19, 20, 21] (by decide +kernel) (by decide +kernel)) (goodIn_sub (fun _ h => List.mem_cons_of_mem _ (List.mem_append_right _ h)) (by decide +kernel))
set_option maxRecDepth 20000 in
theorem gX1_declare_X1_needRange : GoodIn wsX1_declare (va_wsS RX1 65 yX1_needRange wsX1_needRange) := goodIn_app (goodIn_of _ (by decide +kernel)) ggX1_declare_X1_needRange
theorem dX1_declare_0 : decode cX1_declare 0 = .ok (.iload_n 1, 1) := by decide +kernel
theorem dX1_declare_1 : decode cX1_declare 1 = .ok (.invokestatic 141, 3) := by decide +kernel
theorem dX1_declare_4 : decode cX1_declare 4 = .ok (.ifCond .eq 14, 3) := by decide +kernel
theorem dX1_declare_7 : decode cX1_declare 7 = .ok (.iload_n 2, 1) := by decide +kernel
theorem dX1_declare_8 : decode cX1_declare 8 = .ok (.invokestatic 58, 3) := by decide +kernel
theorem dX1_declare_11 : decode cX1_declare 11 = .ok (.ifCond .eq 7, 3) := by decide +kernel
theorem dX1_declare_14 : decode cX1_declare 14 = .ok (.iconst 1, 1) := by decide +kernel
theorem dX1_declare_15 : decode cX1_declare 15 = .ok (.goto 4, 3) := by decide +kernel
theorem dX1_declare_18 : decode cX1_declare 18 = .ok (.iconst 0, 1) := by decide +kernel
theorem dX1_declare_19 : decode cX1_declare 19 = .ok (.invokestatic 36, 3) := by decide +kernel
theorem dX1_declare_22 : decode cX1_declare 22 = .ok (.iload_n 3, 1) := by decide +kernel
theorem dX1_declare_23 : decode cX1_declare 23 = .ok (.iconst 0, 1) := by decide +kernel
theorem dX1_declare_24 : decode cX1_declare 24 = .ok (.sipush 9999, 3) := by decide +kernel
theorem dX1_declare_27 : decode cX1_declare 27 = .ok (.invokestatic 61, 3) := by decide +kernel
theorem dX1_declare_30 : decode cX1_declare 30 = .ok (.invokestatic 65, 3) := by decide +kernel
theorem dX1_declare_33 : decode cX1_declare 33 = .ok (.iload_n 1, 1) := by decide +kernel
theorem dX1_declare_34 : decode cX1_declare 34 = .ok (.iconst 4, 1) := by decide +kernel
theorem dX1_declare_35 : decode cX1_declare 35 = .ok (.isub, 1) := by decide +kernel
theorem dX1_declare_36 : decode cX1_declare 36 = .ok (.bipush 6, 2) := by decide +kernel
theorem dX1_declare_38 : decode cX1_declare 38 = .ok (.imul, 1) := by decide +kernel
theorem dX1_declare_39 : decode cX1_declare 39 = .ok (.iload_n 2, 1) := by decide +kernel
theorem dX1_declare_40 : decode cX1_declare 40 = .ok (.iadd, 1) := by decide +kernel
theorem dX1_declare_41 : decode cX1_declare 41 = .ok (.istore 4, 2) := by decide +kernel
theorem dX1_declare_43 : decode cX1_declare 43 = .ok (.aload_n 0, 1) := by decide +kernel
theorem dX1_declare_44 : decode cX1_declare 44 = .ok (.getfield 23, 3) := by decide +kernel
theorem dX1_declare_47 : decode cX1_declare 47 = .ok (.iload 4, 2) := by decide +kernel
theorem dX1_declare_49 : decode cX1_declare 49 = .ok (.iaload, 1) := by decide +kernel
theorem dX1_declare_50 : decode cX1_declare 50 = .ok (.istore 5, 2) := by decide +kernel
theorem dX1_declare_52 : decode cX1_declare 52 = .ok (.aload_n 0, 1) := by decide +kernel
theorem dX1_declare_53 : decode cX1_declare 53 = .ok (.getfield 23, 3) := by decide +kernel
theorem dX1_declare_56 : decode cX1_declare 56 = .ok (.iload 4, 2) := by decide +kernel
theorem dX1_declare_58 : decode cX1_declare 58 = .ok (.iload_n 3, 1) := by decide +kernel
theorem dX1_declare_59 : decode cX1_declare 59 = .ok (.iastore, 1) := by decide +kernel
theorem dX1_declare_60 : decode cX1_declare 60 = .ok (.iload 5, 2) := by decide +kernel
theorem dX1_declare_62 : decode cX1_declare 62 = .ok (.ireturn, 1) := by decide +kernel
set_option maxRecDepth 20000 in
theorem ggX1_mismatch_X1_isTruck : GoodIn wsX1_mismatch wsX1_isTruck := goodIn_r _ [9] (by decide +kernel) (by decide +kernel)
set_option maxRecDepth 20000 in
theorem gX1_mismatch_X1_isTruck : GoodIn wsX1_mismatch (va_wsS RX1 141 yX1_isTruck wsX1_isTruck) := goodIn_app (goodIn_of _ (by decide +kernel)) ggX1_mismatch_X1_isTruck
set_option maxRecDepth 20000 in
theorem ggX1_mismatch_X1_needThere : GoodIn wsX1_mismatch wsX1_needThere := goodIn_ca (goodIn_r _ [12, 13, 14] (by decide +kernel) (by decide +kernel)) (goodIn_sub (fun _ h => List.mem_cons_of_mem _ (List.mem_append_right _ h)) (by decide +kernel))
set_option maxRecDepth 20000 in
theorem gX1_mismatch_X1_needThere : GoodIn wsX1_mismatch (va_wsS RX1 36 yX1_needThere wsX1_needThere) := goodIn_app (goodIn_of _ (by decide +kernel)) ggX1_mismatch_X1_needThere
set_option maxRecDepth 20000 in
theorem ggX1_mismatch_X1_toldOfTruck : GoodIn wsX1_mismatch wsX1_toldOfTruck := goodIn_r _ [18, 19, 20, 21, 22, 23, 8, 24, 25, 26, 27, 28, 29, 30, 31, 32, 33, 34, 35, 36, 37, 38, 39, 40, 41, 42, 43, 44, 45, 46, 47, 48, 49, 50, 51, 52, 53, 54, 55, 56, 57, 58, 59, 60, 61, 62, 63, 64, 65, 66, 67, 68, 69, 70, 71, 72, 73] (by decide +kernel) (by decide +kernel)
set_option maxRecDepth 20000 in
theorem gX1_mismatch_X1_toldOfTruck : GoodIn wsX1_mismatch (wsV RX1 144 RX1 yX1_toldOfTruck wsX1_toldOfTruck) := goodIn_app (goodIn_of _ (by decide +kernel)) ggX1_mismatch_X1_toldOfTruck
theorem dX1_mismatch_0 : decode cX1_mismatch 0 = .ok (.iload_n 1, 1) := by decide +kernel
theorem dX1_mismatch_1 : decode cX1_mismatch 1 = .ok (.invokestatic 141, 3) := by decide +kernel
theorem dX1_mismatch_4 : decode cX1_mismatch 4 = .ok (.invokestatic 36, 3) := by decide +kernel
theorem dX1_mismatch_7 : decode cX1_mismatch 7 = .ok (.iconst 0, 1) := by decide +kernel
theorem dX1_mismatch_8 : decode cX1_mismatch 8 = .ok (.istore_n 2, 1) := by decide +kernel
theorem dX1_mismatch_9 : decode cX1_mismatch 9 = .ok (.iconst 0, 1) := by decide +kernel
theorem dX1_mismatch_10 : decode cX1_mismatch 10 = .ok (.istore_n 3, 1) := by decide +kernel
theorem dX1_mismatch_11 : decode cX1_mismatch 11 = .ok (.iload_n 3, 1) := by decide +kernel
theorem dX1_mismatch_12 : decode cX1_mismatch 12 = .ok (.bipush 6, 2) := by decide +kernel
theorem dX1_mismatch_14 : decode cX1_mismatch 14 = .ok (.if_icmp .ge 35, 3) := by decide +kernel
theorem dX1_mismatch_17 : decode cX1_mismatch 17 = .ok (.iload_n 2, 1) := by decide +kernel
theorem dX1_mismatch_18 : decode cX1_mismatch 18 = .ok (.aload_n 0, 1) := by decide +kernel
theorem dX1_mismatch_19 : decode cX1_mismatch 19 = .ok (.getfield 23, 3) := by decide +kernel
theorem dX1_mismatch_22 : decode cX1_mismatch 22 = .ok (.iload_n 1, 1) := by decide +kernel
theorem dX1_mismatch_23 : decode cX1_mismatch 23 = .ok (.iconst 4, 1) := by decide +kernel
theorem dX1_mismatch_24 : decode cX1_mismatch 24 = .ok (.isub, 1) := by decide +kernel
theorem dX1_mismatch_25 : decode cX1_mismatch 25 = .ok (.bipush 6, 2) := by decide +kernel
theorem dX1_mismatch_27 : decode cX1_mismatch 27 = .ok (.imul, 1) := by decide +kernel
theorem dX1_mismatch_28 : decode cX1_mismatch 28 = .ok (.iload_n 3, 1) := by decide +kernel
theorem dX1_mismatch_29 : decode cX1_mismatch 29 = .ok (.iadd, 1) := by decide +kernel
theorem dX1_mismatch_30 : decode cX1_mismatch 30 = .ok (.iaload, 1) := by decide +kernel
theorem dX1_mismatch_31 : decode cX1_mismatch 31 = .ok (.aload_n 0, 1) := by decide +kernel
theorem dX1_mismatch_32 : decode cX1_mismatch 32 = .ok (.iload_n 1, 1) := by decide +kernel
theorem dX1_mismatch_33 : decode cX1_mismatch 33 = .ok (.iload_n 3, 1) := by decide +kernel
theorem dX1_mismatch_34 : decode cX1_mismatch 34 = .ok (.invokevirtual 144, 3) := by decide +kernel
theorem dX1_mismatch_37 : decode cX1_mismatch 37 = .ok (.isub, 1) := by decide +kernel
theorem dX1_mismatch_38 : decode cX1_mismatch 38 = .ok (.invokestatic 147, 3) := by decide +kernel
theorem dX1_mismatch_41 : decode cX1_mismatch 41 = .ok (.iadd, 1) := by decide +kernel
theorem dX1_mismatch_42 : decode cX1_mismatch 42 = .ok (.istore_n 2, 1) := by decide +kernel
theorem dX1_mismatch_43 : decode cX1_mismatch 43 = .ok (.iinc 3 1, 3) := by decide +kernel
theorem dX1_mismatch_46 : decode cX1_mismatch 46 = .ok (.goto (-35), 3) := by decide +kernel
theorem dX1_mismatch_49 : decode cX1_mismatch 49 = .ok (.iload_n 2, 1) := by decide +kernel
theorem dX1_mismatch_50 : decode cX1_mismatch 50 = .ok (.ireturn, 1) := by decide +kernel
set_option maxRecDepth 20000 in
theorem ggX1_fee_X1_isWithin : GoodIn wsX1_fee wsX1_isWithin := goodIn_r _ [5] (by decide +kernel) (by decide +kernel)
set_option maxRecDepth 20000 in
theorem gX1_fee_X1_isWithin : GoodIn wsX1_fee (va_wsS RX1 61 yX1_isWithin wsX1_isWithin) := goodIn_app (goodIn_of _ (by decide +kernel)) ggX1_fee_X1_isWithin
set_option maxRecDepth 20000 in
theorem ggX1_fee_X1_needRange : GoodIn wsX1_fee wsX1_needRange := goodIn_ca (goodIn_r _ [8, 9, 10] (by decide +kernel) (by decide +kernel)) (goodIn_sub (fun _ h => List.mem_cons_of_mem _ (List.mem_append_right _ h)) (by decide +kernel))
set_option maxRecDepth 20000 in
theorem gX1_fee_X1_needRange : GoodIn wsX1_fee (va_wsS RX1 65 yX1_needRange wsX1_needRange) := goodIn_app (goodIn_of _ (by decide +kernel)) ggX1_fee_X1_needRange
theorem dX1_fee_0 : decode cX1_fee 0 = .ok (.iload_n 1, 1) := by decide +kernel
theorem dX1_fee_1 : decode cX1_fee 1 = .ok (.iconst 0, 1) := by decide +kernel
theorem dX1_fee_2 : decode cX1_fee 2 = .ok (.bipush 9, 2) := by decide +kernel
theorem dX1_fee_4 : decode cX1_fee 4 = .ok (.invokestatic 61, 3) := by decide +kernel
theorem dX1_fee_7 : decode cX1_fee 7 = .ok (.ifCond .eq 17, 3) := by decide +kernel
theorem dX1_fee_10 : decode cX1_fee 10 = .ok (.iload_n 2, 1) := by decide +kernel
theorem dX1_fee_11 : decode cX1_fee 11 = .ok (.iconst 0, 1) := by decide +kernel
theorem dX1_fee_12 : decode cX1_fee 12 = .ok (.bipush 99, 2) := by decide +kernel
theorem dX1_fee_14 : decode cX1_fee 14 = .ok (.invokestatic 61, 3) := by decide +kernel
theorem dX1_fee_17 : decode cX1_fee 17 = .ok (.ifCond .eq 7, 3) := by decide +kernel
theorem dX1_fee_20 : decode cX1_fee 20 = .ok (.iconst 1, 1) := by decide +kernel
theorem dX1_fee_21 : decode cX1_fee 21 = .ok (.goto 4, 3) := by decide +kernel
theorem dX1_fee_24 : decode cX1_fee 24 = .ok (.iconst 0, 1) := by decide +kernel
theorem dX1_fee_25 : decode cX1_fee 25 = .ok (.invokestatic 65, 3) := by decide +kernel
theorem dX1_fee_28 : decode cX1_fee 28 = .ok (.aload_n 0, 1) := by decide +kernel
theorem dX1_fee_29 : decode cX1_fee 29 = .ok (.getfield 26, 3) := by decide +kernel
theorem dX1_fee_32 : decode cX1_fee 32 = .ok (.iload_n 1, 1) := by decide +kernel
theorem dX1_fee_33 : decode cX1_fee 33 = .ok (.iaload, 1) := by decide +kernel
theorem dX1_fee_34 : decode cX1_fee 34 = .ok (.istore_n 3, 1) := by decide +kernel
theorem dX1_fee_35 : decode cX1_fee 35 = .ok (.aload_n 0, 1) := by decide +kernel
theorem dX1_fee_36 : decode cX1_fee 36 = .ok (.getfield 26, 3) := by decide +kernel
theorem dX1_fee_39 : decode cX1_fee 39 = .ok (.iload_n 1, 1) := by decide +kernel
theorem dX1_fee_40 : decode cX1_fee 40 = .ok (.iload_n 2, 1) := by decide +kernel
theorem dX1_fee_41 : decode cX1_fee 41 = .ok (.iastore, 1) := by decide +kernel
theorem dX1_fee_42 : decode cX1_fee 42 = .ok (.iload_n 3, 1) := by decide +kernel
theorem dX1_fee_43 : decode cX1_fee 43 = .ok (.ireturn, 1) := by decide +kernel
set_option maxRecDepth 20000 in
theorem ggX1_owed_X1_isOwer : GoodIn wsX1_owed wsX1_isOwer := goodIn_r _ [5] (by decide +kernel) (by decide +kernel)
set_option maxRecDepth 20000 in
theorem gX1_owed_X1_isOwer : GoodIn wsX1_owed (va_wsS RX1 109 yX1_isOwer wsX1_isOwer) := goodIn_app (goodIn_of _ (by decide +kernel)) ggX1_owed_X1_isOwer
set_option maxRecDepth 20000 in
theorem ggX1_owed_X1_needThere : GoodIn wsX1_owed wsX1_needThere := goodIn_ca (goodIn_r _ [8, 9, 10] (by decide +kernel) (by decide +kernel)) (goodIn_sub (fun _ h => List.mem_cons_of_mem _ (List.mem_append_right _ h)) (by decide +kernel))
set_option maxRecDepth 20000 in
theorem gX1_owed_X1_needThere : GoodIn wsX1_owed (va_wsS RX1 36 yX1_needThere wsX1_needThere) := goodIn_app (goodIn_of _ (by decide +kernel)) ggX1_owed_X1_needThere
theorem dX1_owed_0 : decode cX1_owed 0 = .ok (.iload_n 1, 1) := by decide +kernel
theorem dX1_owed_1 : decode cX1_owed 1 = .ok (.invokestatic 109, 3) := by decide +kernel
theorem dX1_owed_4 : decode cX1_owed 4 = .ok (.invokestatic 36, 3) := by decide +kernel
theorem dX1_owed_7 : decode cX1_owed 7 = .ok (.aload_n 0, 1) := by decide +kernel
theorem dX1_owed_8 : decode cX1_owed 8 = .ok (.getfield 29, 3) := by decide +kernel
theorem dX1_owed_11 : decode cX1_owed 11 = .ok (.iload_n 1, 1) := by decide +kernel
theorem dX1_owed_12 : decode cX1_owed 12 = .ok (.iaload, 1) := by decide +kernel
theorem dX1_owed_13 : decode cX1_owed 13 = .ok (.ireturn, 1) := by decide +kernel
theorem dX1_needThere_0 : decode cX1_needThere 0 = .ok (.iload_n 0, 1) := by decide +kernel
theorem dX1_needThere_1 : decode cX1_needThere 1 = .ok (.ifCond .ne 13, 3) := by decide +kernel
theorem dX1_needThere_4 : decode cX1_needThere 4 = .ok (.new 152, 3) := by decide +kernel
theorem dX1_needThere_7 : decode cX1_needThere 7 = .ok (.dup, 1) := by decide +kernel
theorem dX1_needThere_8 : decode cX1_needThere 8 = .ok (.ldc 154, 2) := by decide +kernel
theorem dX1_needThere_10 : decode cX1_needThere 10 = .ok (.invokespecial 156, 3) := by decide +kernel
theorem dX1_needThere_13 : decode cX1_needThere 13 = .ok (.athrow, 1) := by decide +kernel
theorem dX1_needThere_14 : decode cX1_needThere 14 = .ok (.return_, 1) := by decide +kernel
theorem dX1_needRange_0 : decode cX1_needRange 0 = .ok (.iload_n 0, 1) := by decide +kernel
theorem dX1_needRange_1 : decode cX1_needRange 1 = .ok (.ifCond .ne 13, 3) := by decide +kernel
theorem dX1_needRange_4 : decode cX1_needRange 4 = .ok (.new 159, 3) := by decide +kernel
theorem dX1_needRange_7 : decode cX1_needRange 7 = .ok (.dup, 1) := by decide +kernel
theorem dX1_needRange_8 : decode cX1_needRange 8 = .ok (.ldc 161, 2) := by decide +kernel
theorem dX1_needRange_10 : decode cX1_needRange 10 = .ok (.invokespecial 163, 3) := by decide +kernel
theorem dX1_needRange_13 : decode cX1_needRange 13 = .ok (.athrow, 1) := by decide +kernel
theorem dX1_needRange_14 : decode cX1_needRange 14 = .ok (.return_, 1) := by decide +kernel
theorem dX1_needState_0 : decode cX1_needState 0 = .ok (.iload_n 0, 1) := by decide +kernel
theorem dX1_needState_1 : decode cX1_needState 1 = .ok (.ifCond .ne 13, 3) := by decide +kernel
theorem dX1_needState_4 : decode cX1_needState 4 = .ok (.new 164, 3) := by decide +kernel
theorem dX1_needState_7 : decode cX1_needState 7 = .ok (.dup, 1) := by decide +kernel
theorem dX1_needState_8 : decode cX1_needState 8 = .ok (.ldc 166, 2) := by decide +kernel
theorem dX1_needState_10 : decode cX1_needState 10 = .ok (.invokespecial 168, 3) := by decide +kernel
theorem dX1_needState_13 : decode cX1_needState 13 = .ok (.athrow, 1) := by decide +kernel
theorem dX1_needState_14 : decode cX1_needState 14 = .ok (.return_, 1) := by decide +kernel
theorem dX1_isWithin_0 : decode cX1_isWithin 0 = .ok (.iload_n 0, 1) := by decide +kernel
theorem dX1_isWithin_1 : decode cX1_isWithin 1 = .ok (.iload_n 1, 1) := by decide +kernel
theorem dX1_isWithin_2 : decode cX1_isWithin 2 = .ok (.if_icmp .lt 12, 3) := by decide +kernel
theorem dX1_isWithin_5 : decode cX1_isWithin 5 = .ok (.iload_n 0, 1) := by decide +kernel
theorem dX1_isWithin_6 : decode cX1_isWithin 6 = .ok (.iload_n 2, 1) := by decide +kernel
theorem dX1_isWithin_7 : decode cX1_isWithin 7 = .ok (.if_icmp .gt 7, 3) := by decide +kernel
theorem dX1_isWithin_10 : decode cX1_isWithin 10 = .ok (.iconst 1, 1) := by decide +kernel
theorem dX1_isWithin_11 : decode cX1_isWithin 11 = .ok (.goto 4, 3) := by decide +kernel
theorem dX1_isWithin_14 : decode cX1_isWithin 14 = .ok (.iconst 0, 1) := by decide +kernel
theorem dX1_isWithin_15 : decode cX1_isWithin 15 = .ok (.ireturn, 1) := by decide +kernel
theorem dX1_isPallet_0 : decode cX1_isPallet 0 = .ok (.iload_n 1, 1) := by decide +kernel
theorem dX1_isPallet_1 : decode cX1_isPallet 1 = .ok (.ifCond .lt 15, 3) := by decide +kernel
theorem dX1_isPallet_4 : decode cX1_isPallet 4 = .ok (.iload_n 1, 1) := by decide +kernel
theorem dX1_isPallet_5 : decode cX1_isPallet 5 = .ok (.aload_n 0, 1) := by decide +kernel
theorem dX1_isPallet_6 : decode cX1_isPallet 6 = .ok (.getfield 40, 3) := by decide +kernel
theorem dX1_isPallet_9 : decode cX1_isPallet 9 = .ok (.if_icmp .ge 7, 3) := by decide +kernel
theorem dX1_isPallet_12 : decode cX1_isPallet 12 = .ok (.iconst 1, 1) := by decide +kernel
theorem dX1_isPallet_13 : decode cX1_isPallet 13 = .ok (.goto 4, 3) := by decide +kernel
theorem dX1_isPallet_16 : decode cX1_isPallet 16 = .ok (.iconst 0, 1) := by decide +kernel
theorem dX1_isPallet_17 : decode cX1_isPallet 17 = .ok (.ireturn, 1) := by decide +kernel
theorem dX1_isGood_0 : decode cX1_isGood 0 = .ok (.iload_n 0, 1) := by decide +kernel
theorem dX1_isGood_1 : decode cX1_isGood 1 = .ok (.ifCond .lt 13, 3) := by decide +kernel
theorem dX1_isGood_4 : decode cX1_isGood 4 = .ok (.iload_n 0, 1) := by decide +kernel
theorem dX1_isGood_5 : decode cX1_isGood 5 = .ok (.bipush 6, 2) := by decide +kernel
theorem dX1_isGood_7 : decode cX1_isGood 7 = .ok (.if_icmp .ge 7, 3) := by decide +kernel
theorem dX1_isGood_10 : decode cX1_isGood 10 = .ok (.iconst 1, 1) := by decide +kernel
theorem dX1_isGood_11 : decode cX1_isGood 11 = .ok (.goto 4, 3) := by decide +kernel
theorem dX1_isGood_14 : decode cX1_isGood 14 = .ok (.iconst 0, 1) := by decide +kernel
theorem dX1_isGood_15 : decode cX1_isGood 15 = .ok (.ireturn, 1) := by decide +kernel
theorem dX1_isDock_0 : decode cX1_isDock 0 = .ok (.iload_n 0, 1) := by decide +kernel
theorem dX1_isDock_1 : decode cX1_isDock 1 = .ok (.ifCond .lt 12, 3) := by decide +kernel
theorem dX1_isDock_4 : decode cX1_isDock 4 = .ok (.iload_n 0, 1) := by decide +kernel
theorem dX1_isDock_5 : decode cX1_isDock 5 = .ok (.iconst 4, 1) := by decide +kernel
theorem dX1_isDock_6 : decode cX1_isDock 6 = .ok (.if_icmp .ge 7, 3) := by decide +kernel
theorem dX1_isDock_9 : decode cX1_isDock 9 = .ok (.iconst 1, 1) := by decide +kernel
theorem dX1_isDock_10 : decode cX1_isDock 10 = .ok (.goto 4, 3) := by decide +kernel
theorem dX1_isDock_13 : decode cX1_isDock 13 = .ok (.iconst 0, 1) := by decide +kernel
theorem dX1_isDock_14 : decode cX1_isDock 14 = .ok (.ireturn, 1) := by decide +kernel
theorem dX1_isTruck_0 : decode cX1_isTruck 0 = .ok (.iload_n 0, 1) := by decide +kernel
theorem dX1_isTruck_1 : decode cX1_isTruck 1 = .ok (.iconst 4, 1) := by decide +kernel
theorem dX1_isTruck_2 : decode cX1_isTruck 2 = .ok (.if_icmp .lt 13, 3) := by decide +kernel
theorem dX1_isTruck_5 : decode cX1_isTruck 5 = .ok (.iload_n 0, 1) := by decide +kernel
theorem dX1_isTruck_6 : decode cX1_isTruck 6 = .ok (.bipush 6, 2) := by decide +kernel
theorem dX1_isTruck_8 : decode cX1_isTruck 8 = .ok (.if_icmp .ge 7, 3) := by decide +kernel
theorem dX1_isTruck_11 : decode cX1_isTruck 11 = .ok (.iconst 1, 1) := by decide +kernel
theorem dX1_isTruck_12 : decode cX1_isTruck 12 = .ok (.goto 4, 3) := by decide +kernel
theorem dX1_isTruck_15 : decode cX1_isTruck 15 = .ok (.iconst 0, 1) := by decide +kernel
theorem dX1_isTruck_16 : decode cX1_isTruck 16 = .ok (.ireturn, 1) := by decide +kernel
theorem dX1_isHolder_0 : decode cX1_isHolder 0 = .ok (.iload_n 0, 1) := by decide +kernel
theorem dX1_isHolder_1 : decode cX1_isHolder 1 = .ok (.ifCond .lt 13, 3) := by decide +kernel
theorem dX1_isHolder_4 : decode cX1_isHolder 4 = .ok (.iload_n 0, 1) := by decide +kernel
theorem dX1_isHolder_5 : decode cX1_isHolder 5 = .ok (.bipush 6, 2) := by decide +kernel
theorem dX1_isHolder_7 : decode cX1_isHolder 7 = .ok (.if_icmp .ge 7, 3) := by decide +kernel
theorem dX1_isHolder_10 : decode cX1_isHolder 10 = .ok (.iconst 1, 1) := by decide +kernel
theorem dX1_isHolder_11 : decode cX1_isHolder 11 = .ok (.goto 4, 3) := by decide +kernel
theorem dX1_isHolder_14 : decode cX1_isHolder 14 = .ok (.iconst 0, 1) := by decide +kernel
theorem dX1_isHolder_15 : decode cX1_isHolder 15 = .ok (.ireturn, 1) := by decide +kernel
theorem dX1_isOwer_0 : decode cX1_isOwer 0 = .ok (.iload_n 0, 1) := by decide +kernel
theorem dX1_isOwer_1 : decode cX1_isOwer 1 = .ok (.ifCond .lt 13, 3) := by decide +kernel
theorem dX1_isOwer_4 : decode cX1_isOwer 4 = .ok (.iload_n 0, 1) := by decide +kernel
theorem dX1_isOwer_5 : decode cX1_isOwer 5 = .ok (.bipush 7, 2) := by decide +kernel
theorem dX1_isOwer_7 : decode cX1_isOwer 7 = .ok (.if_icmp .ge 7, 3) := by decide +kernel
theorem dX1_isOwer_10 : decode cX1_isOwer 10 = .ok (.iconst 1, 1) := by decide +kernel
theorem dX1_isOwer_11 : decode cX1_isOwer 11 = .ok (.goto 4, 3) := by decide +kernel
theorem dX1_isOwer_14 : decode cX1_isOwer 14 = .ok (.iconst 0, 1) := by decide +kernel
theorem dX1_isOwer_15 : decode cX1_isOwer 15 = .ok (.ireturn, 1) := by decide +kernel
theorem dX1_stand_0 : decode cX1_stand 0 = .ok (.aload_n 0, 1) := by decide +kernel
theorem dX1_stand_1 : decode cX1_stand 1 = .ok (.getfield 40, 3) := by decide +kernel
theorem dX1_stand_4 : decode cX1_stand 4 = .ok (.istore_n 2, 1) := by decide +kernel
theorem dX1_stand_5 : decode cX1_stand 5 = .ok (.aload_n 0, 1) := by decide +kernel
theorem dX1_stand_6 : decode cX1_stand 6 = .ok (.getfield 16, 3) := by decide +kernel
theorem dX1_stand_9 : decode cX1_stand 9 = .ok (.iload_n 2, 1) := by decide +kernel
theorem dX1_stand_10 : decode cX1_stand 10 = .ok (.iload_n 1, 1) := by decide +kernel
theorem dX1_stand_11 : decode cX1_stand 11 = .ok (.iastore, 1) := by decide +kernel
theorem dX1_stand_12 : decode cX1_stand 12 = .ok (.aload_n 0, 1) := by decide +kernel
theorem dX1_stand_13 : decode cX1_stand 13 = .ok (.dup, 1) := by decide +kernel
theorem dX1_stand_14 : decode cX1_stand 14 = .ok (.getfield 40, 3) := by decide +kernel
theorem dX1_stand_17 : decode cX1_stand 17 = .ok (.iconst 1, 1) := by decide +kernel
theorem dX1_stand_18 : decode cX1_stand 18 = .ok (.iadd, 1) := by decide +kernel
theorem dX1_stand_19 : decode cX1_stand 19 = .ok (.putfield 40, 3) := by decide +kernel
theorem dX1_stand_22 : decode cX1_stand 22 = .ok (.iload_n 2, 1) := by decide +kernel
theorem dX1_stand_23 : decode cX1_stand 23 = .ok (.ireturn, 1) := by decide +kernel
set_option maxRecDepth 20000 in
theorem ggX1_write_X0_add : GoodIn wsX1_write wsX0_add := goodIn_r _ [9, 10, 11, 12, 13, 14, 15, 16, 8, 17, 18, 19, 20, 21, 22, 23, 24, 32, 33, 34, 35, 36] (by decide +kernel) (by decide +kernel)
set_option maxRecDepth 20000 in
theorem gX1_write_X0_add : GoodIn wsX1_write (wsV RX1 169 RX0 yX0_add wsX0_add) := goodIn_app (goodIn_of _ (by decide +kernel)) ggX1_write_X0_add
theorem dX1_write_0 : decode cX1_write 0 = .ok (.iload_n 2, 1) := by decide +kernel
theorem dX1_write_1 : decode cX1_write 1 = .ok (.bipush 8, 2) := by decide +kernel
theorem dX1_write_3 : decode cX1_write 3 = .ok (.if_icmp .eq 9, 3) := by decide +kernel
theorem dX1_write_6 : decode cX1_write 6 = .ok (.iload_n 2, 1) := by decide +kernel
theorem dX1_write_7 : decode cX1_write 7 = .ok (.bipush 9, 2) := by decide +kernel
theorem dX1_write_9 : decode cX1_write 9 = .ok (.if_icmp .ne 8, 3) := by decide +kernel
theorem dX1_write_12 : decode cX1_write 12 = .ok (.bipush 6, 2) := by decide +kernel
theorem dX1_write_14 : decode cX1_write 14 = .ok (.goto 9, 3) := by decide +kernel
theorem dX1_write_17 : decode cX1_write 17 = .ok (.aload_n 0, 1) := by decide +kernel
theorem dX1_write_18 : decode cX1_write 18 = .ok (.getfield 16, 3) := by decide +kernel
theorem dX1_write_21 : decode cX1_write 21 = .ok (.iload_n 1, 1) := by decide +kernel
theorem dX1_write_22 : decode cX1_write 22 = .ok (.iaload, 1) := by decide +kernel
theorem dX1_write_23 : decode cX1_write 23 = .ok (.istore 7, 2) := by decide +kernel
theorem dX1_write_25 : decode cX1_write 25 = .ok (.aload_n 0, 1) := by decide +kernel
theorem dX1_write_26 : decode cX1_write 26 = .ok (.getfield 10, 3) := by decide +kernel
theorem dX1_write_29 : decode cX1_write 29 = .ok (.iload_n 1, 1) := by decide +kernel
theorem dX1_write_30 : decode cX1_write 30 = .ok (.iload_n 2, 1) := by decide +kernel
theorem dX1_write_31 : decode cX1_write 31 = .ok (.iload 7, 2) := by decide +kernel
theorem dX1_write_33 : decode cX1_write 33 = .ok (.iload_n 3, 1) := by decide +kernel
theorem dX1_write_34 : decode cX1_write 34 = .ok (.iload 4, 2) := by decide +kernel
theorem dX1_write_36 : decode cX1_write 36 = .ok (.iload 5, 2) := by decide +kernel
theorem dX1_write_38 : decode cX1_write 38 = .ok (.iload 6, 2) := by decide +kernel
theorem dX1_write_40 : decode cX1_write 40 = .ok (.invokevirtual 169, 3) := by decide +kernel
theorem dX1_write_43 : decode cX1_write 43 = .ok (.aload_n 0, 1) := by decide +kernel
theorem dX1_write_44 : decode cX1_write 44 = .ok (.getfield 29, 3) := by decide +kernel
theorem dX1_write_47 : decode cX1_write 47 = .ok (.iload 7, 2) := by decide +kernel
theorem dX1_write_49 : decode cX1_write 49 = .ok (.dup2, 1) := by decide +kernel
theorem dX1_write_50 : decode cX1_write 50 = .ok (.iaload, 1) := by decide +kernel
theorem dX1_write_51 : decode cX1_write 51 = .ok (.aload_n 0, 1) := by decide +kernel
theorem dX1_write_52 : decode cX1_write 52 = .ok (.getfield 26, 3) := by decide +kernel
theorem dX1_write_55 : decode cX1_write 55 = .ok (.iload_n 2, 1) := by decide +kernel
theorem dX1_write_56 : decode cX1_write 56 = .ok (.iaload, 1) := by decide +kernel
theorem dX1_write_57 : decode cX1_write 57 = .ok (.iadd, 1) := by decide +kernel
theorem dX1_write_58 : decode cX1_write 58 = .ok (.iastore, 1) := by decide +kernel
theorem dX1_write_59 : decode cX1_write 59 = .ok (.return_, 1) := by decide +kernel
set_option maxRecDepth 20000 in
theorem ggX1_isHeld_X0_lastKind : GoodIn wsX1_isHeld wsX0_lastKind := goodIn_r _ [6, 7, 8, 9, 10, 5, 11, 12, 13, 14, 15, 23, 24, 25, 26, 27] (by decide +kernel) (by decide +kernel)
set_option maxRecDepth 20000 in
theorem gX1_isHeld_X0_lastKind : GoodIn wsX1_isHeld (wsV RX1 173 RX0 yX0_lastKind wsX0_lastKind) := goodIn_app (goodIn_of _ (by decide +kernel)) ggX1_isHeld_X0_lastKind
theorem dX1_isHeld_0 : decode cX1_isHeld 0 = .ok (.aload_n 0, 1) := by decide +kernel
theorem dX1_isHeld_1 : decode cX1_isHeld 1 = .ok (.getfield 10, 3) := by decide +kernel
theorem dX1_isHeld_4 : decode cX1_isHeld 4 = .ok (.iload_n 1, 1) := by decide +kernel
theorem dX1_isHeld_5 : decode cX1_isHeld 5 = .ok (.invokevirtual 173, 3) := by decide +kernel
theorem dX1_isHeld_8 : decode cX1_isHeld 8 = .ok (.bipush 8, 2) := by decide +kernel
theorem dX1_isHeld_10 : decode cX1_isHeld 10 = .ok (.if_icmp .ne 7, 3) := by decide +kernel
theorem dX1_isHeld_13 : decode cX1_isHeld 13 = .ok (.iconst 1, 1) := by decide +kernel
theorem dX1_isHeld_14 : decode cX1_isHeld 14 = .ok (.goto 4, 3) := by decide +kernel
theorem dX1_isHeld_17 : decode cX1_isHeld 17 = .ok (.iconst 0, 1) := by decide +kernel
theorem dX1_isHeld_18 : decode cX1_isHeld 18 = .ok (.ireturn, 1) := by decide +kernel
set_option maxRecDepth 20000 in
theorem ggX1_isGone_X0_lastKind : GoodIn wsX1_isGone wsX0_lastKind := goodIn_r _ [6, 7, 8, 9, 10, 5, 11, 12, 13, 14, 15, 23, 24, 25, 26, 27] (by decide +kernel) (by decide +kernel)
set_option maxRecDepth 20000 in
theorem gX1_isGone_X0_lastKind : GoodIn wsX1_isGone (wsV RX1 173 RX0 yX0_lastKind wsX0_lastKind) := goodIn_app (goodIn_of _ (by decide +kernel)) ggX1_isGone_X0_lastKind
theorem dX1_isGone_0 : decode cX1_isGone 0 = .ok (.aload_n 0, 1) := by decide +kernel
theorem dX1_isGone_1 : decode cX1_isGone 1 = .ok (.getfield 10, 3) := by decide +kernel
theorem dX1_isGone_4 : decode cX1_isGone 4 = .ok (.iload_n 1, 1) := by decide +kernel
theorem dX1_isGone_5 : decode cX1_isGone 5 = .ok (.invokevirtual 173, 3) := by decide +kernel
theorem dX1_isGone_8 : decode cX1_isGone 8 = .ok (.bipush 6, 2) := by decide +kernel
theorem dX1_isGone_10 : decode cX1_isGone 10 = .ok (.if_icmp .ne 7, 3) := by decide +kernel
theorem dX1_isGone_13 : decode cX1_isGone 13 = .ok (.iconst 1, 1) := by decide +kernel
theorem dX1_isGone_14 : decode cX1_isGone 14 = .ok (.goto 4, 3) := by decide +kernel
theorem dX1_isGone_17 : decode cX1_isGone 17 = .ok (.iconst 0, 1) := by decide +kernel
theorem dX1_isGone_18 : decode cX1_isGone 18 = .ok (.ireturn, 1) := by decide +kernel
set_option maxRecDepth 20000 in
theorem ggX1_isWorkable_X1_isHeld : GoodIn wsX1_isWorkable wsX1_isHeld := goodIn_r _ [6, 1, 7, 8, 9, 10, 11, 12, 13, 14, 15, 16, 17, 18, 19, 20, 62, 63, 64, 65, 66, 67, 68, 69, 70, 71, 72, 73] (by decide +kernel) (by decide +kernel)
set_option maxRecDepth 20000 in
theorem gX1_isWorkable_X1_isHeld : GoodIn wsX1_isWorkable (wsV RX1 95 RX1 yX1_isHeld wsX1_isHeld) := goodIn_app (goodIn_of _ (by decide +kernel)) ggX1_isWorkable_X1_isHeld
set_option maxRecDepth 20000 in
theorem ggX1_isWorkable_X1_isGone : GoodIn wsX1_isWorkable wsX1_isGone := goodIn_r _ [24, 1, 7, 8, 9, 10, 11, 12, 13, 14, 15, 16, 17, 18, 19, 20, 62, 63, 64, 65, 66, 67, 68, 69, 70, 71, 72, 73] (by decide +kernel) (by decide +kernel)
set_option maxRecDepth 20000 in
theorem gX1_isWorkable_X1_isGone : GoodIn wsX1_isWorkable (wsV RX1 90 RX1 yX1_isGone wsX1_isGone) := goodIn_app (goodIn_of _ (by decide +kernel)) ggX1_isWorkable_X1_isGone
set_option maxRecDepth 20000 in
theorem ggX1_isWorkable_X0_hasRoom : GoodIn wsX1_isWorkable wsX0_hasRoom := goodIn_r _ [28, 12, 69, 70, 71, 72, 73] (by decide +kernel) (by decide +kernel)
set_option maxRecDepth 20000 in
theorem gX1_isWorkable_X0_hasRoom : GoodIn wsX1_isWorkable (wsV RX1 93 RX0 yX0_hasRoom wsX0_hasRoom) := goodIn_app (goodIn_of _ (by decide +kernel)) ggX1_isWorkable_X0_hasRoom
set_option maxRecDepth 20000 in
theorem ggX1_isWorkable_X1_allAreUnbroken : GoodIn wsX1_isWorkable wsX1_allAreUnbroken := goodIn_r _ [32, 1, 33, 34, 35, 36, 10, 37, 38, 5, 39, 40, 41, 42, 43, 12, 13, 14, 15, 16, 17, 18, 19, 20, 44, 45, 46, 47, 48, 49, 50, 51, 52, 53, 54, 55, 56, 57, 58, 59, 60, 61, 62, 63, 64, 65, 66, 67, 68, 69, 70, 71, 72, 73] (by decide +kernel) (by decide +kernel)
set_option maxRecDepth 20000 in
theorem gX1_isWorkable_X1_allAreUnbroken : GoodIn wsX1_isWorkable (wsV RX1 132 RX1 yX1_allAreUnbroken wsX1_allAreUnbroken) := goodIn_app (goodIn_of _ (by decide +kernel)) ggX1_isWorkable_X1_allAreUnbroken
theorem dX1_isWorkable_0 : decode cX1_isWorkable 0 = .ok (.aload_n 0, 1) := by decide +kernel
theorem dX1_isWorkable_1 : decode cX1_isWorkable 1 = .ok (.iload_n 1, 1) := by decide +kernel
theorem dX1_isWorkable_2 : decode cX1_isWorkable 2 = .ok (.invokevirtual 95, 3) := by decide +kernel
theorem dX1_isWorkable_5 : decode cX1_isWorkable 5 = .ok (.ifCond .ne 34, 3) := by decide +kernel
theorem dX1_isWorkable_8 : decode cX1_isWorkable 8 = .ok (.aload_n 0, 1) := by decide +kernel
theorem dX1_isWorkable_9 : decode cX1_isWorkable 9 = .ok (.iload_n 1, 1) := by decide +kernel
theorem dX1_isWorkable_10 : decode cX1_isWorkable 10 = .ok (.invokevirtual 90, 3) := by decide +kernel
theorem dX1_isWorkable_13 : decode cX1_isWorkable 13 = .ok (.ifCond .ne 26, 3) := by decide +kernel
theorem dX1_isWorkable_16 : decode cX1_isWorkable 16 = .ok (.aload_n 0, 1) := by decide +kernel
theorem dX1_isWorkable_17 : decode cX1_isWorkable 17 = .ok (.getfield 10, 3) := by decide +kernel
theorem dX1_isWorkable_20 : decode cX1_isWorkable 20 = .ok (.iload_n 1, 1) := by decide +kernel
theorem dX1_isWorkable_21 : decode cX1_isWorkable 21 = .ok (.invokevirtual 93, 3) := by decide +kernel
theorem dX1_isWorkable_24 : decode cX1_isWorkable 24 = .ok (.ifCond .eq 15, 3) := by decide +kernel
theorem dX1_isWorkable_27 : decode cX1_isWorkable 27 = .ok (.aload_n 0, 1) := by decide +kernel
theorem dX1_isWorkable_28 : decode cX1_isWorkable 28 = .ok (.iload_n 1, 1) := by decide +kernel
theorem dX1_isWorkable_29 : decode cX1_isWorkable 29 = .ok (.invokevirtual 132, 3) := by decide +kernel
theorem dX1_isWorkable_32 : decode cX1_isWorkable 32 = .ok (.ifCond .eq 7, 3) := by decide +kernel
theorem dX1_isWorkable_35 : decode cX1_isWorkable 35 = .ok (.iconst 1, 1) := by decide +kernel
theorem dX1_isWorkable_36 : decode cX1_isWorkable 36 = .ok (.goto 4, 3) := by decide +kernel
theorem dX1_isWorkable_39 : decode cX1_isWorkable 39 = .ok (.iconst 0, 1) := by decide +kernel
theorem dX1_isWorkable_40 : decode cX1_isWorkable 40 = .ok (.ireturn, 1) := by decide +kernel
set_option maxRecDepth 20000 in
theorem ggX1_allAreUnbroken_X0_reach : GoodIn wsX1_allAreUnbroken wsX0_reach := goodIn_r _ [7, 8, 9, 10, 11, 12, 13, 6, 14, 15, 16, 17, 18, 19, 20, 21, 22, 23, 49, 50, 51, 52, 53] (by decide +kernel) (by decide +kernel)
set_option maxRecDepth 20000 in
theorem gX1_allAreUnbroken_X0_reach : GoodIn wsX1_allAreUnbroken (wsV RX1 176 RX0 yX0_reach wsX0_reach) := goodIn_app (goodIn_of _ (by decide +kernel)) ggX1_allAreUnbroken_X0_reach
set_option maxRecDepth 20000 in
theorem ggX1_allAreUnbroken_X1_isIn : GoodIn wsX1_allAreUnbroken wsX1_isIn := goodIn_r _ [10] (by decide +kernel) (by decide +kernel)
set_option maxRecDepth 20000 in
theorem gX1_allAreUnbroken_X1_isIn : GoodIn wsX1_allAreUnbroken (va_wsS RX1 180 yX1_isIn wsX1_isIn) := goodIn_app (goodIn_of _ (by decide +kernel)) ggX1_allAreUnbroken_X1_isIn
set_option maxRecDepth 20000 in
theorem ggX1_allAreUnbroken_X0_firstBroken : GoodIn wsX1_allAreUnbroken wsX0_firstBroken := goodIn_r _ [28, 15, 29, 30, 31, 6, 32, 33, 34, 35, 36, 37, 21, 22, 23, 38, 39, 40, 41, 20, 49, 50, 51, 52, 53] (by decide +kernel) (by decide +kernel)
set_option maxRecDepth 20000 in
theorem gX1_allAreUnbroken_X0_firstBroken : GoodIn wsX1_allAreUnbroken (wsV RX1 129 RX0 yX0_firstBroken wsX0_firstBroken) := goodIn_app (goodIn_of _ (by decide +kernel)) ggX1_allAreUnbroken_X0_firstBroken
theorem dX1_allAreUnbroken_0 : decode cX1_allAreUnbroken 0 = .ok (.aload_n 0, 1) := by decide +kernel
theorem dX1_allAreUnbroken_1 : decode cX1_allAreUnbroken 1 = .ok (.getfield 10, 3) := by decide +kernel
theorem dX1_allAreUnbroken_4 : decode cX1_allAreUnbroken 4 = .ok (.iload_n 1, 1) := by decide +kernel
theorem dX1_allAreUnbroken_5 : decode cX1_allAreUnbroken 5 = .ok (.iconst 1, 1) := by decide +kernel
theorem dX1_allAreUnbroken_6 : decode cX1_allAreUnbroken 6 = .ok (.invokevirtual 176, 3) := by decide +kernel
theorem dX1_allAreUnbroken_9 : decode cX1_allAreUnbroken 9 = .ok (.istore_n 2, 1) := by decide +kernel
theorem dX1_allAreUnbroken_10 : decode cX1_allAreUnbroken 10 = .ok (.iconst 0, 1) := by decide +kernel
theorem dX1_allAreUnbroken_11 : decode cX1_allAreUnbroken 11 = .ok (.istore_n 3, 1) := by decide +kernel
theorem dX1_allAreUnbroken_12 : decode cX1_allAreUnbroken 12 = .ok (.iload_n 3, 1) := by decide +kernel
theorem dX1_allAreUnbroken_13 : decode cX1_allAreUnbroken 13 = .ok (.aload_n 0, 1) := by decide +kernel
theorem dX1_allAreUnbroken_14 : decode cX1_allAreUnbroken 14 = .ok (.getfield 40, 3) := by decide +kernel
theorem dX1_allAreUnbroken_17 : decode cX1_allAreUnbroken 17 = .ok (.if_icmp .ge 31, 3) := by decide +kernel
theorem dX1_allAreUnbroken_20 : decode cX1_allAreUnbroken 20 = .ok (.iload_n 2, 1) := by decide +kernel
theorem dX1_allAreUnbroken_21 : decode cX1_allAreUnbroken 21 = .ok (.iload_n 3, 1) := by decide +kernel
theorem dX1_allAreUnbroken_22 : decode cX1_allAreUnbroken 22 = .ok (.invokestatic 180, 3) := by decide +kernel
theorem dX1_allAreUnbroken_25 : decode cX1_allAreUnbroken 25 = .ok (.ifCond .eq 17, 3) := by decide +kernel
theorem dX1_allAreUnbroken_28 : decode cX1_allAreUnbroken 28 = .ok (.aload_n 0, 1) := by decide +kernel
theorem dX1_allAreUnbroken_29 : decode cX1_allAreUnbroken 29 = .ok (.getfield 10, 3) := by decide +kernel
theorem dX1_allAreUnbroken_32 : decode cX1_allAreUnbroken 32 = .ok (.iload_n 3, 1) := by decide +kernel
theorem dX1_allAreUnbroken_33 : decode cX1_allAreUnbroken 33 = .ok (.invokevirtual 129, 3) := by decide +kernel
theorem dX1_allAreUnbroken_36 : decode cX1_allAreUnbroken 36 = .ok (.iconst (-1), 1) := by decide +kernel
theorem dX1_allAreUnbroken_37 : decode cX1_allAreUnbroken 37 = .ok (.if_icmp .eq 5, 3) := by decide +kernel
theorem dX1_allAreUnbroken_40 : decode cX1_allAreUnbroken 40 = .ok (.iconst 0, 1) := by decide +kernel
theorem dX1_allAreUnbroken_41 : decode cX1_allAreUnbroken 41 = .ok (.ireturn, 1) := by decide +kernel
theorem dX1_allAreUnbroken_42 : decode cX1_allAreUnbroken 42 = .ok (.iinc 3 1, 3) := by decide +kernel
theorem dX1_allAreUnbroken_45 : decode cX1_allAreUnbroken 45 = .ok (.goto (-33), 3) := by decide +kernel
theorem dX1_allAreUnbroken_48 : decode cX1_allAreUnbroken 48 = .ok (.iconst 1, 1) := by decide +kernel
theorem dX1_allAreUnbroken_49 : decode cX1_allAreUnbroken 49 = .ok (.ireturn, 1) := by decide +kernel
theorem dX1_canComeTogether_0 : decode cX1_canComeTogether 0 = .ok (.iconst 0, 1) := by decide +kernel
theorem dX1_canComeTogether_1 : decode cX1_canComeTogether 1 = .ok (.istore_n 3, 1) := by decide +kernel
theorem dX1_canComeTogether_2 : decode cX1_canComeTogether 2 = .ok (.iload_n 3, 1) := by decide +kernel
theorem dX1_canComeTogether_3 : decode cX1_canComeTogether 3 = .ok (.bipush 6, 2) := by decide +kernel
theorem dX1_canComeTogether_5 : decode cX1_canComeTogether 5 = .ok (.if_icmp .ge 40, 3) := by decide +kernel
theorem dX1_canComeTogether_8 : decode cX1_canComeTogether 8 = .ok (.aload_n 0, 1) := by decide +kernel
theorem dX1_canComeTogether_9 : decode cX1_canComeTogether 9 = .ok (.getfield 20, 3) := by decide +kernel
theorem dX1_canComeTogether_12 : decode cX1_canComeTogether 12 = .ok (.iload_n 1, 1) := by decide +kernel
theorem dX1_canComeTogether_13 : decode cX1_canComeTogether 13 = .ok (.bipush 6, 2) := by decide +kernel
theorem dX1_canComeTogether_15 : decode cX1_canComeTogether 15 = .ok (.imul, 1) := by decide +kernel
theorem dX1_canComeTogether_16 : decode cX1_canComeTogether 16 = .ok (.iload_n 3, 1) := by decide +kernel
theorem dX1_canComeTogether_17 : decode cX1_canComeTogether 17 = .ok (.iadd, 1) := by decide +kernel
theorem dX1_canComeTogether_18 : decode cX1_canComeTogether 18 = .ok (.iaload, 1) := by decide +kernel
theorem dX1_canComeTogether_19 : decode cX1_canComeTogether 19 = .ok (.aload_n 0, 1) := by decide +kernel
theorem dX1_canComeTogether_20 : decode cX1_canComeTogether 20 = .ok (.getfield 20, 3) := by decide +kernel
theorem dX1_canComeTogether_23 : decode cX1_canComeTogether 23 = .ok (.iload_n 2, 1) := by decide +kernel
theorem dX1_canComeTogether_24 : decode cX1_canComeTogether 24 = .ok (.bipush 6, 2) := by decide +kernel
theorem dX1_canComeTogether_26 : decode cX1_canComeTogether 26 = .ok (.imul, 1) := by decide +kernel
theorem dX1_canComeTogether_27 : decode cX1_canComeTogether 27 = .ok (.iload_n 3, 1) := by decide +kernel
theorem dX1_canComeTogether_28 : decode cX1_canComeTogether 28 = .ok (.iadd, 1) := by decide +kernel
theorem dX1_canComeTogether_29 : decode cX1_canComeTogether 29 = .ok (.iaload, 1) := by decide +kernel
theorem dX1_canComeTogether_30 : decode cX1_canComeTogether 30 = .ok (.iadd, 1) := by decide +kernel
theorem dX1_canComeTogether_31 : decode cX1_canComeTogether 31 = .ok (.sipush 999, 3) := by decide +kernel
theorem dX1_canComeTogether_34 : decode cX1_canComeTogether 34 = .ok (.if_icmp .le 5, 3) := by decide +kernel
theorem dX1_canComeTogether_37 : decode cX1_canComeTogether 37 = .ok (.iconst 0, 1) := by decide +kernel
theorem dX1_canComeTogether_38 : decode cX1_canComeTogether 38 = .ok (.ireturn, 1) := by decide +kernel
theorem dX1_canComeTogether_39 : decode cX1_canComeTogether 39 = .ok (.iinc 3 1, 3) := by decide +kernel
theorem dX1_canComeTogether_42 : decode cX1_canComeTogether 42 = .ok (.goto (-40), 3) := by decide +kernel
theorem dX1_canComeTogether_45 : decode cX1_canComeTogether 45 = .ok (.iconst 1, 1) := by decide +kernel
theorem dX1_canComeTogether_46 : decode cX1_canComeTogether 46 = .ok (.ireturn, 1) := by decide +kernel
theorem dX1_weightOfOne_0 : decode cX1_weightOfOne 0 = .ok (.iload_n 0, 1) := by decide +kernel
theorem dX1_weightOfOne_1 : decode cX1_weightOfOne 1 = .ok (.iconst 1, 1) := by decide +kernel
theorem dX1_weightOfOne_2 : decode cX1_weightOfOne 2 = .ok (.iadd, 1) := by decide +kernel
theorem dX1_weightOfOne_3 : decode cX1_weightOfOne 3 = .ok (.ireturn, 1) := by decide +kernel
set_option maxRecDepth 20000 in
theorem ggX1_weightOf_X1_weightOfOne : GoodIn wsX1_weightOf wsX1_weightOfOne := goodIn_r _ [5] (by decide +kernel) (by decide +kernel)
set_option maxRecDepth 20000 in
theorem gX1_weightOf_X1_weightOfOne : GoodIn wsX1_weightOf (va_wsS RX1 71 yX1_weightOfOne wsX1_weightOfOne) := goodIn_app (goodIn_of _ (by decide +kernel)) ggX1_weightOf_X1_weightOfOne
theorem dX1_weightOf_0 : decode cX1_weightOf 0 = .ok (.iconst 0, 1) := by decide +kernel
theorem dX1_weightOf_1 : decode cX1_weightOf 1 = .ok (.istore_n 2, 1) := by decide +kernel
theorem dX1_weightOf_2 : decode cX1_weightOf 2 = .ok (.iconst 0, 1) := by decide +kernel
theorem dX1_weightOf_3 : decode cX1_weightOf 3 = .ok (.istore_n 3, 1) := by decide +kernel
theorem dX1_weightOf_4 : decode cX1_weightOf 4 = .ok (.iload_n 3, 1) := by decide +kernel
theorem dX1_weightOf_5 : decode cX1_weightOf 5 = .ok (.bipush 6, 2) := by decide +kernel
theorem dX1_weightOf_7 : decode cX1_weightOf 7 = .ok (.if_icmp .ge 28, 3) := by decide +kernel
theorem dX1_weightOf_10 : decode cX1_weightOf 10 = .ok (.iload_n 2, 1) := by decide +kernel
theorem dX1_weightOf_11 : decode cX1_weightOf 11 = .ok (.aload_n 0, 1) := by decide +kernel
theorem dX1_weightOf_12 : decode cX1_weightOf 12 = .ok (.getfield 20, 3) := by decide +kernel
theorem dX1_weightOf_15 : decode cX1_weightOf 15 = .ok (.iload_n 1, 1) := by decide +kernel
theorem dX1_weightOf_16 : decode cX1_weightOf 16 = .ok (.bipush 6, 2) := by decide +kernel
theorem dX1_weightOf_18 : decode cX1_weightOf 18 = .ok (.imul, 1) := by decide +kernel
theorem dX1_weightOf_19 : decode cX1_weightOf 19 = .ok (.iload_n 3, 1) := by decide +kernel
theorem dX1_weightOf_20 : decode cX1_weightOf 20 = .ok (.iadd, 1) := by decide +kernel
theorem dX1_weightOf_21 : decode cX1_weightOf 21 = .ok (.iaload, 1) := by decide +kernel
theorem dX1_weightOf_22 : decode cX1_weightOf 22 = .ok (.iload_n 3, 1) := by decide +kernel
theorem dX1_weightOf_23 : decode cX1_weightOf 23 = .ok (.invokestatic 71, 3) := by decide +kernel
theorem dX1_weightOf_26 : decode cX1_weightOf 26 = .ok (.imul, 1) := by decide +kernel
theorem dX1_weightOf_27 : decode cX1_weightOf 27 = .ok (.iadd, 1) := by decide +kernel
theorem dX1_weightOf_28 : decode cX1_weightOf 28 = .ok (.istore_n 2, 1) := by decide +kernel
theorem dX1_weightOf_29 : decode cX1_weightOf 29 = .ok (.iinc 3 1, 3) := by decide +kernel
theorem dX1_weightOf_32 : decode cX1_weightOf 32 = .ok (.goto (-28), 3) := by decide +kernel
theorem dX1_weightOf_35 : decode cX1_weightOf 35 = .ok (.iload_n 2, 1) := by decide +kernel
theorem dX1_weightOf_36 : decode cX1_weightOf 36 = .ok (.ireturn, 1) := by decide +kernel
set_option maxRecDepth 20000 in
theorem ggX1_hasRoom_X1_isDock : GoodIn wsX1_hasRoom wsX1_isDock := goodIn_r _ [6] (by decide +kernel) (by decide +kernel)
set_option maxRecDepth 20000 in
theorem gX1_hasRoom_X1_isDock : GoodIn wsX1_hasRoom (va_wsS RX1 32 yX1_isDock wsX1_isDock) := goodIn_app (goodIn_of _ (by decide +kernel)) ggX1_hasRoom_X1_isDock
set_option maxRecDepth 20000 in
theorem ggX1_hasRoom_X1_weightOf : GoodIn wsX1_hasRoom wsX1_weightOf := goodIn_r _ [10, 11, 12, 13, 5, 14, 15, 16, 17, 18, 19, 20, 21] (by decide +kernel) (by decide +kernel)
set_option maxRecDepth 20000 in
theorem gX1_hasRoom_X1_weightOf : GoodIn wsX1_hasRoom (wsV RX1 87 RX1 yX1_weightOf wsX1_weightOf) := goodIn_app (goodIn_of _ (by decide +kernel)) ggX1_hasRoom_X1_weightOf
theorem dX1_hasRoom_0 : decode cX1_hasRoom 0 = .ok (.iload_n 1, 1) := by decide +kernel
theorem dX1_hasRoom_1 : decode cX1_hasRoom 1 = .ok (.invokestatic 32, 3) := by decide +kernel
theorem dX1_hasRoom_4 : decode cX1_hasRoom 4 = .ok (.ifCond .eq 5, 3) := by decide +kernel
theorem dX1_hasRoom_7 : decode cX1_hasRoom 7 = .ok (.iconst 1, 1) := by decide +kernel
theorem dX1_hasRoom_8 : decode cX1_hasRoom 8 = .ok (.ireturn, 1) := by decide +kernel
theorem dX1_hasRoom_9 : decode cX1_hasRoom 9 = .ok (.iload_n 2, 1) := by decide +kernel
theorem dX1_hasRoom_10 : decode cX1_hasRoom 10 = .ok (.istore_n 3, 1) := by decide +kernel
theorem dX1_hasRoom_11 : decode cX1_hasRoom 11 = .ok (.iconst 0, 1) := by decide +kernel
theorem dX1_hasRoom_12 : decode cX1_hasRoom 12 = .ok (.istore 4, 2) := by decide +kernel
theorem dX1_hasRoom_14 : decode cX1_hasRoom 14 = .ok (.iload 4, 2) := by decide +kernel
theorem dX1_hasRoom_16 : decode cX1_hasRoom 16 = .ok (.aload_n 0, 1) := by decide +kernel
theorem dX1_hasRoom_17 : decode cX1_hasRoom 17 = .ok (.getfield 40, 3) := by decide +kernel
theorem dX1_hasRoom_20 : decode cX1_hasRoom 20 = .ok (.if_icmp .ge 29, 3) := by decide +kernel
theorem dX1_hasRoom_23 : decode cX1_hasRoom 23 = .ok (.aload_n 0, 1) := by decide +kernel
theorem dX1_hasRoom_24 : decode cX1_hasRoom 24 = .ok (.getfield 16, 3) := by decide +kernel
theorem dX1_hasRoom_27 : decode cX1_hasRoom 27 = .ok (.iload 4, 2) := by decide +kernel
theorem dX1_hasRoom_29 : decode cX1_hasRoom 29 = .ok (.iaload, 1) := by decide +kernel
theorem dX1_hasRoom_30 : decode cX1_hasRoom 30 = .ok (.iload_n 1, 1) := by decide +kernel
theorem dX1_hasRoom_31 : decode cX1_hasRoom 31 = .ok (.if_icmp .ne 12, 3) := by decide +kernel
theorem dX1_hasRoom_34 : decode cX1_hasRoom 34 = .ok (.iload_n 3, 1) := by decide +kernel
theorem dX1_hasRoom_35 : decode cX1_hasRoom 35 = .ok (.aload_n 0, 1) := by decide +kernel
theorem dX1_hasRoom_36 : decode cX1_hasRoom 36 = .ok (.iload 4, 2) := by decide +kernel
theorem dX1_hasRoom_38 : decode cX1_hasRoom 38 = .ok (.invokevirtual 87, 3) := by decide +kernel
theorem dX1_hasRoom_41 : decode cX1_hasRoom 41 = .ok (.iadd, 1) := by decide +kernel
theorem dX1_hasRoom_42 : decode cX1_hasRoom 42 = .ok (.istore_n 3, 1) := by decide +kernel
theorem dX1_hasRoom_43 : decode cX1_hasRoom 43 = .ok (.iinc 4 1, 3) := by decide +kernel
theorem dX1_hasRoom_46 : decode cX1_hasRoom 46 = .ok (.goto (-32), 3) := by decide +kernel
theorem dX1_hasRoom_49 : decode cX1_hasRoom 49 = .ok (.iload_n 3, 1) := by decide +kernel
theorem dX1_hasRoom_50 : decode cX1_hasRoom 50 = .ok (.sipush 200, 3) := by decide +kernel
theorem dX1_hasRoom_53 : decode cX1_hasRoom 53 = .ok (.if_icmp .gt 7, 3) := by decide +kernel
theorem dX1_hasRoom_56 : decode cX1_hasRoom 56 = .ok (.iconst 1, 1) := by decide +kernel
theorem dX1_hasRoom_57 : decode cX1_hasRoom 57 = .ok (.goto 4, 3) := by decide +kernel
theorem dX1_hasRoom_60 : decode cX1_hasRoom 60 = .ok (.iconst 0, 1) := by decide +kernel
theorem dX1_hasRoom_61 : decode cX1_hasRoom 61 = .ok (.ireturn, 1) := by decide +kernel
set_option maxRecDepth 20000 in
theorem ggX1_toldByPapers_X1_isGone : GoodIn wsX1_toldByPapers wsX1_isGone := goodIn_r _ [7, 1, 8, 9, 10, 11, 12, 13, 14, 15, 16, 17, 18, 19, 20, 21, 40, 41, 42, 43, 44, 45, 46, 47, 48, 49, 50, 51] (by decide +kernel) (by decide +kernel)
set_option maxRecDepth 20000 in
theorem gX1_toldByPapers_X1_isGone : GoodIn wsX1_toldByPapers (wsV RX1 90 RX1 yX1_isGone wsX1_isGone) := goodIn_app (goodIn_of _ (by decide +kernel)) ggX1_toldByPapers_X1_isGone
set_option maxRecDepth 20000 in
theorem ggX1_toldByPapers_X0_reach : GoodIn wsX1_toldByPapers wsX0_reach := goodIn_r _ [25, 26, 6, 27, 28, 29, 30, 11, 31, 13, 14, 15, 16, 17, 18, 19, 20, 21, 47, 48, 49, 50, 51] (by decide +kernel) (by decide +kernel)
set_option maxRecDepth 20000 in
theorem gX1_toldByPapers_X0_reach : GoodIn wsX1_toldByPapers (wsV RX1 176 RX0 yX0_reach wsX0_reach) := goodIn_app (goodIn_of _ (by decide +kernel)) ggX1_toldByPapers_X0_reach
set_option maxRecDepth 20000 in
theorem ggX1_toldByPapers_X1_isIn : GoodIn wsX1_toldByPapers wsX1_isIn := goodIn_r _ [27] (by decide +kernel) (by decide +kernel)
set_option maxRecDepth 20000 in
theorem gX1_toldByPapers_X1_isIn : GoodIn wsX1_toldByPapers (va_wsS RX1 180 yX1_isIn wsX1_isIn) := goodIn_app (goodIn_of _ (by decide +kernel)) ggX1_toldByPapers_X1_isIn
set_option maxRecDepth 20000 in
theorem ggX1_toldByPapers_X0_toldByOwnEntries : GoodIn wsX1_toldByPapers wsX0_toldByOwnEntries := goodIn_r _ [36, 13, 14, 15, 16, 11, 17, 18, 19, 20, 21, 37, 38, 39, 47, 48, 49, 50, 51] (by decide +kernel) (by decide +kernel)
set_option maxRecDepth 20000 in
theorem gX1_toldByPapers_X0_toldByOwnEntries : GoodIn wsX1_toldByPapers (wsV RX1 183 RX0 yX0_toldByOwnEntries wsX0_toldByOwnEntries) := goodIn_app (goodIn_of _ (by decide +kernel)) ggX1_toldByPapers_X0_toldByOwnEntries
theorem dX1_toldByPapers_0 : decode cX1_toldByPapers 0 = .ok (.aload_n 0, 1) := by decide +kernel
theorem dX1_toldByPapers_1 : decode cX1_toldByPapers 1 = .ok (.iload_n 1, 1) := by decide +kernel
theorem dX1_toldByPapers_2 : decode cX1_toldByPapers 2 = .ok (.invokevirtual 90, 3) := by decide +kernel
theorem dX1_toldByPapers_5 : decode cX1_toldByPapers 5 = .ok (.ifCond .eq 5, 3) := by decide +kernel
theorem dX1_toldByPapers_8 : decode cX1_toldByPapers 8 = .ok (.iconst 0, 1) := by decide +kernel
theorem dX1_toldByPapers_9 : decode cX1_toldByPapers 9 = .ok (.ireturn, 1) := by decide +kernel
theorem dX1_toldByPapers_10 : decode cX1_toldByPapers 10 = .ok (.aload_n 0, 1) := by decide +kernel
theorem dX1_toldByPapers_11 : decode cX1_toldByPapers 11 = .ok (.getfield 10, 3) := by decide +kernel
theorem dX1_toldByPapers_14 : decode cX1_toldByPapers 14 = .ok (.iload_n 1, 1) := by decide +kernel
theorem dX1_toldByPapers_15 : decode cX1_toldByPapers 15 = .ok (.iconst 0, 1) := by decide +kernel
theorem dX1_toldByPapers_16 : decode cX1_toldByPapers 16 = .ok (.invokevirtual 176, 3) := by decide +kernel
theorem dX1_toldByPapers_19 : decode cX1_toldByPapers 19 = .ok (.istore_n 3, 1) := by decide +kernel
theorem dX1_toldByPapers_20 : decode cX1_toldByPapers 20 = .ok (.iconst 0, 1) := by decide +kernel
theorem dX1_toldByPapers_21 : decode cX1_toldByPapers 21 = .ok (.istore 4, 2) := by decide +kernel
theorem dX1_toldByPapers_23 : decode cX1_toldByPapers 23 = .ok (.iconst 0, 1) := by decide +kernel
theorem dX1_toldByPapers_24 : decode cX1_toldByPapers 24 = .ok (.istore 5, 2) := by decide +kernel
theorem dX1_toldByPapers_26 : decode cX1_toldByPapers 26 = .ok (.iload 5, 2) := by decide +kernel
theorem dX1_toldByPapers_28 : decode cX1_toldByPapers 28 = .ok (.aload_n 0, 1) := by decide +kernel
theorem dX1_toldByPapers_29 : decode cX1_toldByPapers 29 = .ok (.getfield 40, 3) := by decide +kernel
theorem dX1_toldByPapers_32 : decode cX1_toldByPapers 32 = .ok (.if_icmp .ge 33, 3) := by decide +kernel
theorem dX1_toldByPapers_35 : decode cX1_toldByPapers 35 = .ok (.iload_n 3, 1) := by decide +kernel
theorem dX1_toldByPapers_36 : decode cX1_toldByPapers 36 = .ok (.iload 5, 2) := by decide +kernel
theorem dX1_toldByPapers_38 : decode cX1_toldByPapers 38 = .ok (.invokestatic 180, 3) := by decide +kernel
theorem dX1_toldByPapers_41 : decode cX1_toldByPapers 41 = .ok (.ifCond .eq 18, 3) := by decide +kernel
theorem dX1_toldByPapers_44 : decode cX1_toldByPapers 44 = .ok (.iload 4, 2) := by decide +kernel
theorem dX1_toldByPapers_46 : decode cX1_toldByPapers 46 = .ok (.aload_n 0, 1) := by decide +kernel
theorem dX1_toldByPapers_47 : decode cX1_toldByPapers 47 = .ok (.getfield 10, 3) := by decide +kernel
theorem dX1_toldByPapers_50 : decode cX1_toldByPapers 50 = .ok (.iload 5, 2) := by decide +kernel
theorem dX1_toldByPapers_52 : decode cX1_toldByPapers 52 = .ok (.iload_n 2, 1) := by decide +kernel
theorem dX1_toldByPapers_53 : decode cX1_toldByPapers 53 = .ok (.invokevirtual 183, 3) := by decide +kernel
theorem dX1_toldByPapers_56 : decode cX1_toldByPapers 56 = .ok (.iadd, 1) := by decide +kernel
theorem dX1_toldByPapers_57 : decode cX1_toldByPapers 57 = .ok (.istore 4, 2) := by decide +kernel
theorem dX1_toldByPapers_59 : decode cX1_toldByPapers 59 = .ok (.iinc 5 1, 3) := by decide +kernel
theorem dX1_toldByPapers_62 : decode cX1_toldByPapers 62 = .ok (.goto (-36), 3) := by decide +kernel
theorem dX1_toldByPapers_65 : decode cX1_toldByPapers 65 = .ok (.iload 4, 2) := by decide +kernel
theorem dX1_toldByPapers_67 : decode cX1_toldByPapers 67 = .ok (.ireturn, 1) := by decide +kernel
set_option maxRecDepth 20000 in
theorem ggX1_toldOfTruck_X1_toldByPapers : GoodIn wsX1_toldOfTruck wsX1_toldByPapers := goodIn_r _ [7, 8, 1, 9, 10, 11, 6, 12, 13, 14, 15, 16, 17, 18, 19, 20, 21, 22, 23, 24, 25, 26, 27, 28, 29, 30, 31, 32, 33, 34, 35, 36, 37, 38, 39, 40, 41, 42, 43, 44, 45, 46, 47, 48, 49, 50, 51, 52, 53, 54, 55, 56] (by decide +kernel) (by decide +kernel)
set_option maxRecDepth 20000 in
theorem gX1_toldOfTruck_X1_toldByPapers : GoodIn wsX1_toldOfTruck (wsV RX1 138 RX1 yX1_toldByPapers wsX1_toldByPapers) := goodIn_app (goodIn_of _ (by decide +kernel)) ggX1_toldOfTruck_X1_toldByPapers
theorem dX1_toldOfTruck_0 : decode cX1_toldOfTruck 0 = .ok (.iconst 0, 1) := by decide +kernel
theorem dX1_toldOfTruck_1 : decode cX1_toldOfTruck 1 = .ok (.istore_n 3, 1) := by decide +kernel
theorem dX1_toldOfTruck_2 : decode cX1_toldOfTruck 2 = .ok (.iconst 0, 1) := by decide +kernel
theorem dX1_toldOfTruck_3 : decode cX1_toldOfTruck 3 = .ok (.istore 4, 2) := by decide +kernel
theorem dX1_toldOfTruck_5 : decode cX1_toldOfTruck 5 = .ok (.iload 4, 2) := by decide +kernel
theorem dX1_toldOfTruck_7 : decode cX1_toldOfTruck 7 = .ok (.aload_n 0, 1) := by decide +kernel
theorem dX1_toldOfTruck_8 : decode cX1_toldOfTruck 8 = .ok (.getfield 40, 3) := by decide +kernel
theorem dX1_toldOfTruck_11 : decode cX1_toldOfTruck 11 = .ok (.if_icmp .ge 30, 3) := by decide +kernel
theorem dX1_toldOfTruck_14 : decode cX1_toldOfTruck 14 = .ok (.aload_n 0, 1) := by decide +kernel
theorem dX1_toldOfTruck_15 : decode cX1_toldOfTruck 15 = .ok (.getfield 16, 3) := by decide +kernel
theorem dX1_toldOfTruck_18 : decode cX1_toldOfTruck 18 = .ok (.iload 4, 2) := by decide +kernel
theorem dX1_toldOfTruck_20 : decode cX1_toldOfTruck 20 = .ok (.iaload, 1) := by decide +kernel
theorem dX1_toldOfTruck_21 : decode cX1_toldOfTruck 21 = .ok (.iload_n 1, 1) := by decide +kernel
theorem dX1_toldOfTruck_22 : decode cX1_toldOfTruck 22 = .ok (.if_icmp .ne 13, 3) := by decide +kernel
theorem dX1_toldOfTruck_25 : decode cX1_toldOfTruck 25 = .ok (.iload_n 3, 1) := by decide +kernel
theorem dX1_toldOfTruck_26 : decode cX1_toldOfTruck 26 = .ok (.aload_n 0, 1) := by decide +kernel
theorem dX1_toldOfTruck_27 : decode cX1_toldOfTruck 27 = .ok (.iload 4, 2) := by decide +kernel
theorem dX1_toldOfTruck_29 : decode cX1_toldOfTruck 29 = .ok (.iload_n 2, 1) := by decide +kernel
theorem dX1_toldOfTruck_30 : decode cX1_toldOfTruck 30 = .ok (.invokevirtual 138, 3) := by decide +kernel
theorem dX1_toldOfTruck_33 : decode cX1_toldOfTruck 33 = .ok (.iadd, 1) := by decide +kernel
theorem dX1_toldOfTruck_34 : decode cX1_toldOfTruck 34 = .ok (.istore_n 3, 1) := by decide +kernel
theorem dX1_toldOfTruck_35 : decode cX1_toldOfTruck 35 = .ok (.iinc 4 1, 3) := by decide +kernel
theorem dX1_toldOfTruck_38 : decode cX1_toldOfTruck 38 = .ok (.goto (-33), 3) := by decide +kernel
theorem dX1_toldOfTruck_41 : decode cX1_toldOfTruck 41 = .ok (.iload_n 3, 1) := by decide +kernel
theorem dX1_toldOfTruck_42 : decode cX1_toldOfTruck 42 = .ok (.ireturn, 1) := by decide +kernel
theorem dX1_isIn_0 : decode cX1_isIn 0 = .ok (.iload_n 0, 1) := by decide +kernel
theorem dX1_isIn_1 : decode cX1_isIn 1 = .ok (.iload_n 1, 1) := by decide +kernel
theorem dX1_isIn_2 : decode cX1_isIn 2 = .ok (.ishr, 1) := by decide +kernel
theorem dX1_isIn_3 : decode cX1_isIn 3 = .ok (.iconst 1, 1) := by decide +kernel
theorem dX1_isIn_4 : decode cX1_isIn 4 = .ok (.iand, 1) := by decide +kernel
theorem dX1_isIn_5 : decode cX1_isIn 5 = .ok (.ifCond .eq 7, 3) := by decide +kernel
theorem dX1_isIn_8 : decode cX1_isIn 8 = .ok (.iconst 1, 1) := by decide +kernel
theorem dX1_isIn_9 : decode cX1_isIn 9 = .ok (.goto 4, 3) := by decide +kernel
theorem dX1_isIn_12 : decode cX1_isIn 12 = .ok (.iconst 0, 1) := by decide +kernel
theorem dX1_isIn_13 : decode cX1_isIn 13 = .ok (.ireturn, 1) := by decide +kernel
set_option maxRecDepth 20000 in
theorem ggX1_lowestOf_X1_isIn : GoodIn wsX1_lowestOf wsX1_isIn := goodIn_r _ [4] (by decide +kernel) (by decide +kernel)
set_option maxRecDepth 20000 in
theorem gX1_lowestOf_X1_isIn : GoodIn wsX1_lowestOf (va_wsS RX1 180 yX1_isIn wsX1_isIn) := goodIn_app (goodIn_of _ (by decide +kernel)) ggX1_lowestOf_X1_isIn
theorem dX1_lowestOf_0 : decode cX1_lowestOf 0 = .ok (.iconst 0, 1) := by decide +kernel
theorem dX1_lowestOf_1 : decode cX1_lowestOf 1 = .ok (.istore_n 1, 1) := by decide +kernel
theorem dX1_lowestOf_2 : decode cX1_lowestOf 2 = .ok (.iload_n 1, 1) := by decide +kernel
theorem dX1_lowestOf_3 : decode cX1_lowestOf 3 = .ok (.bipush 7, 2) := by decide +kernel
theorem dX1_lowestOf_5 : decode cX1_lowestOf 5 = .ok (.if_icmp .ge 19, 3) := by decide +kernel
theorem dX1_lowestOf_8 : decode cX1_lowestOf 8 = .ok (.iload_n 0, 1) := by decide +kernel
theorem dX1_lowestOf_9 : decode cX1_lowestOf 9 = .ok (.iload_n 1, 1) := by decide +kernel
theorem dX1_lowestOf_10 : decode cX1_lowestOf 10 = .ok (.invokestatic 180, 3) := by decide +kernel
theorem dX1_lowestOf_13 : decode cX1_lowestOf 13 = .ok (.ifCond .eq 5, 3) := by decide +kernel
theorem dX1_lowestOf_16 : decode cX1_lowestOf 16 = .ok (.iload_n 1, 1) := by decide +kernel
theorem dX1_lowestOf_17 : decode cX1_lowestOf 17 = .ok (.ireturn, 1) := by decide +kernel
theorem dX1_lowestOf_18 : decode cX1_lowestOf 18 = .ok (.iinc 1 1, 3) := by decide +kernel
theorem dX1_lowestOf_21 : decode cX1_lowestOf 21 = .ok (.goto (-19), 3) := by decide +kernel
theorem dX1_lowestOf_24 : decode cX1_lowestOf 24 = .ok (.iconst (-1), 1) := by decide +kernel
theorem dX1_lowestOf_25 : decode cX1_lowestOf 25 = .ok (.ireturn, 1) := by decide +kernel
end
section
theorem dX2_init_0 : decode cX2_init 0 = .ok (.aload_n 0, 1) := by decide +kernel
theorem dX2_init_1 : decode cX2_init 1 = .ok (.invokespecial 1, 3) := by decide +kernel
theorem dX2_init_4 : decode cX2_init 4 = .ok (.aload_n 0, 1) := by decide +kernel
theorem dX2_init_5 : decode cX2_init 5 = .ok (.bipush 14, 2) := by decide +kernel
theorem dX2_init_7 : decode cX2_init 7 = .ok (.newarray .int, 2) := by decide +kernel
theorem dX2_init_9 : decode cX2_init 9 = .ok (.putfield 7, 3) := by decide +kernel
theorem dX2_init_12 : decode cX2_init 12 = .ok (.aload_n 0, 1) := by decide +kernel
theorem dX2_init_13 : decode cX2_init 13 = .ok (.bipush 84, 2) := by decide +kernel
theorem dX2_init_15 : decode cX2_init 15 = .ok (.newarray .int, 2) := by decide +kernel
theorem dX2_init_17 : decode cX2_init 17 = .ok (.putfield 13, 3) := by decide +kernel
theorem dX2_init_20 : decode cX2_init 20 = .ok (.aload_n 0, 1) := by decide +kernel
theorem dX2_init_21 : decode cX2_init 21 = .ok (.bipush 14, 2) := by decide +kernel
theorem dX2_init_23 : decode cX2_init 23 = .ok (.newarray .int, 2) := by decide +kernel
theorem dX2_init_25 : decode cX2_init 25 = .ok (.putfield 16, 3) := by decide +kernel
theorem dX2_init_28 : decode cX2_init 28 = .ok (.aload_n 0, 1) := by decide +kernel
theorem dX2_init_29 : decode cX2_init 29 = .ok (.bipush 14, 2) := by decide +kernel
theorem dX2_init_31 : decode cX2_init 31 = .ok (.newarray .boolean, 2) := by decide +kernel
theorem dX2_init_33 : decode cX2_init 33 = .ok (.putfield 19, 3) := by decide +kernel
theorem dX2_init_36 : decode cX2_init 36 = .ok (.aload_n 0, 1) := by decide +kernel
theorem dX2_init_37 : decode cX2_init 37 = .ok (.bipush 14, 2) := by decide +kernel
theorem dX2_init_39 : decode cX2_init 39 = .ok (.newarray .boolean, 2) := by decide +kernel
theorem dX2_init_41 : decode cX2_init 41 = .ok (.putfield 23, 3) := by decide +kernel
theorem dX2_init_44 : decode cX2_init 44 = .ok (.aload_n 0, 1) := by decide +kernel
theorem dX2_init_45 : decode cX2_init 45 = .ok (.bipush 14, 2) := by decide +kernel
theorem dX2_init_47 : decode cX2_init 47 = .ok (.newarray .int, 2) := by decide +kernel
theorem dX2_init_49 : decode cX2_init 49 = .ok (.putfield 26, 3) := by decide +kernel
theorem dX2_init_52 : decode cX2_init 52 = .ok (.aload_n 0, 1) := by decide +kernel
theorem dX2_init_53 : decode cX2_init 53 = .ok (.sipush 420, 3) := by decide +kernel
theorem dX2_init_56 : decode cX2_init 56 = .ok (.newarray .int, 2) := by decide +kernel
theorem dX2_init_58 : decode cX2_init 58 = .ok (.putfield 29, 3) := by decide +kernel
theorem dX2_init_61 : decode cX2_init 61 = .ok (.aload_n 0, 1) := by decide +kernel
theorem dX2_init_62 : decode cX2_init 62 = .ok (.sipush 420, 3) := by decide +kernel
theorem dX2_init_65 : decode cX2_init 65 = .ok (.newarray .int, 2) := by decide +kernel
theorem dX2_init_67 : decode cX2_init 67 = .ok (.putfield 32, 3) := by decide +kernel
theorem dX2_init_70 : decode cX2_init 70 = .ok (.aload_n 0, 1) := by decide +kernel
theorem dX2_init_71 : decode cX2_init 71 = .ok (.sipush 420, 3) := by decide +kernel
theorem dX2_init_74 : decode cX2_init 74 = .ok (.newarray .int, 2) := by decide +kernel
theorem dX2_init_76 : decode cX2_init 76 = .ok (.putfield 35, 3) := by decide +kernel
theorem dX2_init_79 : decode cX2_init 79 = .ok (.aload_n 0, 1) := by decide +kernel
theorem dX2_init_80 : decode cX2_init 80 = .ok (.sipush 420, 3) := by decide +kernel
theorem dX2_init_83 : decode cX2_init 83 = .ok (.newarray .int, 2) := by decide +kernel
theorem dX2_init_85 : decode cX2_init 85 = .ok (.putfield 38, 3) := by decide +kernel
theorem dX2_init_88 : decode cX2_init 88 = .ok (.aload_n 0, 1) := by decide +kernel
theorem dX2_init_89 : decode cX2_init 89 = .ok (.sipush 420, 3) := by decide +kernel
theorem dX2_init_92 : decode cX2_init 92 = .ok (.newarray .int, 2) := by decide +kernel
theorem dX2_init_94 : decode cX2_init 94 = .ok (.putfield 41, 3) := by decide +kernel
theorem dX2_init_97 : decode cX2_init 97 = .ok (.aload_n 0, 1) := by decide +kernel
theorem dX2_init_98 : decode cX2_init 98 = .ok (.sipush 420, 3) := by decide +kernel
theorem dX2_init_101 : decode cX2_init 101 = .ok (.newarray .int, 2) := by decide +kernel
theorem dX2_init_103 : decode cX2_init 103 = .ok (.putfield 44, 3) := by decide +kernel
theorem dX2_init_106 : decode cX2_init 106 = .ok (.aload_n 0, 1) := by decide +kernel
theorem dX2_init_107 : decode cX2_init 107 = .ok (.sipush 420, 3) := by decide +kernel
theorem dX2_init_110 : decode cX2_init 110 = .ok (.newarray .int, 2) := by decide +kernel
theorem dX2_init_112 : decode cX2_init 112 = .ok (.putfield 47, 3) := by decide +kernel
theorem dX2_init_115 : decode cX2_init 115 = .ok (.aload_n 0, 1) := by decide +kernel
theorem dX2_init_116 : decode cX2_init 116 = .ok (.sipush 420, 3) := by decide +kernel
theorem dX2_init_119 : decode cX2_init 119 = .ok (.newarray .int, 2) := by decide +kernel
theorem dX2_init_121 : decode cX2_init 121 = .ok (.putfield 50, 3) := by decide +kernel
theorem dX2_init_124 : decode cX2_init 124 = .ok (.aload_n 0, 1) := by decide +kernel
theorem dX2_init_125 : decode cX2_init 125 = .ok (.sipush 420, 3) := by decide +kernel
theorem dX2_init_128 : decode cX2_init 128 = .ok (.newarray .int, 2) := by decide +kernel
theorem dX2_init_130 : decode cX2_init 130 = .ok (.putfield 53, 3) := by decide +kernel
theorem dX2_init_133 : decode cX2_init 133 = .ok (.aload_n 0, 1) := by decide +kernel
theorem dX2_init_134 : decode cX2_init 134 = .ok (.bipush 12, 2) := by decide +kernel
theorem dX2_init_136 : decode cX2_init 136 = .ok (.newarray .int, 2) := by decide +kernel
theorem dX2_init_138 : decode cX2_init 138 = .ok (.putfield 56, 3) := by decide +kernel
theorem dX2_init_141 : decode cX2_init 141 = .ok (.aload_n 0, 1) := by decide +kernel
theorem dX2_init_142 : decode cX2_init 142 = .ok (.bipush 10, 2) := by decide +kernel
theorem dX2_init_144 : decode cX2_init 144 = .ok (.newarray .int, 2) := by decide +kernel
theorem dX2_init_146 : decode cX2_init 146 = .ok (.putfield 59, 3) := by decide +kernel
theorem dX2_init_149 : decode cX2_init 149 = .ok (.aload_n 0, 1) := by decide +kernel
theorem dX2_init_150 : decode cX2_init 150 = .ok (.bipush 7, 2) := by decide +kernel
theorem dX2_init_152 : decode cX2_init 152 = .ok (.newarray .int, 2) := by decide +kernel
theorem dX2_init_154 : decode cX2_init 154 = .ok (.putfield 62, 3) := by decide +kernel
theorem dX2_init_157 : decode cX2_init 157 = .ok (.aload_n 0, 1) := by decide +kernel
theorem dX2_init_158 : decode cX2_init 158 = .ok (.bipush 14, 2) := by decide +kernel
theorem dX2_init_160 : decode cX2_init 160 = .ok (.newarray .int, 2) := by decide +kernel
theorem dX2_init_162 : decode cX2_init 162 = .ok (.putfield 65, 3) := by decide +kernel
theorem dX2_init_165 : decode cX2_init 165 = .ok (.iconst 0, 1) := by decide +kernel
theorem dX2_init_166 : decode cX2_init 166 = .ok (.istore_n 1, 1) := by decide +kernel
theorem dX2_init_167 : decode cX2_init 167 = .ok (.iload_n 1, 1) := by decide +kernel
theorem dX2_init_168 : decode cX2_init 168 = .ok (.bipush 10, 2) := by decide +kernel
theorem dX2_init_170 : decode cX2_init 170 = .ok (.if_icmp .ge 18, 3) := by decide +kernel
theorem dX2_init_173 : decode cX2_init 173 = .ok (.aload_n 0, 1) := by decide +kernel
theorem dX2_init_174 : decode cX2_init 174 = .ok (.getfield 59, 3) := by decide +kernel
theorem dX2_init_177 : decode cX2_init 177 = .ok (.iload_n 1, 1) := by decide +kernel
theorem dX2_init_178 : decode cX2_init 178 = .ok (.iload_n 1, 1) := by decide +kernel
theorem dX2_init_179 : decode cX2_init 179 = .ok (.iconst 1, 1) := by decide +kernel
theorem dX2_init_180 : decode cX2_init 180 = .ok (.iadd, 1) := by decide +kernel
theorem dX2_init_181 : decode cX2_init 181 = .ok (.iastore, 1) := by decide +kernel
theorem dX2_init_182 : decode cX2_init 182 = .ok (.iinc 1 1, 3) := by decide +kernel
theorem dX2_init_185 : decode cX2_init 185 = .ok (.goto (-18), 3) := by decide +kernel
theorem dX2_init_188 : decode cX2_init 188 = .ok (.return_, 1) := by decide +kernel
theorem dX2_thrown_0 : decode cX2_thrown 0 = .ok (.aload_n 0, 1) := by decide +kernel
theorem dX2_thrown_1 : decode cX2_thrown 1 = .ok (.getfield 68, 3) := by decide +kernel
theorem dX2_thrown_4 : decode cX2_thrown 4 = .ok (.ireturn, 1) := by decide +kernel
theorem dX2_holds_0 : decode cX2_holds 0 = .ok (.aload_n 0, 1) := by decide +kernel
theorem dX2_holds_1 : decode cX2_holds 1 = .ok (.iload_n 1, 1) := by decide +kernel
theorem dX2_holds_2 : decode cX2_holds 2 = .ok (.putfield 68, 3) := by decide +kernel
theorem dX2_holds_5 : decode cX2_holds 5 = .ok (.iload_n 1, 1) := by decide +kernel
theorem dX2_holds_6 : decode cX2_holds 6 = .ok (.ifCond .ne 7, 3) := by decide +kernel
theorem dX2_holds_9 : decode cX2_holds 9 = .ok (.iconst 1, 1) := by decide +kernel
theorem dX2_holds_10 : decode cX2_holds 10 = .ok (.goto 4, 3) := by decide +kernel
theorem dX2_holds_13 : decode cX2_holds 13 = .ok (.iconst 0, 1) := by decide +kernel
theorem dX2_holds_14 : decode cX2_holds 14 = .ok (.ireturn, 1) := by decide +kernel
theorem dX2_isIn_0 : decode cX2_isIn 0 = .ok (.iload_n 0, 1) := by decide +kernel
theorem dX2_isIn_1 : decode cX2_isIn 1 = .ok (.iload_n 1, 1) := by decide +kernel
theorem dX2_isIn_2 : decode cX2_isIn 2 = .ok (.if_icmp .lt 12, 3) := by decide +kernel
theorem dX2_isIn_5 : decode cX2_isIn 5 = .ok (.iload_n 0, 1) := by decide +kernel
theorem dX2_isIn_6 : decode cX2_isIn 6 = .ok (.iload_n 2, 1) := by decide +kernel
theorem dX2_isIn_7 : decode cX2_isIn 7 = .ok (.if_icmp .gt 7, 3) := by decide +kernel
theorem dX2_isIn_10 : decode cX2_isIn 10 = .ok (.iconst 1, 1) := by decide +kernel
theorem dX2_isIn_11 : decode cX2_isIn 11 = .ok (.goto 4, 3) := by decide +kernel
theorem dX2_isIn_14 : decode cX2_isIn 14 = .ok (.iconst 0, 1) := by decide +kernel
theorem dX2_isIn_15 : decode cX2_isIn 15 = .ok (.ireturn, 1) := by decide +kernel
set_option maxRecDepth 20000 in
theorem ggX2_isPallet_X2_isIn : GoodIn wsX2_isPallet wsX2_isIn := goodIn_r _ [5] (by decide +kernel) (by decide +kernel)
set_option maxRecDepth 20000 in
theorem gX2_isPallet_X2_isIn : GoodIn wsX2_isPallet (va_wsS RX2 75 yX2_isIn wsX2_isIn) := goodIn_app (goodIn_of _ (by decide +kernel)) ggX2_isPallet_X2_isIn
theorem dX2_isPallet_0 : decode cX2_isPallet 0 = .ok (.iload_n 1, 1) := by decide +kernel
theorem dX2_isPallet_1 : decode cX2_isPallet 1 = .ok (.iconst 0, 1) := by decide +kernel
theorem dX2_isPallet_2 : decode cX2_isPallet 2 = .ok (.aload_n 0, 1) := by decide +kernel
theorem dX2_isPallet_3 : decode cX2_isPallet 3 = .ok (.getfield 72, 3) := by decide +kernel
theorem dX2_isPallet_6 : decode cX2_isPallet 6 = .ok (.iconst 1, 1) := by decide +kernel
theorem dX2_isPallet_7 : decode cX2_isPallet 7 = .ok (.isub, 1) := by decide +kernel
theorem dX2_isPallet_8 : decode cX2_isPallet 8 = .ok (.invokestatic 75, 3) := by decide +kernel
theorem dX2_isPallet_11 : decode cX2_isPallet 11 = .ok (.ireturn, 1) := by decide +kernel
set_option maxRecDepth 20000 in
theorem ggX2_isGood_X2_isIn : GoodIn wsX2_isGood wsX2_isIn := goodIn_r _ [4] (by decide +kernel) (by decide +kernel)
set_option maxRecDepth 20000 in
theorem gX2_isGood_X2_isIn : GoodIn wsX2_isGood (va_wsS RX2 75 yX2_isIn wsX2_isIn) := goodIn_app (goodIn_of _ (by decide +kernel)) ggX2_isGood_X2_isIn
theorem dX2_isGood_0 : decode cX2_isGood 0 = .ok (.iload_n 0, 1) := by decide +kernel
theorem dX2_isGood_1 : decode cX2_isGood 1 = .ok (.iconst 0, 1) := by decide +kernel
theorem dX2_isGood_2 : decode cX2_isGood 2 = .ok (.iconst 5, 1) := by decide +kernel
theorem dX2_isGood_3 : decode cX2_isGood 3 = .ok (.invokestatic 75, 3) := by decide +kernel
theorem dX2_isGood_6 : decode cX2_isGood 6 = .ok (.ireturn, 1) := by decide +kernel
set_option maxRecDepth 20000 in
theorem ggX2_isEntry_X2_isPallet : GoodIn wsX2_isEntry wsX2_isPallet := goodIn_r _ [6, 7, 8, 9, 5, 10, 11, 12, 13, 14, 15, 16, 17, 18, 19, 20, 21, 22, 23, 24, 25, 26, 27, 28, 29, 30, 31, 32] (by decide +kernel) (by decide +kernel)
set_option maxRecDepth 20000 in
theorem gX2_isEntry_X2_isPallet : GoodIn wsX2_isEntry (wsV RX2 79 RX2 yX2_isPallet wsX2_isPallet) := goodIn_app (goodIn_of _ (by decide +kernel)) ggX2_isEntry_X2_isPallet
set_option maxRecDepth 20000 in
theorem ggX2_isEntry_X2_isIn : GoodIn wsX2_isEntry wsX2_isIn := goodIn_r _ [10] (by decide +kernel) (by decide +kernel)
set_option maxRecDepth 20000 in
theorem gX2_isEntry_X2_isIn : GoodIn wsX2_isEntry (va_wsS RX2 75 yX2_isIn wsX2_isIn) := goodIn_app (goodIn_of _ (by decide +kernel)) ggX2_isEntry_X2_isIn
theorem dX2_isEntry_0 : decode cX2_isEntry 0 = .ok (.aload_n 0, 1) := by decide +kernel
theorem dX2_isEntry_1 : decode cX2_isEntry 1 = .ok (.iload_n 1, 1) := by decide +kernel
theorem dX2_isEntry_2 : decode cX2_isEntry 2 = .ok (.invokevirtual 79, 3) := by decide +kernel
theorem dX2_isEntry_5 : decode cX2_isEntry 5 = .ok (.ifCond .eq 23, 3) := by decide +kernel
theorem dX2_isEntry_8 : decode cX2_isEntry 8 = .ok (.iload_n 2, 1) := by decide +kernel
theorem dX2_isEntry_9 : decode cX2_isEntry 9 = .ok (.iconst 0, 1) := by decide +kernel
theorem dX2_isEntry_10 : decode cX2_isEntry 10 = .ok (.aload_n 0, 1) := by decide +kernel
theorem dX2_isEntry_11 : decode cX2_isEntry 11 = .ok (.getfield 16, 3) := by decide +kernel
theorem dX2_isEntry_14 : decode cX2_isEntry 14 = .ok (.iload_n 1, 1) := by decide +kernel
theorem dX2_isEntry_15 : decode cX2_isEntry 15 = .ok (.iaload, 1) := by decide +kernel
theorem dX2_isEntry_16 : decode cX2_isEntry 16 = .ok (.iconst 1, 1) := by decide +kernel
theorem dX2_isEntry_17 : decode cX2_isEntry 17 = .ok (.isub, 1) := by decide +kernel
theorem dX2_isEntry_18 : decode cX2_isEntry 18 = .ok (.invokestatic 75, 3) := by decide +kernel
theorem dX2_isEntry_21 : decode cX2_isEntry 21 = .ok (.ifCond .eq 7, 3) := by decide +kernel
theorem dX2_isEntry_24 : decode cX2_isEntry 24 = .ok (.iconst 1, 1) := by decide +kernel
theorem dX2_isEntry_25 : decode cX2_isEntry 25 = .ok (.goto 4, 3) := by decide +kernel
theorem dX2_isEntry_28 : decode cX2_isEntry 28 = .ok (.iconst 0, 1) := by decide +kernel
theorem dX2_isEntry_29 : decode cX2_isEntry 29 = .ok (.ireturn, 1) := by decide +kernel
theorem dX2_proofOf_0 : decode cX2_proofOf 0 = .ok (.bipush 30, 2) := by decide +kernel
theorem dX2_proofOf_2 : decode cX2_proofOf 2 = .ok (.iload_n 1, 1) := by decide +kernel
theorem dX2_proofOf_3 : decode cX2_proofOf 3 = .ok (.imul, 1) := by decide +kernel
theorem dX2_proofOf_4 : decode cX2_proofOf 4 = .ok (.iload_n 2, 1) := by decide +kernel
theorem dX2_proofOf_5 : decode cX2_proofOf 5 = .ok (.iadd, 1) := by decide +kernel
theorem dX2_proofOf_6 : decode cX2_proofOf 6 = .ok (.istore_n 3, 1) := by decide +kernel
theorem dX2_proofOf_7 : decode cX2_proofOf 7 = .ok (.iload_n 2, 1) := by decide +kernel
theorem dX2_proofOf_8 : decode cX2_proofOf 8 = .ok (.ifCond .ne 8, 3) := by decide +kernel
theorem dX2_proofOf_11 : decode cX2_proofOf 11 = .ok (.bipush 17, 2) := by decide +kernel
theorem dX2_proofOf_13 : decode cX2_proofOf 13 = .ok (.goto 11, 3) := by decide +kernel
theorem dX2_proofOf_16 : decode cX2_proofOf 16 = .ok (.aload_n 0, 1) := by decide +kernel
theorem dX2_proofOf_17 : decode cX2_proofOf 17 = .ok (.getfield 50, 3) := by decide +kernel
theorem dX2_proofOf_20 : decode cX2_proofOf 20 = .ok (.iload_n 3, 1) := by decide +kernel
theorem dX2_proofOf_21 : decode cX2_proofOf 21 = .ok (.iconst 1, 1) := by decide +kernel
theorem dX2_proofOf_22 : decode cX2_proofOf 22 = .ok (.isub, 1) := by decide +kernel
theorem dX2_proofOf_23 : decode cX2_proofOf 23 = .ok (.iaload, 1) := by decide +kernel
theorem dX2_proofOf_24 : decode cX2_proofOf 24 = .ok (.istore 4, 2) := by decide +kernel
theorem dX2_proofOf_26 : decode cX2_proofOf 26 = .ok (.bipush 31, 2) := by decide +kernel
theorem dX2_proofOf_28 : decode cX2_proofOf 28 = .ok (.iload 4, 2) := by decide +kernel
theorem dX2_proofOf_30 : decode cX2_proofOf 30 = .ok (.imul, 1) := by decide +kernel
theorem dX2_proofOf_31 : decode cX2_proofOf 31 = .ok (.aload_n 0, 1) := by decide +kernel
theorem dX2_proofOf_32 : decode cX2_proofOf 32 = .ok (.getfield 29, 3) := by decide +kernel
theorem dX2_proofOf_35 : decode cX2_proofOf 35 = .ok (.iload_n 3, 1) := by decide +kernel
theorem dX2_proofOf_36 : decode cX2_proofOf 36 = .ok (.iaload, 1) := by decide +kernel
theorem dX2_proofOf_37 : decode cX2_proofOf 37 = .ok (.iadd, 1) := by decide +kernel
theorem dX2_proofOf_38 : decode cX2_proofOf 38 = .ok (.istore 4, 2) := by decide +kernel
theorem dX2_proofOf_40 : decode cX2_proofOf 40 = .ok (.bipush 31, 2) := by decide +kernel
theorem dX2_proofOf_42 : decode cX2_proofOf 42 = .ok (.iload 4, 2) := by decide +kernel
theorem dX2_proofOf_44 : decode cX2_proofOf 44 = .ok (.imul, 1) := by decide +kernel
theorem dX2_proofOf_45 : decode cX2_proofOf 45 = .ok (.aload_n 0, 1) := by decide +kernel
theorem dX2_proofOf_46 : decode cX2_proofOf 46 = .ok (.getfield 32, 3) := by decide +kernel
theorem dX2_proofOf_49 : decode cX2_proofOf 49 = .ok (.iload_n 3, 1) := by decide +kernel
theorem dX2_proofOf_50 : decode cX2_proofOf 50 = .ok (.iaload, 1) := by decide +kernel
theorem dX2_proofOf_51 : decode cX2_proofOf 51 = .ok (.iadd, 1) := by decide +kernel
theorem dX2_proofOf_52 : decode cX2_proofOf 52 = .ok (.istore 4, 2) := by decide +kernel
theorem dX2_proofOf_54 : decode cX2_proofOf 54 = .ok (.bipush 31, 2) := by decide +kernel
theorem dX2_proofOf_56 : decode cX2_proofOf 56 = .ok (.iload 4, 2) := by decide +kernel
theorem dX2_proofOf_58 : decode cX2_proofOf 58 = .ok (.imul, 1) := by decide +kernel
theorem dX2_proofOf_59 : decode cX2_proofOf 59 = .ok (.aload_n 0, 1) := by decide +kernel
theorem dX2_proofOf_60 : decode cX2_proofOf 60 = .ok (.getfield 35, 3) := by decide +kernel
theorem dX2_proofOf_63 : decode cX2_proofOf 63 = .ok (.iload_n 3, 1) := by decide +kernel
theorem dX2_proofOf_64 : decode cX2_proofOf 64 = .ok (.iaload, 1) := by decide +kernel
theorem dX2_proofOf_65 : decode cX2_proofOf 65 = .ok (.iadd, 1) := by decide +kernel
theorem dX2_proofOf_66 : decode cX2_proofOf 66 = .ok (.istore 4, 2) := by decide +kernel
theorem dX2_proofOf_68 : decode cX2_proofOf 68 = .ok (.bipush 31, 2) := by decide +kernel
theorem dX2_proofOf_70 : decode cX2_proofOf 70 = .ok (.iload 4, 2) := by decide +kernel
theorem dX2_proofOf_72 : decode cX2_proofOf 72 = .ok (.imul, 1) := by decide +kernel
theorem dX2_proofOf_73 : decode cX2_proofOf 73 = .ok (.aload_n 0, 1) := by decide +kernel
theorem dX2_proofOf_74 : decode cX2_proofOf 74 = .ok (.getfield 38, 3) := by decide +kernel
theorem dX2_proofOf_77 : decode cX2_proofOf 77 = .ok (.iload_n 3, 1) := by decide +kernel
theorem dX2_proofOf_78 : decode cX2_proofOf 78 = .ok (.iaload, 1) := by decide +kernel
theorem dX2_proofOf_79 : decode cX2_proofOf 79 = .ok (.iadd, 1) := by decide +kernel
theorem dX2_proofOf_80 : decode cX2_proofOf 80 = .ok (.istore 4, 2) := by decide +kernel
theorem dX2_proofOf_82 : decode cX2_proofOf 82 = .ok (.bipush 31, 2) := by decide +kernel
theorem dX2_proofOf_84 : decode cX2_proofOf 84 = .ok (.iload 4, 2) := by decide +kernel
theorem dX2_proofOf_86 : decode cX2_proofOf 86 = .ok (.imul, 1) := by decide +kernel
theorem dX2_proofOf_87 : decode cX2_proofOf 87 = .ok (.aload_n 0, 1) := by decide +kernel
theorem dX2_proofOf_88 : decode cX2_proofOf 88 = .ok (.getfield 41, 3) := by decide +kernel
theorem dX2_proofOf_91 : decode cX2_proofOf 91 = .ok (.iload_n 3, 1) := by decide +kernel
theorem dX2_proofOf_92 : decode cX2_proofOf 92 = .ok (.iaload, 1) := by decide +kernel
theorem dX2_proofOf_93 : decode cX2_proofOf 93 = .ok (.iadd, 1) := by decide +kernel
theorem dX2_proofOf_94 : decode cX2_proofOf 94 = .ok (.istore 4, 2) := by decide +kernel
theorem dX2_proofOf_96 : decode cX2_proofOf 96 = .ok (.bipush 31, 2) := by decide +kernel
theorem dX2_proofOf_98 : decode cX2_proofOf 98 = .ok (.iload 4, 2) := by decide +kernel
theorem dX2_proofOf_100 : decode cX2_proofOf 100 = .ok (.imul, 1) := by decide +kernel
theorem dX2_proofOf_101 : decode cX2_proofOf 101 = .ok (.aload_n 0, 1) := by decide +kernel
theorem dX2_proofOf_102 : decode cX2_proofOf 102 = .ok (.getfield 44, 3) := by decide +kernel
theorem dX2_proofOf_105 : decode cX2_proofOf 105 = .ok (.iload_n 3, 1) := by decide +kernel
theorem dX2_proofOf_106 : decode cX2_proofOf 106 = .ok (.iaload, 1) := by decide +kernel
theorem dX2_proofOf_107 : decode cX2_proofOf 107 = .ok (.iadd, 1) := by decide +kernel
theorem dX2_proofOf_108 : decode cX2_proofOf 108 = .ok (.ireturn, 1) := by decide +kernel
set_option maxRecDepth 20000 in
theorem ggX2_writes_X2_proofOf : GoodIn wsX2_writes wsX2_proofOf := goodIn_r _ [18, 10, 3, 4, 5, 6, 7, 8, 19, 20, 21, 22, 23, 24, 25, 26, 27, 28, 29, 30, 31, 32, 33, 34, 35, 36, 37, 38, 39, 40] (by decide +kernel) (by decide +kernel)
set_option maxRecDepth 20000 in
theorem gX2_writes_X2_proofOf : GoodIn wsX2_writes (wsV RX2 83 RX2 yX2_proofOf wsX2_proofOf) := goodIn_app (goodIn_of _ (by decide +kernel)) ggX2_writes_X2_proofOf
theorem dX2_writes_0 : decode cX2_writes 0 = .ok (.bipush 30, 2) := by decide +kernel
theorem dX2_writes_2 : decode cX2_writes 2 = .ok (.iload_n 1, 1) := by decide +kernel
theorem dX2_writes_3 : decode cX2_writes 3 = .ok (.imul, 1) := by decide +kernel
theorem dX2_writes_4 : decode cX2_writes 4 = .ok (.aload_n 0, 1) := by decide +kernel
theorem dX2_writes_5 : decode cX2_writes 5 = .ok (.getfield 16, 3) := by decide +kernel
theorem dX2_writes_8 : decode cX2_writes 8 = .ok (.iload_n 1, 1) := by decide +kernel
theorem dX2_writes_9 : decode cX2_writes 9 = .ok (.iaload, 1) := by decide +kernel
theorem dX2_writes_10 : decode cX2_writes 10 = .ok (.iadd, 1) := by decide +kernel
theorem dX2_writes_11 : decode cX2_writes 11 = .ok (.istore 7, 2) := by decide +kernel
theorem dX2_writes_13 : decode cX2_writes 13 = .ok (.iload_n 2, 1) := by decide +kernel
theorem dX2_writes_14 : decode cX2_writes 14 = .ok (.bipush 8, 2) := by decide +kernel
theorem dX2_writes_16 : decode cX2_writes 16 = .ok (.if_icmp .eq 9, 3) := by decide +kernel
theorem dX2_writes_19 : decode cX2_writes 19 = .ok (.iload_n 2, 1) := by decide +kernel
theorem dX2_writes_20 : decode cX2_writes 20 = .ok (.bipush 9, 2) := by decide +kernel
theorem dX2_writes_22 : decode cX2_writes 22 = .ok (.if_icmp .ne 8, 3) := by decide +kernel
theorem dX2_writes_25 : decode cX2_writes 25 = .ok (.bipush 6, 2) := by decide +kernel
theorem dX2_writes_27 : decode cX2_writes 27 = .ok (.goto 9, 3) := by decide +kernel
theorem dX2_writes_30 : decode cX2_writes 30 = .ok (.aload_n 0, 1) := by decide +kernel
theorem dX2_writes_31 : decode cX2_writes 31 = .ok (.getfield 7, 3) := by decide +kernel
theorem dX2_writes_34 : decode cX2_writes 34 = .ok (.iload_n 1, 1) := by decide +kernel
theorem dX2_writes_35 : decode cX2_writes 35 = .ok (.iaload, 1) := by decide +kernel
theorem dX2_writes_36 : decode cX2_writes 36 = .ok (.istore 8, 2) := by decide +kernel
theorem dX2_writes_38 : decode cX2_writes 38 = .ok (.aload_n 0, 1) := by decide +kernel
theorem dX2_writes_39 : decode cX2_writes 39 = .ok (.getfield 29, 3) := by decide +kernel
theorem dX2_writes_42 : decode cX2_writes 42 = .ok (.iload 7, 2) := by decide +kernel
theorem dX2_writes_44 : decode cX2_writes 44 = .ok (.iload_n 2, 1) := by decide +kernel
theorem dX2_writes_45 : decode cX2_writes 45 = .ok (.iastore, 1) := by decide +kernel
theorem dX2_writes_46 : decode cX2_writes 46 = .ok (.aload_n 0, 1) := by decide +kernel
theorem dX2_writes_47 : decode cX2_writes 47 = .ok (.getfield 32, 3) := by decide +kernel
theorem dX2_writes_50 : decode cX2_writes 50 = .ok (.iload 7, 2) := by decide +kernel
theorem dX2_writes_52 : decode cX2_writes 52 = .ok (.iload 8, 2) := by decide +kernel
theorem dX2_writes_54 : decode cX2_writes 54 = .ok (.iastore, 1) := by decide +kernel
theorem dX2_writes_55 : decode cX2_writes 55 = .ok (.aload_n 0, 1) := by decide +kernel
theorem dX2_writes_56 : decode cX2_writes 56 = .ok (.getfield 35, 3) := by decide +kernel
theorem dX2_writes_59 : decode cX2_writes 59 = .ok (.iload 7, 2) := by decide +kernel
theorem dX2_writes_61 : decode cX2_writes 61 = .ok (.iload_n 3, 1) := by decide +kernel
theorem dX2_writes_62 : decode cX2_writes 62 = .ok (.iastore, 1) := by decide +kernel
theorem dX2_writes_63 : decode cX2_writes 63 = .ok (.aload_n 0, 1) := by decide +kernel
theorem dX2_writes_64 : decode cX2_writes 64 = .ok (.getfield 38, 3) := by decide +kernel
theorem dX2_writes_67 : decode cX2_writes 67 = .ok (.iload 7, 2) := by decide +kernel
theorem dX2_writes_69 : decode cX2_writes 69 = .ok (.iload 4, 2) := by decide +kernel
theorem dX2_writes_71 : decode cX2_writes 71 = .ok (.iastore, 1) := by decide +kernel
theorem dX2_writes_72 : decode cX2_writes 72 = .ok (.aload_n 0, 1) := by decide +kernel
theorem dX2_writes_73 : decode cX2_writes 73 = .ok (.getfield 41, 3) := by decide +kernel
theorem dX2_writes_76 : decode cX2_writes 76 = .ok (.iload 7, 2) := by decide +kernel
theorem dX2_writes_78 : decode cX2_writes 78 = .ok (.iload 5, 2) := by decide +kernel
theorem dX2_writes_80 : decode cX2_writes 80 = .ok (.iastore, 1) := by decide +kernel
theorem dX2_writes_81 : decode cX2_writes 81 = .ok (.aload_n 0, 1) := by decide +kernel
theorem dX2_writes_82 : decode cX2_writes 82 = .ok (.getfield 44, 3) := by decide +kernel
theorem dX2_writes_85 : decode cX2_writes 85 = .ok (.iload 7, 2) := by decide +kernel
theorem dX2_writes_87 : decode cX2_writes 87 = .ok (.iload 6, 2) := by decide +kernel
theorem dX2_writes_89 : decode cX2_writes 89 = .ok (.iastore, 1) := by decide +kernel
theorem dX2_writes_90 : decode cX2_writes 90 = .ok (.aload_n 0, 1) := by decide +kernel
theorem dX2_writes_91 : decode cX2_writes 91 = .ok (.getfield 47, 3) := by decide +kernel
theorem dX2_writes_94 : decode cX2_writes 94 = .ok (.iload 7, 2) := by decide +kernel
theorem dX2_writes_96 : decode cX2_writes 96 = .ok (.iload 4, 2) := by decide +kernel
theorem dX2_writes_98 : decode cX2_writes 98 = .ok (.iastore, 1) := by decide +kernel
theorem dX2_writes_99 : decode cX2_writes 99 = .ok (.aload_n 0, 1) := by decide +kernel
theorem dX2_writes_100 : decode cX2_writes 100 = .ok (.getfield 50, 3) := by decide +kernel
theorem dX2_writes_103 : decode cX2_writes 103 = .ok (.iload 7, 2) := by decide +kernel
theorem dX2_writes_105 : decode cX2_writes 105 = .ok (.aload_n 0, 1) := by decide +kernel
theorem dX2_writes_106 : decode cX2_writes 106 = .ok (.iload_n 1, 1) := by decide +kernel
theorem dX2_writes_107 : decode cX2_writes 107 = .ok (.aload_n 0, 1) := by decide +kernel
theorem dX2_writes_108 : decode cX2_writes 108 = .ok (.getfield 16, 3) := by decide +kernel
theorem dX2_writes_111 : decode cX2_writes 111 = .ok (.iload_n 1, 1) := by decide +kernel
theorem dX2_writes_112 : decode cX2_writes 112 = .ok (.iaload, 1) := by decide +kernel
theorem dX2_writes_113 : decode cX2_writes 113 = .ok (.invokevirtual 83, 3) := by decide +kernel
theorem dX2_writes_116 : decode cX2_writes 116 = .ok (.iastore, 1) := by decide +kernel
theorem dX2_writes_117 : decode cX2_writes 117 = .ok (.aload_n 0, 1) := by decide +kernel
theorem dX2_writes_118 : decode cX2_writes 118 = .ok (.getfield 53, 3) := by decide +kernel
theorem dX2_writes_121 : decode cX2_writes 121 = .ok (.iload 7, 2) := by decide +kernel
theorem dX2_writes_123 : decode cX2_writes 123 = .ok (.iconst 1, 1) := by decide +kernel
theorem dX2_writes_124 : decode cX2_writes 124 = .ok (.iload 8, 2) := by decide +kernel
theorem dX2_writes_126 : decode cX2_writes 126 = .ok (.ishl, 1) := by decide +kernel
theorem dX2_writes_127 : decode cX2_writes 127 = .ok (.iload_n 2, 1) := by decide +kernel
theorem dX2_writes_128 : decode cX2_writes 128 = .ok (.bipush 7, 2) := by decide +kernel
theorem dX2_writes_130 : decode cX2_writes 130 = .ok (.if_icmp .ne 10, 3) := by decide +kernel
theorem dX2_writes_133 : decode cX2_writes 133 = .ok (.iconst 1, 1) := by decide +kernel
theorem dX2_writes_134 : decode cX2_writes 134 = .ok (.iload 4, 2) := by decide +kernel
theorem dX2_writes_136 : decode cX2_writes 136 = .ok (.ishl, 1) := by decide +kernel
theorem dX2_writes_137 : decode cX2_writes 137 = .ok (.goto 19, 3) := by decide +kernel
theorem dX2_writes_140 : decode cX2_writes 140 = .ok (.iload_n 2, 1) := by decide +kernel
theorem dX2_writes_141 : decode cX2_writes 141 = .ok (.iconst 3, 1) := by decide +kernel
theorem dX2_writes_142 : decode cX2_writes 142 = .ok (.if_icmp .eq 8, 3) := by decide +kernel
theorem dX2_writes_145 : decode cX2_writes 145 = .ok (.iload_n 2, 1) := by decide +kernel
theorem dX2_writes_146 : decode cX2_writes 146 = .ok (.iconst 5, 1) := by decide +kernel
theorem dX2_writes_147 : decode cX2_writes 147 = .ok (.if_icmp .ne 8, 3) := by decide +kernel
theorem dX2_writes_150 : decode cX2_writes 150 = .ok (.bipush 64, 2) := by decide +kernel
theorem dX2_writes_152 : decode cX2_writes 152 = .ok (.goto 4, 3) := by decide +kernel
theorem dX2_writes_155 : decode cX2_writes 155 = .ok (.iconst 0, 1) := by decide +kernel
theorem dX2_writes_156 : decode cX2_writes 156 = .ok (.ior, 1) := by decide +kernel
theorem dX2_writes_157 : decode cX2_writes 157 = .ok (.iastore, 1) := by decide +kernel
theorem dX2_writes_158 : decode cX2_writes 158 = .ok (.aload_n 0, 1) := by decide +kernel
theorem dX2_writes_159 : decode cX2_writes 159 = .ok (.getfield 16, 3) := by decide +kernel
theorem dX2_writes_162 : decode cX2_writes 162 = .ok (.iload_n 1, 1) := by decide +kernel
theorem dX2_writes_163 : decode cX2_writes 163 = .ok (.dup2, 1) := by decide +kernel
theorem dX2_writes_164 : decode cX2_writes 164 = .ok (.iaload, 1) := by decide +kernel
theorem dX2_writes_165 : decode cX2_writes 165 = .ok (.iconst 1, 1) := by decide +kernel
theorem dX2_writes_166 : decode cX2_writes 166 = .ok (.iadd, 1) := by decide +kernel
theorem dX2_writes_167 : decode cX2_writes 167 = .ok (.iastore, 1) := by decide +kernel
theorem dX2_writes_168 : decode cX2_writes 168 = .ok (.aload_n 0, 1) := by decide +kernel
theorem dX2_writes_169 : decode cX2_writes 169 = .ok (.getfield 62, 3) := by decide +kernel
theorem dX2_writes_172 : decode cX2_writes 172 = .ok (.iload 8, 2) := by decide +kernel
theorem dX2_writes_174 : decode cX2_writes 174 = .ok (.dup2, 1) := by decide +kernel
theorem dX2_writes_175 : decode cX2_writes 175 = .ok (.iaload, 1) := by decide +kernel
theorem dX2_writes_176 : decode cX2_writes 176 = .ok (.aload_n 0, 1) := by decide +kernel
theorem dX2_writes_177 : decode cX2_writes 177 = .ok (.getfield 59, 3) := by decide +kernel
theorem dX2_writes_180 : decode cX2_writes 180 = .ok (.iload_n 2, 1) := by decide +kernel
theorem dX2_writes_181 : decode cX2_writes 181 = .ok (.iaload, 1) := by decide +kernel
theorem dX2_writes_182 : decode cX2_writes 182 = .ok (.iadd, 1) := by decide +kernel
theorem dX2_writes_183 : decode cX2_writes 183 = .ok (.iastore, 1) := by decide +kernel
theorem dX2_writes_184 : decode cX2_writes 184 = .ok (.return_, 1) := by decide +kernel
set_option maxRecDepth 20000 in
theorem ggX2_isBroken_X2_proofOf : GoodIn wsX2_isBroken wsX2_proofOf := goodIn_r _ [6, 1, 7, 8, 9, 10, 11, 12, 13, 14, 15, 16, 17, 18, 19, 20, 21, 22, 23, 24, 25, 26, 27, 28, 29, 30, 31, 32, 33, 34] (by decide +kernel) (by decide +kernel)
set_option maxRecDepth 20000 in
theorem gX2_isBroken_X2_proofOf : GoodIn wsX2_isBroken (wsV RX2 83 RX2 yX2_proofOf wsX2_proofOf) := goodIn_app (goodIn_of _ (by decide +kernel)) ggX2_isBroken_X2_proofOf
theorem dX2_isBroken_0 : decode cX2_isBroken 0 = .ok (.aload_n 0, 1) := by decide +kernel
theorem dX2_isBroken_1 : decode cX2_isBroken 1 = .ok (.getfield 50, 3) := by decide +kernel
theorem dX2_isBroken_4 : decode cX2_isBroken 4 = .ok (.bipush 30, 2) := by decide +kernel
theorem dX2_isBroken_6 : decode cX2_isBroken 6 = .ok (.iload_n 1, 1) := by decide +kernel
theorem dX2_isBroken_7 : decode cX2_isBroken 7 = .ok (.imul, 1) := by decide +kernel
theorem dX2_isBroken_8 : decode cX2_isBroken 8 = .ok (.iload_n 2, 1) := by decide +kernel
theorem dX2_isBroken_9 : decode cX2_isBroken 9 = .ok (.iadd, 1) := by decide +kernel
theorem dX2_isBroken_10 : decode cX2_isBroken 10 = .ok (.iaload, 1) := by decide +kernel
theorem dX2_isBroken_11 : decode cX2_isBroken 11 = .ok (.aload_n 0, 1) := by decide +kernel
theorem dX2_isBroken_12 : decode cX2_isBroken 12 = .ok (.iload_n 1, 1) := by decide +kernel
theorem dX2_isBroken_13 : decode cX2_isBroken 13 = .ok (.iload_n 2, 1) := by decide +kernel
theorem dX2_isBroken_14 : decode cX2_isBroken 14 = .ok (.invokevirtual 83, 3) := by decide +kernel
theorem dX2_isBroken_17 : decode cX2_isBroken 17 = .ok (.if_icmp .eq 7, 3) := by decide +kernel
theorem dX2_isBroken_20 : decode cX2_isBroken 20 = .ok (.iconst 1, 1) := by decide +kernel
theorem dX2_isBroken_21 : decode cX2_isBroken 21 = .ok (.goto 4, 3) := by decide +kernel
theorem dX2_isBroken_24 : decode cX2_isBroken 24 = .ok (.iconst 0, 1) := by decide +kernel
theorem dX2_isBroken_25 : decode cX2_isBroken 25 = .ok (.ireturn, 1) := by decide +kernel
set_option maxRecDepth 20000 in
theorem ggX2_firstBroken_X2_isBroken : GoodIn wsX2_firstBroken wsX2_isBroken := goodIn_r _ [6, 7, 8, 9, 10, 5, 11, 12, 13, 14, 15, 16, 17, 18, 19, 20, 21, 22, 23, 24, 25, 26, 27, 28, 29, 30, 31, 32, 33, 34, 35, 36, 37, 38, 39] (by decide +kernel) (by decide +kernel)
set_option maxRecDepth 20000 in
theorem gX2_firstBroken_X2_isBroken : GoodIn wsX2_firstBroken (wsV RX2 87 RX2 yX2_isBroken wsX2_isBroken) := goodIn_app (goodIn_of _ (by decide +kernel)) ggX2_firstBroken_X2_isBroken
theorem dX2_firstBroken_0 : decode cX2_firstBroken 0 = .ok (.iconst 0, 1) := by decide +kernel
theorem dX2_firstBroken_1 : decode cX2_firstBroken 1 = .ok (.istore_n 2, 1) := by decide +kernel
theorem dX2_firstBroken_2 : decode cX2_firstBroken 2 = .ok (.iload_n 2, 1) := by decide +kernel
theorem dX2_firstBroken_3 : decode cX2_firstBroken 3 = .ok (.aload_n 0, 1) := by decide +kernel
theorem dX2_firstBroken_4 : decode cX2_firstBroken 4 = .ok (.getfield 16, 3) := by decide +kernel
theorem dX2_firstBroken_7 : decode cX2_firstBroken 7 = .ok (.iload_n 1, 1) := by decide +kernel
theorem dX2_firstBroken_8 : decode cX2_firstBroken 8 = .ok (.iaload, 1) := by decide +kernel
theorem dX2_firstBroken_9 : decode cX2_firstBroken 9 = .ok (.if_icmp .ge 20, 3) := by decide +kernel
theorem dX2_firstBroken_12 : decode cX2_firstBroken 12 = .ok (.aload_n 0, 1) := by decide +kernel
theorem dX2_firstBroken_13 : decode cX2_firstBroken 13 = .ok (.iload_n 1, 1) := by decide +kernel
theorem dX2_firstBroken_14 : decode cX2_firstBroken 14 = .ok (.iload_n 2, 1) := by decide +kernel
theorem dX2_firstBroken_15 : decode cX2_firstBroken 15 = .ok (.invokevirtual 87, 3) := by decide +kernel
theorem dX2_firstBroken_18 : decode cX2_firstBroken 18 = .ok (.ifCond .eq 5, 3) := by decide +kernel
theorem dX2_firstBroken_21 : decode cX2_firstBroken 21 = .ok (.iload_n 2, 1) := by decide +kernel
theorem dX2_firstBroken_22 : decode cX2_firstBroken 22 = .ok (.ireturn, 1) := by decide +kernel
theorem dX2_firstBroken_23 : decode cX2_firstBroken 23 = .ok (.iinc 2 1, 3) := by decide +kernel
theorem dX2_firstBroken_26 : decode cX2_firstBroken 26 = .ok (.goto (-24), 3) := by decide +kernel
theorem dX2_firstBroken_29 : decode cX2_firstBroken 29 = .ok (.iconst (-1), 1) := by decide +kernel
theorem dX2_firstBroken_30 : decode cX2_firstBroken 30 = .ok (.ireturn, 1) := by decide +kernel
set_option maxRecDepth 20000 in
theorem ggX2_sound_X2_firstBroken : GoodIn wsX2_sound wsX2_firstBroken := goodIn_r _ [8, 1, 9, 10, 11, 7, 12, 13, 14, 15, 16, 17, 2, 18, 19, 20, 3, 21, 22, 23, 24, 25, 26, 27, 28, 29, 30, 31, 32, 33, 34, 35, 36, 37, 38, 39, 40, 41, 42, 43] (by decide +kernel) (by decide +kernel)
set_option maxRecDepth 20000 in
theorem gX2_sound_X2_firstBroken : GoodIn wsX2_sound (wsV RX2 91 RX2 yX2_firstBroken wsX2_firstBroken) := goodIn_app (goodIn_of _ (by decide +kernel)) ggX2_sound_X2_firstBroken
theorem dX2_sound_0 : decode cX2_sound 0 = .ok (.iconst 1, 1) := by decide +kernel
theorem dX2_sound_1 : decode cX2_sound 1 = .ok (.iload_n 1, 1) := by decide +kernel
theorem dX2_sound_2 : decode cX2_sound 2 = .ok (.ishl, 1) := by decide +kernel
theorem dX2_sound_3 : decode cX2_sound 3 = .ok (.istore_n 2, 1) := by decide +kernel
theorem dX2_sound_4 : decode cX2_sound 4 = .ok (.iconst 0, 1) := by decide +kernel
theorem dX2_sound_5 : decode cX2_sound 5 = .ok (.istore_n 3, 1) := by decide +kernel
theorem dX2_sound_6 : decode cX2_sound 6 = .ok (.iload_n 3, 1) := by decide +kernel
theorem dX2_sound_7 : decode cX2_sound 7 = .ok (.iload_n 2, 1) := by decide +kernel
theorem dX2_sound_8 : decode cX2_sound 8 = .ok (.if_icmp .eq 116, 3) := by decide +kernel
theorem dX2_sound_11 : decode cX2_sound 11 = .ok (.iconst 0, 1) := by decide +kernel
theorem dX2_sound_12 : decode cX2_sound 12 = .ok (.istore 4, 2) := by decide +kernel
theorem dX2_sound_14 : decode cX2_sound 14 = .ok (.iload_n 2, 1) := by decide +kernel
theorem dX2_sound_15 : decode cX2_sound 15 = .ok (.iload_n 3, 1) := by decide +kernel
theorem dX2_sound_16 : decode cX2_sound 16 = .ok (.iconst (-1), 1) := by decide +kernel
theorem dX2_sound_17 : decode cX2_sound 17 = .ok (.ixor, 1) := by decide +kernel
theorem dX2_sound_18 : decode cX2_sound 18 = .ok (.iand, 1) := by decide +kernel
theorem dX2_sound_19 : decode cX2_sound 19 = .ok (.iconst 1, 1) := by decide +kernel
theorem dX2_sound_20 : decode cX2_sound 20 = .ok (.iload 4, 2) := by decide +kernel
theorem dX2_sound_22 : decode cX2_sound 22 = .ok (.ishl, 1) := by decide +kernel
theorem dX2_sound_23 : decode cX2_sound 23 = .ok (.iand, 1) := by decide +kernel
theorem dX2_sound_24 : decode cX2_sound 24 = .ok (.ifCond .ne 9, 3) := by decide +kernel
theorem dX2_sound_27 : decode cX2_sound 27 = .ok (.iinc 4 1, 3) := by decide +kernel
theorem dX2_sound_30 : decode cX2_sound 30 = .ok (.goto (-16), 3) := by decide +kernel
theorem dX2_sound_33 : decode cX2_sound 33 = .ok (.iload_n 3, 1) := by decide +kernel
theorem dX2_sound_34 : decode cX2_sound 34 = .ok (.iconst 1, 1) := by decide +kernel
theorem dX2_sound_35 : decode cX2_sound 35 = .ok (.iload 4, 2) := by decide +kernel
theorem dX2_sound_37 : decode cX2_sound 37 = .ok (.ishl, 1) := by decide +kernel
theorem dX2_sound_38 : decode cX2_sound 38 = .ok (.ior, 1) := by decide +kernel
theorem dX2_sound_39 : decode cX2_sound 39 = .ok (.istore_n 3, 1) := by decide +kernel
theorem dX2_sound_40 : decode cX2_sound 40 = .ok (.aload_n 0, 1) := by decide +kernel
theorem dX2_sound_41 : decode cX2_sound 41 = .ok (.iload 4, 2) := by decide +kernel
theorem dX2_sound_43 : decode cX2_sound 43 = .ok (.invokevirtual 91, 3) := by decide +kernel
theorem dX2_sound_46 : decode cX2_sound 46 = .ok (.iconst (-1), 1) := by decide +kernel
theorem dX2_sound_47 : decode cX2_sound 47 = .ok (.if_icmp .eq 5, 3) := by decide +kernel
theorem dX2_sound_50 : decode cX2_sound 50 = .ok (.iconst 0, 1) := by decide +kernel
theorem dX2_sound_51 : decode cX2_sound 51 = .ok (.ireturn, 1) := by decide +kernel
theorem dX2_sound_52 : decode cX2_sound 52 = .ok (.bipush 30, 2) := by decide +kernel
theorem dX2_sound_54 : decode cX2_sound 54 = .ok (.iload 4, 2) := by decide +kernel
theorem dX2_sound_56 : decode cX2_sound 56 = .ok (.imul, 1) := by decide +kernel
theorem dX2_sound_57 : decode cX2_sound 57 = .ok (.istore 5, 2) := by decide +kernel
theorem dX2_sound_59 : decode cX2_sound 59 = .ok (.iload 5, 2) := by decide +kernel
theorem dX2_sound_61 : decode cX2_sound 61 = .ok (.bipush 30, 2) := by decide +kernel
theorem dX2_sound_63 : decode cX2_sound 63 = .ok (.iload 4, 2) := by decide +kernel
theorem dX2_sound_65 : decode cX2_sound 65 = .ok (.imul, 1) := by decide +kernel
theorem dX2_sound_66 : decode cX2_sound 66 = .ok (.aload_n 0, 1) := by decide +kernel
theorem dX2_sound_67 : decode cX2_sound 67 = .ok (.getfield 16, 3) := by decide +kernel
theorem dX2_sound_70 : decode cX2_sound 70 = .ok (.iload 4, 2) := by decide +kernel
theorem dX2_sound_72 : decode cX2_sound 72 = .ok (.iaload, 1) := by decide +kernel
theorem dX2_sound_73 : decode cX2_sound 73 = .ok (.iadd, 1) := by decide +kernel
theorem dX2_sound_74 : decode cX2_sound 74 = .ok (.if_icmp .ge 47, 3) := by decide +kernel
theorem dX2_sound_77 : decode cX2_sound 77 = .ok (.iload_n 2, 1) := by decide +kernel
theorem dX2_sound_78 : decode cX2_sound 78 = .ok (.aload_n 0, 1) := by decide +kernel
theorem dX2_sound_79 : decode cX2_sound 79 = .ok (.getfield 29, 3) := by decide +kernel
theorem dX2_sound_82 : decode cX2_sound 82 = .ok (.iload 5, 2) := by decide +kernel
theorem dX2_sound_84 : decode cX2_sound 84 = .ok (.iaload, 1) := by decide +kernel
theorem dX2_sound_85 : decode cX2_sound 85 = .ok (.iconst 4, 1) := by decide +kernel
theorem dX2_sound_86 : decode cX2_sound 86 = .ok (.if_icmp .eq 14, 3) := by decide +kernel
theorem dX2_sound_89 : decode cX2_sound 89 = .ok (.aload_n 0, 1) := by decide +kernel
theorem dX2_sound_90 : decode cX2_sound 90 = .ok (.getfield 29, 3) := by decide +kernel
theorem dX2_sound_93 : decode cX2_sound 93 = .ok (.iload 5, 2) := by decide +kernel
theorem dX2_sound_95 : decode cX2_sound 95 = .ok (.iaload, 1) := by decide +kernel
theorem dX2_sound_96 : decode cX2_sound 96 = .ok (.iconst 5, 1) := by decide +kernel
theorem dX2_sound_97 : decode cX2_sound 97 = .ok (.if_icmp .ne 15, 3) := by decide +kernel
theorem dX2_sound_100 : decode cX2_sound 100 = .ok (.iconst 1, 1) := by decide +kernel
theorem dX2_sound_101 : decode cX2_sound 101 = .ok (.aload_n 0, 1) := by decide +kernel
theorem dX2_sound_102 : decode cX2_sound 102 = .ok (.getfield 41, 3) := by decide +kernel
theorem dX2_sound_105 : decode cX2_sound 105 = .ok (.iload 5, 2) := by decide +kernel
theorem dX2_sound_107 : decode cX2_sound 107 = .ok (.iaload, 1) := by decide +kernel
theorem dX2_sound_108 : decode cX2_sound 108 = .ok (.ishl, 1) := by decide +kernel
theorem dX2_sound_109 : decode cX2_sound 109 = .ok (.goto 4, 3) := by decide +kernel
theorem dX2_sound_112 : decode cX2_sound 112 = .ok (.iconst 0, 1) := by decide +kernel
theorem dX2_sound_113 : decode cX2_sound 113 = .ok (.ior, 1) := by decide +kernel
theorem dX2_sound_114 : decode cX2_sound 114 = .ok (.istore_n 2, 1) := by decide +kernel
theorem dX2_sound_115 : decode cX2_sound 115 = .ok (.iinc 5 1, 3) := by decide +kernel
theorem dX2_sound_118 : decode cX2_sound 118 = .ok (.goto (-59), 3) := by decide +kernel
theorem dX2_sound_121 : decode cX2_sound 121 = .ok (.goto (-115), 3) := by decide +kernel
theorem dX2_sound_124 : decode cX2_sound 124 = .ok (.iconst 1, 1) := by decide +kernel
theorem dX2_sound_125 : decode cX2_sound 125 = .ok (.ireturn, 1) := by decide +kernel
set_option maxRecDepth 20000 in
theorem ggX2_canWork_X2_sound : GoodIn wsX2_canWork wsX2_sound := goodIn_r _ [8, 3, 9, 10, 11, 12, 13, 7, 14, 15, 16, 17, 18, 19, 20, 21, 22, 23, 24, 25, 26, 27, 28, 29, 30, 31, 32, 33, 34, 35, 36, 37, 38, 39, 40, 41, 42, 43, 44, 45, 46, 47, 48, 49] (by decide +kernel) (by decide +kernel)
set_option maxRecDepth 20000 in
theorem gX2_canWork_X2_sound : GoodIn wsX2_canWork (wsV RX2 95 RX2 yX2_sound wsX2_sound) := goodIn_app (goodIn_of _ (by decide +kernel)) ggX2_canWork_X2_sound
theorem dX2_canWork_0 : decode cX2_canWork 0 = .ok (.aload_n 0, 1) := by decide +kernel
theorem dX2_canWork_1 : decode cX2_canWork 1 = .ok (.getfield 19, 3) := by decide +kernel
theorem dX2_canWork_4 : decode cX2_canWork 4 = .ok (.iload_n 1, 1) := by decide +kernel
theorem dX2_canWork_5 : decode cX2_canWork 5 = .ok (.baload, 1) := by decide +kernel
theorem dX2_canWork_6 : decode cX2_canWork 6 = .ok (.ifCond .ne 35, 3) := by decide +kernel
theorem dX2_canWork_9 : decode cX2_canWork 9 = .ok (.aload_n 0, 1) := by decide +kernel
theorem dX2_canWork_10 : decode cX2_canWork 10 = .ok (.getfield 23, 3) := by decide +kernel
theorem dX2_canWork_13 : decode cX2_canWork 13 = .ok (.iload_n 1, 1) := by decide +kernel
theorem dX2_canWork_14 : decode cX2_canWork 14 = .ok (.baload, 1) := by decide +kernel
theorem dX2_canWork_15 : decode cX2_canWork 15 = .ok (.ifCond .ne 26, 3) := by decide +kernel
theorem dX2_canWork_18 : decode cX2_canWork 18 = .ok (.aload_n 0, 1) := by decide +kernel
theorem dX2_canWork_19 : decode cX2_canWork 19 = .ok (.getfield 16, 3) := by decide +kernel
theorem dX2_canWork_22 : decode cX2_canWork 22 = .ok (.iload_n 1, 1) := by decide +kernel
theorem dX2_canWork_23 : decode cX2_canWork 23 = .ok (.iaload, 1) := by decide +kernel
theorem dX2_canWork_24 : decode cX2_canWork 24 = .ok (.bipush 30, 2) := by decide +kernel
theorem dX2_canWork_26 : decode cX2_canWork 26 = .ok (.if_icmp .ge 15, 3) := by decide +kernel
theorem dX2_canWork_29 : decode cX2_canWork 29 = .ok (.aload_n 0, 1) := by decide +kernel
theorem dX2_canWork_30 : decode cX2_canWork 30 = .ok (.iload_n 1, 1) := by decide +kernel
theorem dX2_canWork_31 : decode cX2_canWork 31 = .ok (.invokevirtual 95, 3) := by decide +kernel
theorem dX2_canWork_34 : decode cX2_canWork 34 = .ok (.ifCond .eq 7, 3) := by decide +kernel
theorem dX2_canWork_37 : decode cX2_canWork 37 = .ok (.iconst 1, 1) := by decide +kernel
theorem dX2_canWork_38 : decode cX2_canWork 38 = .ok (.goto 4, 3) := by decide +kernel
theorem dX2_canWork_41 : decode cX2_canWork 41 = .ok (.iconst 0, 1) := by decide +kernel
theorem dX2_canWork_42 : decode cX2_canWork 42 = .ok (.ireturn, 1) := by decide +kernel
theorem dX2_weight_0 : decode cX2_weight 0 = .ok (.iconst 0, 1) := by decide +kernel
theorem dX2_weight_1 : decode cX2_weight 1 = .ok (.istore_n 2, 1) := by decide +kernel
theorem dX2_weight_2 : decode cX2_weight 2 = .ok (.iconst 0, 1) := by decide +kernel
theorem dX2_weight_3 : decode cX2_weight 3 = .ok (.istore_n 3, 1) := by decide +kernel
theorem dX2_weight_4 : decode cX2_weight 4 = .ok (.iload_n 3, 1) := by decide +kernel
theorem dX2_weight_5 : decode cX2_weight 5 = .ok (.bipush 6, 2) := by decide +kernel
theorem dX2_weight_7 : decode cX2_weight 7 = .ok (.if_icmp .ge 27, 3) := by decide +kernel
theorem dX2_weight_10 : decode cX2_weight 10 = .ok (.iload_n 2, 1) := by decide +kernel
theorem dX2_weight_11 : decode cX2_weight 11 = .ok (.aload_n 0, 1) := by decide +kernel
theorem dX2_weight_12 : decode cX2_weight 12 = .ok (.getfield 13, 3) := by decide +kernel
theorem dX2_weight_15 : decode cX2_weight 15 = .ok (.bipush 6, 2) := by decide +kernel
theorem dX2_weight_17 : decode cX2_weight 17 = .ok (.iload_n 1, 1) := by decide +kernel
theorem dX2_weight_18 : decode cX2_weight 18 = .ok (.imul, 1) := by decide +kernel
theorem dX2_weight_19 : decode cX2_weight 19 = .ok (.iload_n 3, 1) := by decide +kernel
theorem dX2_weight_20 : decode cX2_weight 20 = .ok (.iadd, 1) := by decide +kernel
theorem dX2_weight_21 : decode cX2_weight 21 = .ok (.iaload, 1) := by decide +kernel
theorem dX2_weight_22 : decode cX2_weight 22 = .ok (.iload_n 3, 1) := by decide +kernel
theorem dX2_weight_23 : decode cX2_weight 23 = .ok (.iconst 1, 1) := by decide +kernel
theorem dX2_weight_24 : decode cX2_weight 24 = .ok (.iadd, 1) := by decide +kernel
theorem dX2_weight_25 : decode cX2_weight 25 = .ok (.imul, 1) := by decide +kernel
theorem dX2_weight_26 : decode cX2_weight 26 = .ok (.iadd, 1) := by decide +kernel
theorem dX2_weight_27 : decode cX2_weight 27 = .ok (.istore_n 2, 1) := by decide +kernel
theorem dX2_weight_28 : decode cX2_weight 28 = .ok (.iinc 3 1, 3) := by decide +kernel
theorem dX2_weight_31 : decode cX2_weight 31 = .ok (.goto (-27), 3) := by decide +kernel
theorem dX2_weight_34 : decode cX2_weight 34 = .ok (.iload_n 2, 1) := by decide +kernel
theorem dX2_weight_35 : decode cX2_weight 35 = .ok (.ireturn, 1) := by decide +kernel
set_option maxRecDepth 20000 in
theorem ggX2_hasRoom_X2_weight : GoodIn wsX2_hasRoom wsX2_weight := goodIn_r _ [7, 8, 9, 10, 11, 12, 13, 14, 15, 16, 17, 18, 19, 20, 21, 22, 23, 24, 25, 26, 27, 28, 29, 30] (by decide +kernel) (by decide +kernel)
set_option maxRecDepth 20000 in
theorem gX2_hasRoom_X2_weight : GoodIn wsX2_hasRoom (wsV RX2 98 RX2 yX2_weight wsX2_weight) := goodIn_app (goodIn_of _ (by decide +kernel)) ggX2_hasRoom_X2_weight
theorem dX2_hasRoom_0 : decode cX2_hasRoom 0 = .ok (.iload_n 2, 1) := by decide +kernel
theorem dX2_hasRoom_1 : decode cX2_hasRoom 1 = .ok (.istore_n 3, 1) := by decide +kernel
theorem dX2_hasRoom_2 : decode cX2_hasRoom 2 = .ok (.iconst 0, 1) := by decide +kernel
theorem dX2_hasRoom_3 : decode cX2_hasRoom 3 = .ok (.istore 4, 2) := by decide +kernel
theorem dX2_hasRoom_5 : decode cX2_hasRoom 5 = .ok (.iload 4, 2) := by decide +kernel
theorem dX2_hasRoom_7 : decode cX2_hasRoom 7 = .ok (.aload_n 0, 1) := by decide +kernel
theorem dX2_hasRoom_8 : decode cX2_hasRoom 8 = .ok (.getfield 72, 3) := by decide +kernel
theorem dX2_hasRoom_11 : decode cX2_hasRoom 11 = .ok (.if_icmp .ge 33, 3) := by decide +kernel
theorem dX2_hasRoom_14 : decode cX2_hasRoom 14 = .ok (.iload_n 3, 1) := by decide +kernel
theorem dX2_hasRoom_15 : decode cX2_hasRoom 15 = .ok (.aload_n 0, 1) := by decide +kernel
theorem dX2_hasRoom_16 : decode cX2_hasRoom 16 = .ok (.getfield 7, 3) := by decide +kernel
theorem dX2_hasRoom_19 : decode cX2_hasRoom 19 = .ok (.iload 4, 2) := by decide +kernel
theorem dX2_hasRoom_21 : decode cX2_hasRoom 21 = .ok (.iaload, 1) := by decide +kernel
theorem dX2_hasRoom_22 : decode cX2_hasRoom 22 = .ok (.iload_n 1, 1) := by decide +kernel
theorem dX2_hasRoom_23 : decode cX2_hasRoom 23 = .ok (.if_icmp .ne 12, 3) := by decide +kernel
theorem dX2_hasRoom_26 : decode cX2_hasRoom 26 = .ok (.aload_n 0, 1) := by decide +kernel
theorem dX2_hasRoom_27 : decode cX2_hasRoom 27 = .ok (.iload 4, 2) := by decide +kernel
theorem dX2_hasRoom_29 : decode cX2_hasRoom 29 = .ok (.invokevirtual 98, 3) := by decide +kernel
theorem dX2_hasRoom_32 : decode cX2_hasRoom 32 = .ok (.goto 4, 3) := by decide +kernel
theorem dX2_hasRoom_35 : decode cX2_hasRoom 35 = .ok (.iconst 0, 1) := by decide +kernel
theorem dX2_hasRoom_36 : decode cX2_hasRoom 36 = .ok (.iadd, 1) := by decide +kernel
theorem dX2_hasRoom_37 : decode cX2_hasRoom 37 = .ok (.istore_n 3, 1) := by decide +kernel
theorem dX2_hasRoom_38 : decode cX2_hasRoom 38 = .ok (.iinc 4 1, 3) := by decide +kernel
theorem dX2_hasRoom_41 : decode cX2_hasRoom 41 = .ok (.goto (-36), 3) := by decide +kernel
theorem dX2_hasRoom_44 : decode cX2_hasRoom 44 = .ok (.iload_n 1, 1) := by decide +kernel
theorem dX2_hasRoom_45 : decode cX2_hasRoom 45 = .ok (.iconst 4, 1) := by decide +kernel
theorem dX2_hasRoom_46 : decode cX2_hasRoom 46 = .ok (.if_icmp .lt 10, 3) := by decide +kernel
theorem dX2_hasRoom_49 : decode cX2_hasRoom 49 = .ok (.iload_n 3, 1) := by decide +kernel
theorem dX2_hasRoom_50 : decode cX2_hasRoom 50 = .ok (.sipush 200, 3) := by decide +kernel
theorem dX2_hasRoom_53 : decode cX2_hasRoom 53 = .ok (.if_icmp .gt 7, 3) := by decide +kernel
theorem dX2_hasRoom_56 : decode cX2_hasRoom 56 = .ok (.iconst 1, 1) := by decide +kernel
theorem dX2_hasRoom_57 : decode cX2_hasRoom 57 = .ok (.goto 4, 3) := by decide +kernel
theorem dX2_hasRoom_60 : decode cX2_hasRoom 60 = .ok (.iconst 0, 1) := by decide +kernel
theorem dX2_hasRoom_61 : decode cX2_hasRoom 61 = .ok (.ireturn, 1) := by decide +kernel
theorem dX2_makes_0 : decode cX2_makes 0 = .ok (.aload_n 0, 1) := by decide +kernel
theorem dX2_makes_1 : decode cX2_makes 1 = .ok (.getfield 72, 3) := by decide +kernel
theorem dX2_makes_4 : decode cX2_makes 4 = .ok (.istore_n 2, 1) := by decide +kernel
theorem dX2_makes_5 : decode cX2_makes 5 = .ok (.aload_n 0, 1) := by decide +kernel
theorem dX2_makes_6 : decode cX2_makes 6 = .ok (.getfield 7, 3) := by decide +kernel
theorem dX2_makes_9 : decode cX2_makes 9 = .ok (.iload_n 2, 1) := by decide +kernel
theorem dX2_makes_10 : decode cX2_makes 10 = .ok (.iload_n 1, 1) := by decide +kernel
theorem dX2_makes_11 : decode cX2_makes 11 = .ok (.iastore, 1) := by decide +kernel
theorem dX2_makes_12 : decode cX2_makes 12 = .ok (.aload_n 0, 1) := by decide +kernel
theorem dX2_makes_13 : decode cX2_makes 13 = .ok (.dup, 1) := by decide +kernel
theorem dX2_makes_14 : decode cX2_makes 14 = .ok (.getfield 72, 3) := by decide +kernel
theorem dX2_makes_17 : decode cX2_makes 17 = .ok (.iconst 1, 1) := by decide +kernel
theorem dX2_makes_18 : decode cX2_makes 18 = .ok (.iadd, 1) := by decide +kernel
theorem dX2_makes_19 : decode cX2_makes 19 = .ok (.putfield 72, 3) := by decide +kernel
theorem dX2_makes_22 : decode cX2_makes 22 = .ok (.iload_n 2, 1) := by decide +kernel
theorem dX2_makes_23 : decode cX2_makes 23 = .ok (.ireturn, 1) := by decide +kernel
set_option maxRecDepth 20000 in
theorem ggX2_make_X2_isIn : GoodIn wsX2_make wsX2_isIn := goodIn_r _ [5] (by decide +kernel) (by decide +kernel)
set_option maxRecDepth 20000 in
theorem gX2_make_X2_isIn : GoodIn wsX2_make (va_wsS RX2 75 yX2_isIn wsX2_isIn) := goodIn_app (goodIn_of _ (by decide +kernel)) ggX2_make_X2_isIn
set_option maxRecDepth 20000 in
theorem ggX2_make_X2_holds : GoodIn wsX2_make wsX2_holds := goodIn_r _ [9, 10, 36, 37, 38, 39, 40, 41, 42, 43, 44, 45, 46, 47, 48, 49, 50, 51, 52, 53, 54, 55, 56, 57] (by decide +kernel) (by decide +kernel)
set_option maxRecDepth 20000 in
theorem gX2_make_X2_holds : GoodIn wsX2_make (wsV RX2 101 RX2 yX2_holds wsX2_holds) := goodIn_app (goodIn_of _ (by decide +kernel)) ggX2_make_X2_holds
set_option maxRecDepth 20000 in
theorem ggX2_make_X2_makes : GoodIn wsX2_make wsX2_makes := goodIn_r _ [14, 1, 15, 36, 37, 38, 39, 40, 41, 42, 43, 44, 45, 46, 47, 48, 49, 50, 51, 52, 53, 54, 55, 56, 57] (by decide +kernel) (by decide +kernel)
set_option maxRecDepth 20000 in
theorem gX2_make_X2_makes : GoodIn wsX2_make (wsV RX2 104 RX2 yX2_makes wsX2_makes) := goodIn_app (goodIn_of _ (by decide +kernel)) ggX2_make_X2_makes
set_option maxRecDepth 20000 in
theorem ggX2_make_X2_writes : GoodIn wsX2_make wsX2_writes := goodIn_r _ [19, 20, 15, 21, 22, 23, 24, 25, 26, 27, 28, 29, 30, 31, 32, 33, 34, 4, 35, 36, 37, 38, 39, 40, 41, 42, 43, 44, 45, 46, 47, 48, 49, 50, 51, 52, 53, 54, 55, 56, 57] (by decide +kernel) (by decide +kernel)
set_option maxRecDepth 20000 in
theorem gX2_make_X2_writes : GoodIn wsX2_make (wsV RX2 107 RX2 yX2_writes wsX2_writes) := goodIn_app (goodIn_of _ (by decide +kernel)) ggX2_make_X2_writes
theorem dX2_make_0 : decode cX2_make 0 = .ok (.iload_n 1, 1) := by decide +kernel
theorem dX2_make_1 : decode cX2_make 1 = .ok (.iconst 0, 1) := by decide +kernel
theorem dX2_make_2 : decode cX2_make 2 = .ok (.iconst 3, 1) := by decide +kernel
theorem dX2_make_3 : decode cX2_make 3 = .ok (.invokestatic 75, 3) := by decide +kernel
theorem dX2_make_6 : decode cX2_make 6 = .ok (.istore_n 2, 1) := by decide +kernel
theorem dX2_make_7 : decode cX2_make 7 = .ok (.aload_n 0, 1) := by decide +kernel
theorem dX2_make_8 : decode cX2_make 8 = .ok (.iload_n 2, 1) := by decide +kernel
theorem dX2_make_9 : decode cX2_make 9 = .ok (.ifCond .ne 7, 3) := by decide +kernel
theorem dX2_make_12 : decode cX2_make 12 = .ok (.iconst 1, 1) := by decide +kernel
theorem dX2_make_13 : decode cX2_make 13 = .ok (.goto 17, 3) := by decide +kernel
theorem dX2_make_16 : decode cX2_make 16 = .ok (.aload_n 0, 1) := by decide +kernel
theorem dX2_make_17 : decode cX2_make 17 = .ok (.getfield 72, 3) := by decide +kernel
theorem dX2_make_20 : decode cX2_make 20 = .ok (.bipush 14, 2) := by decide +kernel
theorem dX2_make_22 : decode cX2_make 22 = .ok (.if_icmp .ne 7, 3) := by decide +kernel
theorem dX2_make_25 : decode cX2_make 25 = .ok (.iconst 2, 1) := by decide +kernel
theorem dX2_make_26 : decode cX2_make 26 = .ok (.goto 4, 3) := by decide +kernel
theorem dX2_make_29 : decode cX2_make 29 = .ok (.iconst 0, 1) := by decide +kernel
theorem dX2_make_30 : decode cX2_make 30 = .ok (.invokevirtual 101, 3) := by decide +kernel
theorem dX2_make_33 : decode cX2_make 33 = .ok (.ifCond .ne 5, 3) := by decide +kernel
theorem dX2_make_36 : decode cX2_make 36 = .ok (.iconst 0, 1) := by decide +kernel
theorem dX2_make_37 : decode cX2_make 37 = .ok (.ireturn, 1) := by decide +kernel
theorem dX2_make_38 : decode cX2_make 38 = .ok (.aload_n 0, 1) := by decide +kernel
theorem dX2_make_39 : decode cX2_make 39 = .ok (.iload_n 1, 1) := by decide +kernel
theorem dX2_make_40 : decode cX2_make 40 = .ok (.invokevirtual 104, 3) := by decide +kernel
theorem dX2_make_43 : decode cX2_make 43 = .ok (.istore_n 3, 1) := by decide +kernel
theorem dX2_make_44 : decode cX2_make 44 = .ok (.aload_n 0, 1) := by decide +kernel
theorem dX2_make_45 : decode cX2_make 45 = .ok (.iload_n 3, 1) := by decide +kernel
theorem dX2_make_46 : decode cX2_make 46 = .ok (.iconst 0, 1) := by decide +kernel
theorem dX2_make_47 : decode cX2_make 47 = .ok (.iconst 0, 1) := by decide +kernel
theorem dX2_make_48 : decode cX2_make 48 = .ok (.iconst 0, 1) := by decide +kernel
theorem dX2_make_49 : decode cX2_make 49 = .ok (.iconst 0, 1) := by decide +kernel
theorem dX2_make_50 : decode cX2_make 50 = .ok (.iconst 0, 1) := by decide +kernel
theorem dX2_make_51 : decode cX2_make 51 = .ok (.invokevirtual 107, 3) := by decide +kernel
theorem dX2_make_54 : decode cX2_make 54 = .ok (.iload_n 3, 1) := by decide +kernel
theorem dX2_make_55 : decode cX2_make 55 = .ok (.ireturn, 1) := by decide +kernel
set_option maxRecDepth 20000 in
theorem ggX2_canLoad_X2_canWork : GoodIn wsX2_canLoad wsX2_canWork := goodIn_r _ [7, 8, 9, 10, 11, 12, 13, 6, 14, 15, 16, 17, 18, 19, 20, 21, 22, 23, 24, 25, 26, 27, 28, 29, 30, 31, 32, 33, 46, 47, 48, 49, 50, 51, 52, 53, 54, 55, 56, 57, 58, 59, 60, 61, 62, 63, 64, 65, 66, 67] (by decide +kernel) (by decide +kernel)
set_option maxRecDepth 20000 in
theorem gX2_canLoad_X2_canWork : GoodIn wsX2_canLoad (wsV RX2 111 RX2 yX2_canWork wsX2_canWork) := goodIn_app (goodIn_of _ (by decide +kernel)) ggX2_canLoad_X2_canWork
set_option maxRecDepth 20000 in
theorem ggX2_canLoad_X2_isIn : GoodIn wsX2_canLoad wsX2_isIn := goodIn_r _ [36] (by decide +kernel) (by decide +kernel)
set_option maxRecDepth 20000 in
theorem gX2_canLoad_X2_isIn : GoodIn wsX2_canLoad (va_wsS RX2 75 yX2_isIn wsX2_isIn) := goodIn_app (goodIn_of _ (by decide +kernel)) ggX2_canLoad_X2_isIn
set_option maxRecDepth 20000 in
theorem ggX2_canLoad_X2_hasRoom : GoodIn wsX2_canLoad wsX2_hasRoom := goodIn_r _ [40, 41, 2, 42, 43, 44, 6, 45, 1, 46, 47, 48, 49, 50, 51, 52, 53, 54, 55, 56, 57, 58, 59, 60, 61, 62, 63, 64, 65, 66, 67] (by decide +kernel) (by decide +kernel)
set_option maxRecDepth 20000 in
theorem gX2_canLoad_X2_hasRoom : GoodIn wsX2_canLoad (wsV RX2 114 RX2 yX2_hasRoom wsX2_hasRoom) := goodIn_app (goodIn_of _ (by decide +kernel)) ggX2_canLoad_X2_hasRoom
theorem dX2_canLoad_0 : decode cX2_canLoad 0 = .ok (.aload_n 0, 1) := by decide +kernel
theorem dX2_canLoad_1 : decode cX2_canLoad 1 = .ok (.getfield 13, 3) := by decide +kernel
theorem dX2_canLoad_4 : decode cX2_canLoad 4 = .ok (.bipush 6, 2) := by decide +kernel
theorem dX2_canLoad_6 : decode cX2_canLoad 6 = .ok (.iload_n 1, 1) := by decide +kernel
theorem dX2_canLoad_7 : decode cX2_canLoad 7 = .ok (.imul, 1) := by decide +kernel
theorem dX2_canLoad_8 : decode cX2_canLoad 8 = .ok (.iload_n 2, 1) := by decide +kernel
theorem dX2_canLoad_9 : decode cX2_canLoad 9 = .ok (.iadd, 1) := by decide +kernel
theorem dX2_canLoad_10 : decode cX2_canLoad 10 = .ok (.iaload, 1) := by decide +kernel
theorem dX2_canLoad_11 : decode cX2_canLoad 11 = .ok (.iload_n 3, 1) := by decide +kernel
theorem dX2_canLoad_12 : decode cX2_canLoad 12 = .ok (.iadd, 1) := by decide +kernel
theorem dX2_canLoad_13 : decode cX2_canLoad 13 = .ok (.istore 4, 2) := by decide +kernel
theorem dX2_canLoad_15 : decode cX2_canLoad 15 = .ok (.aload_n 0, 1) := by decide +kernel
theorem dX2_canLoad_16 : decode cX2_canLoad 16 = .ok (.iload_n 1, 1) := by decide +kernel
theorem dX2_canLoad_17 : decode cX2_canLoad 17 = .ok (.invokevirtual 111, 3) := by decide +kernel
theorem dX2_canLoad_20 : decode cX2_canLoad 20 = .ok (.ifCond .eq 41, 3) := by decide +kernel
theorem dX2_canLoad_23 : decode cX2_canLoad 23 = .ok (.iload 4, 2) := by decide +kernel
theorem dX2_canLoad_25 : decode cX2_canLoad 25 = .ok (.iconst 0, 1) := by decide +kernel
theorem dX2_canLoad_26 : decode cX2_canLoad 26 = .ok (.sipush 999, 3) := by decide +kernel
theorem dX2_canLoad_29 : decode cX2_canLoad 29 = .ok (.invokestatic 75, 3) := by decide +kernel
theorem dX2_canLoad_32 : decode cX2_canLoad 32 = .ok (.ifCond .eq 29, 3) := by decide +kernel
theorem dX2_canLoad_35 : decode cX2_canLoad 35 = .ok (.iload_n 3, 1) := by decide +kernel
theorem dX2_canLoad_36 : decode cX2_canLoad 36 = .ok (.ifCond .lt 21, 3) := by decide +kernel
theorem dX2_canLoad_39 : decode cX2_canLoad 39 = .ok (.aload_n 0, 1) := by decide +kernel
theorem dX2_canLoad_40 : decode cX2_canLoad 40 = .ok (.aload_n 0, 1) := by decide +kernel
theorem dX2_canLoad_41 : decode cX2_canLoad 41 = .ok (.getfield 7, 3) := by decide +kernel
theorem dX2_canLoad_44 : decode cX2_canLoad 44 = .ok (.iload_n 1, 1) := by decide +kernel
theorem dX2_canLoad_45 : decode cX2_canLoad 45 = .ok (.iaload, 1) := by decide +kernel
theorem dX2_canLoad_46 : decode cX2_canLoad 46 = .ok (.iload_n 3, 1) := by decide +kernel
theorem dX2_canLoad_47 : decode cX2_canLoad 47 = .ok (.iload_n 2, 1) := by decide +kernel
theorem dX2_canLoad_48 : decode cX2_canLoad 48 = .ok (.iconst 1, 1) := by decide +kernel
theorem dX2_canLoad_49 : decode cX2_canLoad 49 = .ok (.iadd, 1) := by decide +kernel
theorem dX2_canLoad_50 : decode cX2_canLoad 50 = .ok (.imul, 1) := by decide +kernel
theorem dX2_canLoad_51 : decode cX2_canLoad 51 = .ok (.invokevirtual 114, 3) := by decide +kernel
theorem dX2_canLoad_54 : decode cX2_canLoad 54 = .ok (.ifCond .eq 7, 3) := by decide +kernel
theorem dX2_canLoad_57 : decode cX2_canLoad 57 = .ok (.iconst 1, 1) := by decide +kernel
theorem dX2_canLoad_58 : decode cX2_canLoad 58 = .ok (.goto 4, 3) := by decide +kernel
theorem dX2_canLoad_61 : decode cX2_canLoad 61 = .ok (.iconst 0, 1) := by decide +kernel
theorem dX2_canLoad_62 : decode cX2_canLoad 62 = .ok (.ireturn, 1) := by decide +kernel
set_option maxRecDepth 20000 in
theorem ggX2_load_X2_isPallet : GoodIn wsX2_load wsX2_isPallet := goodIn_r _ [6, 7, 8, 9, 5, 10, 70, 71, 72, 73, 74, 75, 76, 77, 78, 79, 80, 81, 82, 83, 84, 85, 86, 87, 88, 89, 90, 91] (by decide +kernel) (by decide +kernel)
set_option maxRecDepth 20000 in
theorem gX2_load_X2_isPallet : GoodIn wsX2_load (wsV RX2 79 RX2 yX2_isPallet wsX2_isPallet) := goodIn_app (goodIn_of _ (by decide +kernel)) ggX2_load_X2_isPallet
set_option maxRecDepth 20000 in
theorem ggX2_load_X2_isGood : GoodIn wsX2_load wsX2_isGood := goodIn_r _ [13, 8, 9, 5, 10] (by decide +kernel) (by decide +kernel)
set_option maxRecDepth 20000 in
theorem gX2_load_X2_isGood : GoodIn wsX2_load (va_wsS RX2 117 yX2_isGood wsX2_isGood) := goodIn_app (goodIn_of _ (by decide +kernel)) ggX2_load_X2_isGood
set_option maxRecDepth 20000 in
theorem ggX2_load_X2_isIn : GoodIn wsX2_load wsX2_isIn := goodIn_r _ [10] (by decide +kernel) (by decide +kernel)
set_option maxRecDepth 20000 in
theorem gX2_load_X2_isIn : GoodIn wsX2_load (va_wsS RX2 75 yX2_isIn wsX2_isIn) := goodIn_app (goodIn_of _ (by decide +kernel)) ggX2_load_X2_isIn
set_option maxRecDepth 20000 in
theorem ggX2_load_X2_canLoad : GoodIn wsX2_load wsX2_canLoad := goodIn_r _ [17, 1, 18, 19, 20, 21, 5, 22, 23, 24, 25, 26, 27, 28, 29, 30, 31, 32, 33, 34, 35, 36, 37, 38, 39, 40, 41, 42, 43, 44, 45, 46, 47, 48, 8, 9, 10, 49, 50, 51, 52, 7, 53, 54, 55, 56, 70, 71, 72, 73, 74, 75, 76, 77, 78, 79, 80, 81, 82, 83, 84, 85, 86, 87, 88, 89, 90, 91] (by decide +kernel) (by decide +kernel)
set_option maxRecDepth 20000 in
theorem gX2_load_X2_canLoad : GoodIn wsX2_load (wsV RX2 120 RX2 yX2_canLoad wsX2_canLoad) := goodIn_app (goodIn_of _ (by decide +kernel)) ggX2_load_X2_canLoad
set_option maxRecDepth 20000 in
theorem ggX2_load_X2_holds : GoodIn wsX2_load wsX2_holds := goodIn_r _ [60, 61, 70, 71, 72, 73, 74, 75, 76, 77, 78, 79, 80, 81, 82, 83, 84, 85, 86, 87, 88, 89, 90, 91] (by decide +kernel) (by decide +kernel)
set_option maxRecDepth 20000 in
theorem gX2_load_X2_holds : GoodIn wsX2_load (wsV RX2 101 RX2 yX2_holds wsX2_holds) := goodIn_app (goodIn_of _ (by decide +kernel)) ggX2_load_X2_holds
set_option maxRecDepth 20000 in
theorem ggX2_load_X2_writes : GoodIn wsX2_load wsX2_writes := goodIn_r _ [65, 25, 18, 30, 45, 46, 47, 31, 48, 66, 40, 67, 68, 69, 41, 42, 43, 5, 44, 70, 71, 72, 73, 74, 75, 76, 77, 78, 79, 80, 81, 82, 83, 84, 85, 86, 87, 88, 89, 90, 91] (by decide +kernel) (by decide +kernel)
set_option maxRecDepth 20000 in
theorem gX2_load_X2_writes : GoodIn wsX2_load (wsV RX2 107 RX2 yX2_writes wsX2_writes) := goodIn_app (goodIn_of _ (by decide +kernel)) ggX2_load_X2_writes
theorem dX2_load_0 : decode cX2_load 0 = .ok (.aload_n 0, 1) := by decide +kernel
theorem dX2_load_1 : decode cX2_load 1 = .ok (.iload_n 1, 1) := by decide +kernel
theorem dX2_load_2 : decode cX2_load 2 = .ok (.invokevirtual 79, 3) := by decide +kernel
theorem dX2_load_5 : decode cX2_load 5 = .ok (.ifCond .eq 14, 3) := by decide +kernel
theorem dX2_load_8 : decode cX2_load 8 = .ok (.iload_n 2, 1) := by decide +kernel
theorem dX2_load_9 : decode cX2_load 9 = .ok (.invokestatic 117, 3) := by decide +kernel
theorem dX2_load_12 : decode cX2_load 12 = .ok (.ifCond .eq 7, 3) := by decide +kernel
theorem dX2_load_15 : decode cX2_load 15 = .ok (.iconst 1, 1) := by decide +kernel
theorem dX2_load_16 : decode cX2_load 16 = .ok (.goto 4, 3) := by decide +kernel
theorem dX2_load_19 : decode cX2_load 19 = .ok (.iconst 0, 1) := by decide +kernel
theorem dX2_load_20 : decode cX2_load 20 = .ok (.istore 4, 2) := by decide +kernel
theorem dX2_load_22 : decode cX2_load 22 = .ok (.aload_n 0, 1) := by decide +kernel
theorem dX2_load_23 : decode cX2_load 23 = .ok (.iload 4, 2) := by decide +kernel
theorem dX2_load_25 : decode cX2_load 25 = .ok (.ifCond .ne 7, 3) := by decide +kernel
theorem dX2_load_28 : decode cX2_load 28 = .ok (.iconst 1, 1) := by decide +kernel
theorem dX2_load_29 : decode cX2_load 29 = .ok (.goto 37, 3) := by decide +kernel
theorem dX2_load_32 : decode cX2_load 32 = .ok (.iload_n 3, 1) := by decide +kernel
theorem dX2_load_33 : decode cX2_load 33 = .ok (.bipush (-99), 2) := by decide +kernel
theorem dX2_load_35 : decode cX2_load 35 = .ok (.bipush 99, 2) := by decide +kernel
theorem dX2_load_37 : decode cX2_load 37 = .ok (.invokestatic 75, 3) := by decide +kernel
theorem dX2_load_40 : decode cX2_load 40 = .ok (.ifCond .eq 7, 3) := by decide +kernel
theorem dX2_load_43 : decode cX2_load 43 = .ok (.iload_n 3, 1) := by decide +kernel
theorem dX2_load_44 : decode cX2_load 44 = .ok (.ifCond .ne 7, 3) := by decide +kernel
theorem dX2_load_47 : decode cX2_load 47 = .ok (.iconst 2, 1) := by decide +kernel
theorem dX2_load_48 : decode cX2_load 48 = .ok (.goto 18, 3) := by decide +kernel
theorem dX2_load_51 : decode cX2_load 51 = .ok (.aload_n 0, 1) := by decide +kernel
theorem dX2_load_52 : decode cX2_load 52 = .ok (.iload_n 1, 1) := by decide +kernel
theorem dX2_load_53 : decode cX2_load 53 = .ok (.iload_n 2, 1) := by decide +kernel
theorem dX2_load_54 : decode cX2_load 54 = .ok (.iload_n 3, 1) := by decide +kernel
theorem dX2_load_55 : decode cX2_load 55 = .ok (.invokevirtual 120, 3) := by decide +kernel
theorem dX2_load_58 : decode cX2_load 58 = .ok (.ifCond .ne 7, 3) := by decide +kernel
theorem dX2_load_61 : decode cX2_load 61 = .ok (.iconst 3, 1) := by decide +kernel
theorem dX2_load_62 : decode cX2_load 62 = .ok (.goto 4, 3) := by decide +kernel
theorem dX2_load_65 : decode cX2_load 65 = .ok (.iconst 0, 1) := by decide +kernel
theorem dX2_load_66 : decode cX2_load 66 = .ok (.invokevirtual 101, 3) := by decide +kernel
theorem dX2_load_69 : decode cX2_load 69 = .ok (.ifCond .ne 5, 3) := by decide +kernel
theorem dX2_load_72 : decode cX2_load 72 = .ok (.iconst 0, 1) := by decide +kernel
theorem dX2_load_73 : decode cX2_load 73 = .ok (.ireturn, 1) := by decide +kernel
theorem dX2_load_74 : decode cX2_load 74 = .ok (.aload_n 0, 1) := by decide +kernel
theorem dX2_load_75 : decode cX2_load 75 = .ok (.getfield 13, 3) := by decide +kernel
theorem dX2_load_78 : decode cX2_load 78 = .ok (.bipush 6, 2) := by decide +kernel
theorem dX2_load_80 : decode cX2_load 80 = .ok (.iload_n 1, 1) := by decide +kernel
theorem dX2_load_81 : decode cX2_load 81 = .ok (.imul, 1) := by decide +kernel
theorem dX2_load_82 : decode cX2_load 82 = .ok (.iload_n 2, 1) := by decide +kernel
theorem dX2_load_83 : decode cX2_load 83 = .ok (.iadd, 1) := by decide +kernel
theorem dX2_load_84 : decode cX2_load 84 = .ok (.dup2, 1) := by decide +kernel
theorem dX2_load_85 : decode cX2_load 85 = .ok (.iaload, 1) := by decide +kernel
theorem dX2_load_86 : decode cX2_load 86 = .ok (.iload_n 3, 1) := by decide +kernel
theorem dX2_load_87 : decode cX2_load 87 = .ok (.iadd, 1) := by decide +kernel
theorem dX2_load_88 : decode cX2_load 88 = .ok (.iastore, 1) := by decide +kernel
theorem dX2_load_89 : decode cX2_load 89 = .ok (.aload_n 0, 1) := by decide +kernel
theorem dX2_load_90 : decode cX2_load 90 = .ok (.iload_n 1, 1) := by decide +kernel
theorem dX2_load_91 : decode cX2_load 91 = .ok (.iload_n 3, 1) := by decide +kernel
theorem dX2_load_92 : decode cX2_load 92 = .ok (.ifCond .le 7, 3) := by decide +kernel
theorem dX2_load_95 : decode cX2_load 95 = .ok (.iconst 1, 1) := by decide +kernel
theorem dX2_load_96 : decode cX2_load 96 = .ok (.goto 4, 3) := by decide +kernel
theorem dX2_load_99 : decode cX2_load 99 = .ok (.iconst 2, 1) := by decide +kernel
theorem dX2_load_100 : decode cX2_load 100 = .ok (.iload_n 2, 1) := by decide +kernel
theorem dX2_load_101 : decode cX2_load 101 = .ok (.iload_n 3, 1) := by decide +kernel
theorem dX2_load_102 : decode cX2_load 102 = .ok (.ifCond .le 7, 3) := by decide +kernel
theorem dX2_load_105 : decode cX2_load 105 = .ok (.iload_n 3, 1) := by decide +kernel
theorem dX2_load_106 : decode cX2_load 106 = .ok (.goto 5, 3) := by decide +kernel
theorem dX2_load_109 : decode cX2_load 109 = .ok (.iload_n 3, 1) := by decide +kernel
theorem dX2_load_110 : decode cX2_load 110 = .ok (.ineg, 1) := by decide +kernel
theorem dX2_load_111 : decode cX2_load 111 = .ok (.iconst 0, 1) := by decide +kernel
theorem dX2_load_112 : decode cX2_load 112 = .ok (.iconst 0, 1) := by decide +kernel
theorem dX2_load_113 : decode cX2_load 113 = .ok (.invokevirtual 107, 3) := by decide +kernel
theorem dX2_load_116 : decode cX2_load 116 = .ok (.aload_n 0, 1) := by decide +kernel
theorem dX2_load_117 : decode cX2_load 117 = .ok (.getfield 13, 3) := by decide +kernel
theorem dX2_load_120 : decode cX2_load 120 = .ok (.bipush 6, 2) := by decide +kernel
theorem dX2_load_122 : decode cX2_load 122 = .ok (.iload_n 1, 1) := by decide +kernel
theorem dX2_load_123 : decode cX2_load 123 = .ok (.imul, 1) := by decide +kernel
theorem dX2_load_124 : decode cX2_load 124 = .ok (.iload_n 2, 1) := by decide +kernel
theorem dX2_load_125 : decode cX2_load 125 = .ok (.iadd, 1) := by decide +kernel
theorem dX2_load_126 : decode cX2_load 126 = .ok (.iaload, 1) := by decide +kernel
theorem dX2_load_127 : decode cX2_load 127 = .ok (.ireturn, 1) := by decide +kernel
set_option maxRecDepth 20000 in
theorem ggX2_part_X2_isPallet : GoodIn wsX2_part wsX2_isPallet := goodIn_r _ [9, 2, 10, 11, 8, 12, 62, 63, 64, 65, 66, 67, 68, 69, 70, 71, 72, 73, 74, 75, 76, 77, 78, 79, 80, 81, 82, 83] (by decide +kernel) (by decide +kernel)
set_option maxRecDepth 20000 in
theorem gX2_part_X2_isPallet : GoodIn wsX2_part (wsV RX2 79 RX2 yX2_isPallet wsX2_isPallet) := goodIn_app (goodIn_of _ (by decide +kernel)) ggX2_part_X2_isPallet
set_option maxRecDepth 20000 in
theorem ggX2_part_X2_isGood : GoodIn wsX2_part wsX2_isGood := goodIn_r _ [15, 10, 11, 8, 12] (by decide +kernel) (by decide +kernel)
set_option maxRecDepth 20000 in
theorem gX2_part_X2_isGood : GoodIn wsX2_part (va_wsS RX2 117 yX2_isGood wsX2_isGood) := goodIn_app (goodIn_of _ (by decide +kernel)) ggX2_part_X2_isGood
set_option maxRecDepth 20000 in
theorem ggX2_part_X2_canWork : GoodIn wsX2_part wsX2_canWork := goodIn_r _ [19, 20, 21, 4, 22, 23, 24, 8, 25, 26, 27, 28, 29, 30, 31, 32, 33, 34, 35, 36, 37, 38, 39, 40, 41, 42, 43, 44, 62, 63, 64, 65, 66, 67, 68, 69, 70, 71, 72, 73, 74, 75, 76, 77, 78, 79, 80, 81, 82, 83] (by decide +kernel) (by decide +kernel)
set_option maxRecDepth 20000 in
theorem gX2_part_X2_canWork : GoodIn wsX2_part (wsV RX2 111 RX2 yX2_canWork wsX2_canWork) := goodIn_app (goodIn_of _ (by decide +kernel)) ggX2_part_X2_canWork
set_option maxRecDepth 20000 in
theorem ggX2_part_X2_isIn : GoodIn wsX2_part wsX2_isIn := goodIn_r _ [12] (by decide +kernel) (by decide +kernel)
set_option maxRecDepth 20000 in
theorem gX2_part_X2_isIn : GoodIn wsX2_part (va_wsS RX2 75 yX2_isIn wsX2_isIn) := goodIn_app (goodIn_of _ (by decide +kernel)) ggX2_part_X2_isIn
set_option maxRecDepth 20000 in
theorem ggX2_part_X2_holds : GoodIn wsX2_part wsX2_holds := goodIn_r _ [48, 49, 62, 63, 64, 65, 66, 67, 68, 69, 70, 71, 72, 73, 74, 75, 76, 77, 78, 79, 80, 81, 82, 83] (by decide +kernel) (by decide +kernel)
set_option maxRecDepth 20000 in
theorem gX2_part_X2_holds : GoodIn wsX2_part (wsV RX2 101 RX2 yX2_holds wsX2_holds) := goodIn_app (goodIn_of _ (by decide +kernel)) ggX2_part_X2_holds
set_option maxRecDepth 20000 in
theorem ggX2_part_X2_makes : GoodIn wsX2_part wsX2_makes := goodIn_r _ [53, 2, 3, 62, 63, 64, 65, 66, 67, 68, 69, 70, 71, 72, 73, 74, 75, 76, 77, 78, 79, 80, 81, 82, 83] (by decide +kernel) (by decide +kernel)
set_option maxRecDepth 20000 in
theorem gX2_part_X2_makes : GoodIn wsX2_part (wsV RX2 104 RX2 yX2_makes wsX2_makes) := goodIn_app (goodIn_of _ (by decide +kernel)) ggX2_part_X2_makes
set_option maxRecDepth 20000 in
theorem ggX2_part_X2_writes : GoodIn wsX2_part wsX2_writes := goodIn_r _ [57, 4, 3, 26, 41, 42, 43, 27, 44, 58, 36, 59, 60, 61, 37, 38, 39, 8, 40, 62, 63, 64, 65, 66, 67, 68, 69, 70, 71, 72, 73, 74, 75, 76, 77, 78, 79, 80, 81, 82, 83] (by decide +kernel) (by decide +kernel)
set_option maxRecDepth 20000 in
theorem gX2_part_X2_writes : GoodIn wsX2_part (wsV RX2 107 RX2 yX2_writes wsX2_writes) := goodIn_app (goodIn_of _ (by decide +kernel)) ggX2_part_X2_writes
theorem dX2_part_0 : decode cX2_part 0 = .ok (.aload_n 0, 1) := by decide +kernel
theorem dX2_part_1 : decode cX2_part 1 = .ok (.iload_n 1, 1) := by decide +kernel
theorem dX2_part_2 : decode cX2_part 2 = .ok (.invokevirtual 79, 3) := by decide +kernel
theorem dX2_part_5 : decode cX2_part 5 = .ok (.ifCond .eq 14, 3) := by decide +kernel
theorem dX2_part_8 : decode cX2_part 8 = .ok (.iload_n 2, 1) := by decide +kernel
theorem dX2_part_9 : decode cX2_part 9 = .ok (.invokestatic 117, 3) := by decide +kernel
theorem dX2_part_12 : decode cX2_part 12 = .ok (.ifCond .eq 7, 3) := by decide +kernel
theorem dX2_part_15 : decode cX2_part 15 = .ok (.iconst 1, 1) := by decide +kernel
theorem dX2_part_16 : decode cX2_part 16 = .ok (.goto 4, 3) := by decide +kernel
theorem dX2_part_19 : decode cX2_part 19 = .ok (.iconst 0, 1) := by decide +kernel
theorem dX2_part_20 : decode cX2_part 20 = .ok (.istore 4, 2) := by decide +kernel
theorem dX2_part_22 : decode cX2_part 22 = .ok (.iload 4, 2) := by decide +kernel
theorem dX2_part_24 : decode cX2_part 24 = .ok (.ifCond .eq 39, 3) := by decide +kernel
theorem dX2_part_27 : decode cX2_part 27 = .ok (.aload_n 0, 1) := by decide +kernel
theorem dX2_part_28 : decode cX2_part 28 = .ok (.getfield 13, 3) := by decide +kernel
theorem dX2_part_31 : decode cX2_part 31 = .ok (.bipush 6, 2) := by decide +kernel
theorem dX2_part_33 : decode cX2_part 33 = .ok (.iload_n 1, 1) := by decide +kernel
theorem dX2_part_34 : decode cX2_part 34 = .ok (.imul, 1) := by decide +kernel
theorem dX2_part_35 : decode cX2_part 35 = .ok (.iload_n 2, 1) := by decide +kernel
theorem dX2_part_36 : decode cX2_part 36 = .ok (.iadd, 1) := by decide +kernel
theorem dX2_part_37 : decode cX2_part 37 = .ok (.iaload, 1) := by decide +kernel
theorem dX2_part_38 : decode cX2_part 38 = .ok (.iload_n 3, 1) := by decide +kernel
theorem dX2_part_39 : decode cX2_part 39 = .ok (.if_icmp .lt 24, 3) := by decide +kernel
theorem dX2_part_42 : decode cX2_part 42 = .ok (.aload_n 0, 1) := by decide +kernel
theorem dX2_part_43 : decode cX2_part 43 = .ok (.getfield 72, 3) := by decide +kernel
theorem dX2_part_46 : decode cX2_part 46 = .ok (.bipush 14, 2) := by decide +kernel
theorem dX2_part_48 : decode cX2_part 48 = .ok (.if_icmp .ge 15, 3) := by decide +kernel
theorem dX2_part_51 : decode cX2_part 51 = .ok (.aload_n 0, 1) := by decide +kernel
theorem dX2_part_52 : decode cX2_part 52 = .ok (.iload_n 1, 1) := by decide +kernel
theorem dX2_part_53 : decode cX2_part 53 = .ok (.invokevirtual 111, 3) := by decide +kernel
theorem dX2_part_56 : decode cX2_part 56 = .ok (.ifCond .eq 7, 3) := by decide +kernel
theorem dX2_part_59 : decode cX2_part 59 = .ok (.iconst 1, 1) := by decide +kernel
theorem dX2_part_60 : decode cX2_part 60 = .ok (.goto 4, 3) := by decide +kernel
theorem dX2_part_63 : decode cX2_part 63 = .ok (.iconst 0, 1) := by decide +kernel
theorem dX2_part_64 : decode cX2_part 64 = .ok (.istore 5, 2) := by decide +kernel
theorem dX2_part_66 : decode cX2_part 66 = .ok (.aload_n 0, 1) := by decide +kernel
theorem dX2_part_67 : decode cX2_part 67 = .ok (.iload 4, 2) := by decide +kernel
theorem dX2_part_69 : decode cX2_part 69 = .ok (.ifCond .ne 7, 3) := by decide +kernel
theorem dX2_part_72 : decode cX2_part 72 = .ok (.iconst 1, 1) := by decide +kernel
theorem dX2_part_73 : decode cX2_part 73 = .ok (.goto 27, 3) := by decide +kernel
theorem dX2_part_76 : decode cX2_part 76 = .ok (.iload_n 3, 1) := by decide +kernel
theorem dX2_part_77 : decode cX2_part 77 = .ok (.iconst 1, 1) := by decide +kernel
theorem dX2_part_78 : decode cX2_part 78 = .ok (.bipush 99, 2) := by decide +kernel
theorem dX2_part_80 : decode cX2_part 80 = .ok (.invokestatic 75, 3) := by decide +kernel
theorem dX2_part_83 : decode cX2_part 83 = .ok (.ifCond .ne 7, 3) := by decide +kernel
theorem dX2_part_86 : decode cX2_part 86 = .ok (.iconst 2, 1) := by decide +kernel
theorem dX2_part_87 : decode cX2_part 87 = .ok (.goto 13, 3) := by decide +kernel
theorem dX2_part_90 : decode cX2_part 90 = .ok (.iload 5, 2) := by decide +kernel
theorem dX2_part_92 : decode cX2_part 92 = .ok (.ifCond .ne 7, 3) := by decide +kernel
theorem dX2_part_95 : decode cX2_part 95 = .ok (.iconst 3, 1) := by decide +kernel
theorem dX2_part_96 : decode cX2_part 96 = .ok (.goto 4, 3) := by decide +kernel
theorem dX2_part_99 : decode cX2_part 99 = .ok (.iconst 0, 1) := by decide +kernel
theorem dX2_part_100 : decode cX2_part 100 = .ok (.invokevirtual 101, 3) := by decide +kernel
theorem dX2_part_103 : decode cX2_part 103 = .ok (.ifCond .ne 5, 3) := by decide +kernel
theorem dX2_part_106 : decode cX2_part 106 = .ok (.iconst 0, 1) := by decide +kernel
theorem dX2_part_107 : decode cX2_part 107 = .ok (.ireturn, 1) := by decide +kernel
theorem dX2_part_108 : decode cX2_part 108 = .ok (.aload_n 0, 1) := by decide +kernel
theorem dX2_part_109 : decode cX2_part 109 = .ok (.aload_n 0, 1) := by decide +kernel
theorem dX2_part_110 : decode cX2_part 110 = .ok (.getfield 7, 3) := by decide +kernel
theorem dX2_part_113 : decode cX2_part 113 = .ok (.iload_n 1, 1) := by decide +kernel
theorem dX2_part_114 : decode cX2_part 114 = .ok (.iaload, 1) := by decide +kernel
theorem dX2_part_115 : decode cX2_part 115 = .ok (.invokevirtual 104, 3) := by decide +kernel
theorem dX2_part_118 : decode cX2_part 118 = .ok (.istore 6, 2) := by decide +kernel
theorem dX2_part_120 : decode cX2_part 120 = .ok (.aload_n 0, 1) := by decide +kernel
theorem dX2_part_121 : decode cX2_part 121 = .ok (.getfield 13, 3) := by decide +kernel
theorem dX2_part_124 : decode cX2_part 124 = .ok (.bipush 6, 2) := by decide +kernel
theorem dX2_part_126 : decode cX2_part 126 = .ok (.iload_n 1, 1) := by decide +kernel
theorem dX2_part_127 : decode cX2_part 127 = .ok (.imul, 1) := by decide +kernel
theorem dX2_part_128 : decode cX2_part 128 = .ok (.iload_n 2, 1) := by decide +kernel
theorem dX2_part_129 : decode cX2_part 129 = .ok (.iadd, 1) := by decide +kernel
theorem dX2_part_130 : decode cX2_part 130 = .ok (.dup2, 1) := by decide +kernel
theorem dX2_part_131 : decode cX2_part 131 = .ok (.iaload, 1) := by decide +kernel
theorem dX2_part_132 : decode cX2_part 132 = .ok (.iload_n 3, 1) := by decide +kernel
theorem dX2_part_133 : decode cX2_part 133 = .ok (.isub, 1) := by decide +kernel
theorem dX2_part_134 : decode cX2_part 134 = .ok (.iastore, 1) := by decide +kernel
theorem dX2_part_135 : decode cX2_part 135 = .ok (.aload_n 0, 1) := by decide +kernel
theorem dX2_part_136 : decode cX2_part 136 = .ok (.getfield 13, 3) := by decide +kernel
theorem dX2_part_139 : decode cX2_part 139 = .ok (.bipush 6, 2) := by decide +kernel
theorem dX2_part_141 : decode cX2_part 141 = .ok (.iload 6, 2) := by decide +kernel
theorem dX2_part_143 : decode cX2_part 143 = .ok (.imul, 1) := by decide +kernel
theorem dX2_part_144 : decode cX2_part 144 = .ok (.iload_n 2, 1) := by decide +kernel
theorem dX2_part_145 : decode cX2_part 145 = .ok (.iadd, 1) := by decide +kernel
theorem dX2_part_146 : decode cX2_part 146 = .ok (.iload_n 3, 1) := by decide +kernel
theorem dX2_part_147 : decode cX2_part 147 = .ok (.iastore, 1) := by decide +kernel
theorem dX2_part_148 : decode cX2_part 148 = .ok (.aload_n 0, 1) := by decide +kernel
theorem dX2_part_149 : decode cX2_part 149 = .ok (.iload_n 1, 1) := by decide +kernel
theorem dX2_part_150 : decode cX2_part 150 = .ok (.iconst 3, 1) := by decide +kernel
theorem dX2_part_151 : decode cX2_part 151 = .ok (.iload_n 2, 1) := by decide +kernel
theorem dX2_part_152 : decode cX2_part 152 = .ok (.iload_n 3, 1) := by decide +kernel
theorem dX2_part_153 : decode cX2_part 153 = .ok (.iload 6, 2) := by decide +kernel
theorem dX2_part_155 : decode cX2_part 155 = .ok (.iconst 0, 1) := by decide +kernel
theorem dX2_part_156 : decode cX2_part 156 = .ok (.invokevirtual 107, 3) := by decide +kernel
theorem dX2_part_159 : decode cX2_part 159 = .ok (.aload_n 0, 1) := by decide +kernel
theorem dX2_part_160 : decode cX2_part 160 = .ok (.iload 6, 2) := by decide +kernel
theorem dX2_part_162 : decode cX2_part 162 = .ok (.iconst 4, 1) := by decide +kernel
theorem dX2_part_163 : decode cX2_part 163 = .ok (.iload_n 2, 1) := by decide +kernel
theorem dX2_part_164 : decode cX2_part 164 = .ok (.iload_n 3, 1) := by decide +kernel
theorem dX2_part_165 : decode cX2_part 165 = .ok (.iload_n 1, 1) := by decide +kernel
theorem dX2_part_166 : decode cX2_part 166 = .ok (.aload_n 0, 1) := by decide +kernel
theorem dX2_part_167 : decode cX2_part 167 = .ok (.getfield 16, 3) := by decide +kernel
theorem dX2_part_170 : decode cX2_part 170 = .ok (.iload_n 1, 1) := by decide +kernel
theorem dX2_part_171 : decode cX2_part 171 = .ok (.iaload, 1) := by decide +kernel
theorem dX2_part_172 : decode cX2_part 172 = .ok (.iconst 1, 1) := by decide +kernel
theorem dX2_part_173 : decode cX2_part 173 = .ok (.isub, 1) := by decide +kernel
theorem dX2_part_174 : decode cX2_part 174 = .ok (.invokevirtual 107, 3) := by decide +kernel
theorem dX2_part_177 : decode cX2_part 177 = .ok (.iload 6, 2) := by decide +kernel
theorem dX2_part_179 : decode cX2_part 179 = .ok (.ireturn, 1) := by decide +kernel
set_option maxRecDepth 20000 in
theorem ggX2_canJoin_X2_canWork : GoodIn wsX2_canJoin wsX2_canWork := goodIn_r _ [7, 8, 9, 10, 11, 12, 13, 6, 14, 15, 16, 17, 18, 19, 20, 21, 22, 23, 24, 25, 26, 27, 28, 29, 30, 31, 32, 33, 34, 35, 36, 37, 38, 39, 40, 41, 42, 43, 44, 45, 46, 47, 48, 49, 50, 51, 52, 53, 54, 55] (by decide +kernel) (by decide +kernel)
set_option maxRecDepth 20000 in
theorem gX2_canJoin_X2_canWork : GoodIn wsX2_canJoin (wsV RX2 111 RX2 yX2_canWork wsX2_canWork) := goodIn_app (goodIn_of _ (by decide +kernel)) ggX2_canJoin_X2_canWork
theorem dX2_canJoin_0 : decode cX2_canJoin 0 = .ok (.aload_n 0, 1) := by decide +kernel
theorem dX2_canJoin_1 : decode cX2_canJoin 1 = .ok (.getfield 7, 3) := by decide +kernel
theorem dX2_canJoin_4 : decode cX2_canJoin 4 = .ok (.iload_n 1, 1) := by decide +kernel
theorem dX2_canJoin_5 : decode cX2_canJoin 5 = .ok (.iaload, 1) := by decide +kernel
theorem dX2_canJoin_6 : decode cX2_canJoin 6 = .ok (.aload_n 0, 1) := by decide +kernel
theorem dX2_canJoin_7 : decode cX2_canJoin 7 = .ok (.getfield 7, 3) := by decide +kernel
theorem dX2_canJoin_10 : decode cX2_canJoin 10 = .ok (.iload_n 2, 1) := by decide +kernel
theorem dX2_canJoin_11 : decode cX2_canJoin 11 = .ok (.iaload, 1) := by decide +kernel
theorem dX2_canJoin_12 : decode cX2_canJoin 12 = .ok (.if_icmp .ne 23, 3) := by decide +kernel
theorem dX2_canJoin_15 : decode cX2_canJoin 15 = .ok (.aload_n 0, 1) := by decide +kernel
theorem dX2_canJoin_16 : decode cX2_canJoin 16 = .ok (.iload_n 1, 1) := by decide +kernel
theorem dX2_canJoin_17 : decode cX2_canJoin 17 = .ok (.invokevirtual 111, 3) := by decide +kernel
theorem dX2_canJoin_20 : decode cX2_canJoin 20 = .ok (.ifCond .eq 15, 3) := by decide +kernel
theorem dX2_canJoin_23 : decode cX2_canJoin 23 = .ok (.aload_n 0, 1) := by decide +kernel
theorem dX2_canJoin_24 : decode cX2_canJoin 24 = .ok (.iload_n 2, 1) := by decide +kernel
theorem dX2_canJoin_25 : decode cX2_canJoin 25 = .ok (.invokevirtual 111, 3) := by decide +kernel
theorem dX2_canJoin_28 : decode cX2_canJoin 28 = .ok (.ifCond .eq 7, 3) := by decide +kernel
theorem dX2_canJoin_31 : decode cX2_canJoin 31 = .ok (.iconst 1, 1) := by decide +kernel
theorem dX2_canJoin_32 : decode cX2_canJoin 32 = .ok (.goto 4, 3) := by decide +kernel
theorem dX2_canJoin_35 : decode cX2_canJoin 35 = .ok (.iconst 0, 1) := by decide +kernel
theorem dX2_canJoin_36 : decode cX2_canJoin 36 = .ok (.istore_n 3, 1) := by decide +kernel
theorem dX2_canJoin_37 : decode cX2_canJoin 37 = .ok (.iconst 0, 1) := by decide +kernel
theorem dX2_canJoin_38 : decode cX2_canJoin 38 = .ok (.istore 4, 2) := by decide +kernel
theorem dX2_canJoin_40 : decode cX2_canJoin 40 = .ok (.iload 4, 2) := by decide +kernel
theorem dX2_canJoin_42 : decode cX2_canJoin 42 = .ok (.bipush 6, 2) := by decide +kernel
theorem dX2_canJoin_44 : decode cX2_canJoin 44 = .ok (.if_icmp .ge 50, 3) := by decide +kernel
theorem dX2_canJoin_47 : decode cX2_canJoin 47 = .ok (.iload_n 3, 1) := by decide +kernel
theorem dX2_canJoin_48 : decode cX2_canJoin 48 = .ok (.ifCond .eq 38, 3) := by decide +kernel
theorem dX2_canJoin_51 : decode cX2_canJoin 51 = .ok (.aload_n 0, 1) := by decide +kernel
theorem dX2_canJoin_52 : decode cX2_canJoin 52 = .ok (.getfield 13, 3) := by decide +kernel
theorem dX2_canJoin_55 : decode cX2_canJoin 55 = .ok (.bipush 6, 2) := by decide +kernel
theorem dX2_canJoin_57 : decode cX2_canJoin 57 = .ok (.iload_n 1, 1) := by decide +kernel
theorem dX2_canJoin_58 : decode cX2_canJoin 58 = .ok (.imul, 1) := by decide +kernel
theorem dX2_canJoin_59 : decode cX2_canJoin 59 = .ok (.iload 4, 2) := by decide +kernel
theorem dX2_canJoin_61 : decode cX2_canJoin 61 = .ok (.iadd, 1) := by decide +kernel
theorem dX2_canJoin_62 : decode cX2_canJoin 62 = .ok (.iaload, 1) := by decide +kernel
theorem dX2_canJoin_63 : decode cX2_canJoin 63 = .ok (.aload_n 0, 1) := by decide +kernel
theorem dX2_canJoin_64 : decode cX2_canJoin 64 = .ok (.getfield 13, 3) := by decide +kernel
theorem dX2_canJoin_67 : decode cX2_canJoin 67 = .ok (.bipush 6, 2) := by decide +kernel
theorem dX2_canJoin_69 : decode cX2_canJoin 69 = .ok (.iload_n 2, 1) := by decide +kernel
theorem dX2_canJoin_70 : decode cX2_canJoin 70 = .ok (.imul, 1) := by decide +kernel
theorem dX2_canJoin_71 : decode cX2_canJoin 71 = .ok (.iload 4, 2) := by decide +kernel
theorem dX2_canJoin_73 : decode cX2_canJoin 73 = .ok (.iadd, 1) := by decide +kernel
theorem dX2_canJoin_74 : decode cX2_canJoin 74 = .ok (.iaload, 1) := by decide +kernel
theorem dX2_canJoin_75 : decode cX2_canJoin 75 = .ok (.iadd, 1) := by decide +kernel
theorem dX2_canJoin_76 : decode cX2_canJoin 76 = .ok (.sipush 999, 3) := by decide +kernel
theorem dX2_canJoin_79 : decode cX2_canJoin 79 = .ok (.if_icmp .gt 7, 3) := by decide +kernel
theorem dX2_canJoin_82 : decode cX2_canJoin 82 = .ok (.iconst 1, 1) := by decide +kernel
theorem dX2_canJoin_83 : decode cX2_canJoin 83 = .ok (.goto 4, 3) := by decide +kernel
theorem dX2_canJoin_86 : decode cX2_canJoin 86 = .ok (.iconst 0, 1) := by decide +kernel
theorem dX2_canJoin_87 : decode cX2_canJoin 87 = .ok (.istore_n 3, 1) := by decide +kernel
theorem dX2_canJoin_88 : decode cX2_canJoin 88 = .ok (.iinc 4 1, 3) := by decide +kernel
theorem dX2_canJoin_91 : decode cX2_canJoin 91 = .ok (.goto (-51), 3) := by decide +kernel
theorem dX2_canJoin_94 : decode cX2_canJoin 94 = .ok (.iload_n 3, 1) := by decide +kernel
theorem dX2_canJoin_95 : decode cX2_canJoin 95 = .ok (.ireturn, 1) := by decide +kernel
set_option maxRecDepth 20000 in
theorem ggX2_join_X2_isPallet : GoodIn wsX2_join wsX2_isPallet := goodIn_r _ [10, 11, 12, 13, 9, 14, 61, 62, 63, 64, 65, 66, 67, 68, 69, 70, 71, 72, 73, 74, 75, 76, 77, 78, 79, 80, 81, 82] (by decide +kernel) (by decide +kernel)
set_option maxRecDepth 20000 in
theorem gX2_join_X2_isPallet : GoodIn wsX2_join (wsV RX2 79 RX2 yX2_isPallet wsX2_isPallet) := goodIn_app (goodIn_of _ (by decide +kernel)) ggX2_join_X2_isPallet
set_option maxRecDepth 20000 in
theorem ggX2_join_X2_canJoin : GoodIn wsX2_join wsX2_canJoin := goodIn_r _ [18, 19, 1, 20, 21, 22, 9, 23, 24, 3, 2, 25, 26, 27, 28, 29, 30, 31, 32, 33, 34, 35, 36, 37, 38, 39, 40, 41, 42, 43, 44, 45, 46, 47, 61, 62, 63, 64, 65, 66, 67, 68, 69, 70, 71, 72, 73, 74, 75, 76, 77, 78, 79, 80, 81, 82] (by decide +kernel) (by decide +kernel)
set_option maxRecDepth 20000 in
theorem gX2_join_X2_canJoin : GoodIn wsX2_join (wsV RX2 123 RX2 yX2_canJoin wsX2_canJoin) := goodIn_app (goodIn_of _ (by decide +kernel)) ggX2_join_X2_canJoin
set_option maxRecDepth 20000 in
theorem ggX2_join_X2_holds : GoodIn wsX2_join wsX2_holds := goodIn_r _ [51, 52, 61, 62, 63, 64, 65, 66, 67, 68, 69, 70, 71, 72, 73, 74, 75, 76, 77, 78, 79, 80, 81, 82] (by decide +kernel) (by decide +kernel)
set_option maxRecDepth 20000 in
theorem gX2_join_X2_holds : GoodIn wsX2_join (wsV RX2 101 RX2 yX2_holds wsX2_holds) := goodIn_app (goodIn_of _ (by decide +kernel)) ggX2_join_X2_holds
set_option maxRecDepth 20000 in
theorem ggX2_join_X2_writes : GoodIn wsX2_join wsX2_writes := goodIn_r _ [56, 2, 19, 29, 44, 45, 46, 30, 47, 57, 39, 58, 59, 60, 40, 41, 42, 9, 43, 61, 62, 63, 64, 65, 66, 67, 68, 69, 70, 71, 72, 73, 74, 75, 76, 77, 78, 79, 80, 81, 82] (by decide +kernel) (by decide +kernel)
set_option maxRecDepth 20000 in
theorem gX2_join_X2_writes : GoodIn wsX2_join (wsV RX2 107 RX2 yX2_writes wsX2_writes) := goodIn_app (goodIn_of _ (by decide +kernel)) ggX2_join_X2_writes
theorem dX2_join_0 : decode cX2_join 0 = .ok (.aload_n 0, 1) := by decide +kernel
theorem dX2_join_1 : decode cX2_join 1 = .ok (.iload_n 1, 1) := by decide +kernel
theorem dX2_join_2 : decode cX2_join 2 = .ok (.invokevirtual 79, 3) := by decide +kernel
theorem dX2_join_5 : decode cX2_join 5 = .ok (.ifCond .eq 15, 3) := by decide +kernel
theorem dX2_join_8 : decode cX2_join 8 = .ok (.aload_n 0, 1) := by decide +kernel
theorem dX2_join_9 : decode cX2_join 9 = .ok (.iload_n 2, 1) := by decide +kernel
theorem dX2_join_10 : decode cX2_join 10 = .ok (.invokevirtual 79, 3) := by decide +kernel
theorem dX2_join_13 : decode cX2_join 13 = .ok (.ifCond .eq 7, 3) := by decide +kernel
theorem dX2_join_16 : decode cX2_join 16 = .ok (.iconst 1, 1) := by decide +kernel
theorem dX2_join_17 : decode cX2_join 17 = .ok (.goto 4, 3) := by decide +kernel
theorem dX2_join_20 : decode cX2_join 20 = .ok (.iconst 0, 1) := by decide +kernel
theorem dX2_join_21 : decode cX2_join 21 = .ok (.istore_n 3, 1) := by decide +kernel
theorem dX2_join_22 : decode cX2_join 22 = .ok (.aload_n 0, 1) := by decide +kernel
theorem dX2_join_23 : decode cX2_join 23 = .ok (.iload_n 3, 1) := by decide +kernel
theorem dX2_join_24 : decode cX2_join 24 = .ok (.ifCond .ne 7, 3) := by decide +kernel
theorem dX2_join_27 : decode cX2_join 27 = .ok (.iconst 1, 1) := by decide +kernel
theorem dX2_join_28 : decode cX2_join 28 = .ok (.goto 26, 3) := by decide +kernel
theorem dX2_join_31 : decode cX2_join 31 = .ok (.iload_n 1, 1) := by decide +kernel
theorem dX2_join_32 : decode cX2_join 32 = .ok (.iload_n 2, 1) := by decide +kernel
theorem dX2_join_33 : decode cX2_join 33 = .ok (.if_icmp .ne 7, 3) := by decide +kernel
theorem dX2_join_36 : decode cX2_join 36 = .ok (.iconst 2, 1) := by decide +kernel
theorem dX2_join_37 : decode cX2_join 37 = .ok (.goto 17, 3) := by decide +kernel
theorem dX2_join_40 : decode cX2_join 40 = .ok (.aload_n 0, 1) := by decide +kernel
theorem dX2_join_41 : decode cX2_join 41 = .ok (.iload_n 1, 1) := by decide +kernel
theorem dX2_join_42 : decode cX2_join 42 = .ok (.iload_n 2, 1) := by decide +kernel
theorem dX2_join_43 : decode cX2_join 43 = .ok (.invokevirtual 123, 3) := by decide +kernel
theorem dX2_join_46 : decode cX2_join 46 = .ok (.ifCond .ne 7, 3) := by decide +kernel
theorem dX2_join_49 : decode cX2_join 49 = .ok (.iconst 3, 1) := by decide +kernel
theorem dX2_join_50 : decode cX2_join 50 = .ok (.goto 4, 3) := by decide +kernel
theorem dX2_join_53 : decode cX2_join 53 = .ok (.iconst 0, 1) := by decide +kernel
theorem dX2_join_54 : decode cX2_join 54 = .ok (.invokevirtual 101, 3) := by decide +kernel
theorem dX2_join_57 : decode cX2_join 57 = .ok (.ifCond .ne 5, 3) := by decide +kernel
theorem dX2_join_60 : decode cX2_join 60 = .ok (.iconst 0, 1) := by decide +kernel
theorem dX2_join_61 : decode cX2_join 61 = .ok (.ireturn, 1) := by decide +kernel
theorem dX2_join_62 : decode cX2_join 62 = .ok (.iconst 0, 1) := by decide +kernel
theorem dX2_join_63 : decode cX2_join 63 = .ok (.istore 4, 2) := by decide +kernel
theorem dX2_join_65 : decode cX2_join 65 = .ok (.iconst 0, 1) := by decide +kernel
theorem dX2_join_66 : decode cX2_join 66 = .ok (.istore 5, 2) := by decide +kernel
theorem dX2_join_68 : decode cX2_join 68 = .ok (.iload 5, 2) := by decide +kernel
theorem dX2_join_70 : decode cX2_join 70 = .ok (.bipush 6, 2) := by decide +kernel
theorem dX2_join_72 : decode cX2_join 72 = .ok (.if_icmp .ge 66, 3) := by decide +kernel
theorem dX2_join_75 : decode cX2_join 75 = .ok (.aload_n 0, 1) := by decide +kernel
theorem dX2_join_76 : decode cX2_join 76 = .ok (.getfield 13, 3) := by decide +kernel
theorem dX2_join_79 : decode cX2_join 79 = .ok (.bipush 6, 2) := by decide +kernel
theorem dX2_join_81 : decode cX2_join 81 = .ok (.iload_n 2, 1) := by decide +kernel
theorem dX2_join_82 : decode cX2_join 82 = .ok (.imul, 1) := by decide +kernel
theorem dX2_join_83 : decode cX2_join 83 = .ok (.iload 5, 2) := by decide +kernel
theorem dX2_join_85 : decode cX2_join 85 = .ok (.iadd, 1) := by decide +kernel
theorem dX2_join_86 : decode cX2_join 86 = .ok (.dup2, 1) := by decide +kernel
theorem dX2_join_87 : decode cX2_join 87 = .ok (.iaload, 1) := by decide +kernel
theorem dX2_join_88 : decode cX2_join 88 = .ok (.aload_n 0, 1) := by decide +kernel
theorem dX2_join_89 : decode cX2_join 89 = .ok (.getfield 13, 3) := by decide +kernel
theorem dX2_join_92 : decode cX2_join 92 = .ok (.bipush 6, 2) := by decide +kernel
theorem dX2_join_94 : decode cX2_join 94 = .ok (.iload_n 1, 1) := by decide +kernel
theorem dX2_join_95 : decode cX2_join 95 = .ok (.imul, 1) := by decide +kernel
theorem dX2_join_96 : decode cX2_join 96 = .ok (.iload 5, 2) := by decide +kernel
theorem dX2_join_98 : decode cX2_join 98 = .ok (.iadd, 1) := by decide +kernel
theorem dX2_join_99 : decode cX2_join 99 = .ok (.iaload, 1) := by decide +kernel
theorem dX2_join_100 : decode cX2_join 100 = .ok (.iadd, 1) := by decide +kernel
theorem dX2_join_101 : decode cX2_join 101 = .ok (.iastore, 1) := by decide +kernel
theorem dX2_join_102 : decode cX2_join 102 = .ok (.aload_n 0, 1) := by decide +kernel
theorem dX2_join_103 : decode cX2_join 103 = .ok (.getfield 13, 3) := by decide +kernel
theorem dX2_join_106 : decode cX2_join 106 = .ok (.bipush 6, 2) := by decide +kernel
theorem dX2_join_108 : decode cX2_join 108 = .ok (.iload_n 1, 1) := by decide +kernel
theorem dX2_join_109 : decode cX2_join 109 = .ok (.imul, 1) := by decide +kernel
theorem dX2_join_110 : decode cX2_join 110 = .ok (.iload 5, 2) := by decide +kernel
theorem dX2_join_112 : decode cX2_join 112 = .ok (.iadd, 1) := by decide +kernel
theorem dX2_join_113 : decode cX2_join 113 = .ok (.iconst 0, 1) := by decide +kernel
theorem dX2_join_114 : decode cX2_join 114 = .ok (.iastore, 1) := by decide +kernel
theorem dX2_join_115 : decode cX2_join 115 = .ok (.iload 4, 2) := by decide +kernel
theorem dX2_join_117 : decode cX2_join 117 = .ok (.aload_n 0, 1) := by decide +kernel
theorem dX2_join_118 : decode cX2_join 118 = .ok (.getfield 13, 3) := by decide +kernel
theorem dX2_join_121 : decode cX2_join 121 = .ok (.bipush 6, 2) := by decide +kernel
theorem dX2_join_123 : decode cX2_join 123 = .ok (.iload_n 2, 1) := by decide +kernel
theorem dX2_join_124 : decode cX2_join 124 = .ok (.imul, 1) := by decide +kernel
theorem dX2_join_125 : decode cX2_join 125 = .ok (.iload 5, 2) := by decide +kernel
theorem dX2_join_127 : decode cX2_join 127 = .ok (.iadd, 1) := by decide +kernel
theorem dX2_join_128 : decode cX2_join 128 = .ok (.iaload, 1) := by decide +kernel
theorem dX2_join_129 : decode cX2_join 129 = .ok (.iadd, 1) := by decide +kernel
theorem dX2_join_130 : decode cX2_join 130 = .ok (.istore 4, 2) := by decide +kernel
theorem dX2_join_132 : decode cX2_join 132 = .ok (.iinc 5 1, 3) := by decide +kernel
theorem dX2_join_135 : decode cX2_join 135 = .ok (.goto (-67), 3) := by decide +kernel
theorem dX2_join_138 : decode cX2_join 138 = .ok (.aload_n 0, 1) := by decide +kernel
theorem dX2_join_139 : decode cX2_join 139 = .ok (.getfield 16, 3) := by decide +kernel
theorem dX2_join_142 : decode cX2_join 142 = .ok (.iload_n 1, 1) := by decide +kernel
theorem dX2_join_143 : decode cX2_join 143 = .ok (.iaload, 1) := by decide +kernel
theorem dX2_join_144 : decode cX2_join 144 = .ok (.istore 5, 2) := by decide +kernel
theorem dX2_join_146 : decode cX2_join 146 = .ok (.aload_n 0, 1) := by decide +kernel
theorem dX2_join_147 : decode cX2_join 147 = .ok (.getfield 16, 3) := by decide +kernel
theorem dX2_join_150 : decode cX2_join 150 = .ok (.iload_n 2, 1) := by decide +kernel
theorem dX2_join_151 : decode cX2_join 151 = .ok (.iaload, 1) := by decide +kernel
theorem dX2_join_152 : decode cX2_join 152 = .ok (.istore 6, 2) := by decide +kernel
theorem dX2_join_154 : decode cX2_join 154 = .ok (.aload_n 0, 1) := by decide +kernel
theorem dX2_join_155 : decode cX2_join 155 = .ok (.iload_n 2, 1) := by decide +kernel
theorem dX2_join_156 : decode cX2_join 156 = .ok (.iconst 5, 1) := by decide +kernel
theorem dX2_join_157 : decode cX2_join 157 = .ok (.iconst 0, 1) := by decide +kernel
theorem dX2_join_158 : decode cX2_join 158 = .ok (.iconst 0, 1) := by decide +kernel
theorem dX2_join_159 : decode cX2_join 159 = .ok (.iload_n 1, 1) := by decide +kernel
theorem dX2_join_160 : decode cX2_join 160 = .ok (.iload 5, 2) := by decide +kernel
theorem dX2_join_162 : decode cX2_join 162 = .ok (.invokevirtual 107, 3) := by decide +kernel
theorem dX2_join_165 : decode cX2_join 165 = .ok (.aload_n 0, 1) := by decide +kernel
theorem dX2_join_166 : decode cX2_join 166 = .ok (.iload_n 1, 1) := by decide +kernel
theorem dX2_join_167 : decode cX2_join 167 = .ok (.bipush 6, 2) := by decide +kernel
theorem dX2_join_169 : decode cX2_join 169 = .ok (.iconst 0, 1) := by decide +kernel
theorem dX2_join_170 : decode cX2_join 170 = .ok (.iconst 0, 1) := by decide +kernel
theorem dX2_join_171 : decode cX2_join 171 = .ok (.iload_n 2, 1) := by decide +kernel
theorem dX2_join_172 : decode cX2_join 172 = .ok (.iload 6, 2) := by decide +kernel
theorem dX2_join_174 : decode cX2_join 174 = .ok (.invokevirtual 107, 3) := by decide +kernel
theorem dX2_join_177 : decode cX2_join 177 = .ok (.aload_n 0, 1) := by decide +kernel
theorem dX2_join_178 : decode cX2_join 178 = .ok (.getfield 23, 3) := by decide +kernel
theorem dX2_join_181 : decode cX2_join 181 = .ok (.iload_n 1, 1) := by decide +kernel
theorem dX2_join_182 : decode cX2_join 182 = .ok (.iconst 1, 1) := by decide +kernel
theorem dX2_join_183 : decode cX2_join 183 = .ok (.bastore, 1) := by decide +kernel
theorem dX2_join_184 : decode cX2_join 184 = .ok (.aload_n 0, 1) := by decide +kernel
theorem dX2_join_185 : decode cX2_join 185 = .ok (.getfield 26, 3) := by decide +kernel
theorem dX2_join_188 : decode cX2_join 188 = .ok (.aload_n 0, 1) := by decide +kernel
theorem dX2_join_189 : decode cX2_join 189 = .ok (.getfield 126, 3) := by decide +kernel
theorem dX2_join_192 : decode cX2_join 192 = .ok (.iload_n 1, 1) := by decide +kernel
theorem dX2_join_193 : decode cX2_join 193 = .ok (.iastore, 1) := by decide +kernel
theorem dX2_join_194 : decode cX2_join 194 = .ok (.aload_n 0, 1) := by decide +kernel
theorem dX2_join_195 : decode cX2_join 195 = .ok (.dup, 1) := by decide +kernel
theorem dX2_join_196 : decode cX2_join 196 = .ok (.getfield 126, 3) := by decide +kernel
theorem dX2_join_199 : decode cX2_join 199 = .ok (.iconst 1, 1) := by decide +kernel
theorem dX2_join_200 : decode cX2_join 200 = .ok (.iadd, 1) := by decide +kernel
theorem dX2_join_201 : decode cX2_join 201 = .ok (.putfield 126, 3) := by decide +kernel
theorem dX2_join_204 : decode cX2_join 204 = .ok (.iload 4, 2) := by decide +kernel
theorem dX2_join_206 : decode cX2_join 206 = .ok (.ireturn, 1) := by decide +kernel
set_option maxRecDepth 20000 in
theorem ggX2_move_X2_isPallet : GoodIn wsX2_move wsX2_isPallet := goodIn_r _ [6, 7, 8, 9, 5, 10, 63, 64, 65, 66, 67, 68, 69, 70, 71, 72, 73, 74, 75, 76, 77, 78, 79, 80, 81, 82, 83, 84] (by decide +kernel) (by decide +kernel)
set_option maxRecDepth 20000 in
theorem gX2_move_X2_isPallet : GoodIn wsX2_move (wsV RX2 79 RX2 yX2_isPallet wsX2_isPallet) := goodIn_app (goodIn_of _ (by decide +kernel)) ggX2_move_X2_isPallet
set_option maxRecDepth 20000 in
theorem ggX2_move_X2_isIn : GoodIn wsX2_move wsX2_isIn := goodIn_r _ [10] (by decide +kernel) (by decide +kernel)
set_option maxRecDepth 20000 in
theorem gX2_move_X2_isIn : GoodIn wsX2_move (va_wsS RX2 75 yX2_isIn wsX2_isIn) := goodIn_app (goodIn_of _ (by decide +kernel)) ggX2_move_X2_isIn
set_option maxRecDepth 20000 in
theorem ggX2_move_X2_canWork : GoodIn wsX2_move wsX2_canWork := goodIn_r _ [14, 15, 16, 17, 18, 19, 20, 5, 21, 22, 23, 24, 25, 26, 27, 28, 29, 30, 31, 32, 33, 34, 35, 36, 37, 38, 39, 40, 63, 64, 65, 66, 67, 68, 69, 70, 71, 72, 73, 74, 75, 76, 77, 78, 79, 80, 81, 82, 83, 84] (by decide +kernel) (by decide +kernel)
set_option maxRecDepth 20000 in
theorem gX2_move_X2_canWork : GoodIn wsX2_move (wsV RX2 111 RX2 yX2_canWork wsX2_canWork) := goodIn_app (goodIn_of _ (by decide +kernel)) ggX2_move_X2_canWork
set_option maxRecDepth 20000 in
theorem ggX2_move_X2_weight : GoodIn wsX2_move wsX2_weight := goodIn_r _ [44, 45, 63, 64, 65, 66, 67, 68, 69, 70, 71, 72, 73, 74, 75, 76, 77, 78, 79, 80, 81, 82, 83, 84] (by decide +kernel) (by decide +kernel)
set_option maxRecDepth 20000 in
theorem gX2_move_X2_weight : GoodIn wsX2_move (wsV RX2 98 RX2 yX2_weight wsX2_weight) := goodIn_app (goodIn_of _ (by decide +kernel)) ggX2_move_X2_weight
set_option maxRecDepth 20000 in
theorem ggX2_move_X2_hasRoom : GoodIn wsX2_move wsX2_hasRoom := goodIn_r _ [49, 7, 1, 41, 42, 43, 5, 44, 45, 63, 64, 65, 66, 67, 68, 69, 70, 71, 72, 73, 74, 75, 76, 77, 78, 79, 80, 81, 82, 83, 84] (by decide +kernel) (by decide +kernel)
set_option maxRecDepth 20000 in
theorem gX2_move_X2_hasRoom : GoodIn wsX2_move (wsV RX2 114 RX2 yX2_hasRoom wsX2_hasRoom) := goodIn_app (goodIn_of _ (by decide +kernel)) ggX2_move_X2_hasRoom
set_option maxRecDepth 20000 in
theorem ggX2_move_X2_holds : GoodIn wsX2_move wsX2_holds := goodIn_r _ [53, 54, 63, 64, 65, 66, 67, 68, 69, 70, 71, 72, 73, 74, 75, 76, 77, 78, 79, 80, 81, 82, 83, 84] (by decide +kernel) (by decide +kernel)
set_option maxRecDepth 20000 in
theorem gX2_move_X2_holds : GoodIn wsX2_move (wsV RX2 101 RX2 yX2_holds wsX2_holds) := goodIn_app (goodIn_of _ (by decide +kernel)) ggX2_move_X2_holds
set_option maxRecDepth 20000 in
theorem ggX2_move_X2_writes : GoodIn wsX2_move wsX2_writes := goodIn_r _ [58, 17, 1, 22, 37, 38, 39, 23, 40, 59, 32, 60, 61, 62, 33, 34, 35, 5, 36, 63, 64, 65, 66, 67, 68, 69, 70, 71, 72, 73, 74, 75, 76, 77, 78, 79, 80, 81, 82, 83, 84] (by decide +kernel) (by decide +kernel)
set_option maxRecDepth 20000 in
theorem gX2_move_X2_writes : GoodIn wsX2_move (wsV RX2 107 RX2 yX2_writes wsX2_writes) := goodIn_app (goodIn_of _ (by decide +kernel)) ggX2_move_X2_writes
theorem dX2_move_0 : decode cX2_move 0 = .ok (.aload_n 0, 1) := by decide +kernel
theorem dX2_move_1 : decode cX2_move 1 = .ok (.iload_n 1, 1) := by decide +kernel
theorem dX2_move_2 : decode cX2_move 2 = .ok (.invokevirtual 79, 3) := by decide +kernel
theorem dX2_move_5 : decode cX2_move 5 = .ok (.ifCond .eq 16, 3) := by decide +kernel
theorem dX2_move_8 : decode cX2_move 8 = .ok (.iload_n 2, 1) := by decide +kernel
theorem dX2_move_9 : decode cX2_move 9 = .ok (.iconst 0, 1) := by decide +kernel
theorem dX2_move_10 : decode cX2_move 10 = .ok (.iconst 5, 1) := by decide +kernel
theorem dX2_move_11 : decode cX2_move 11 = .ok (.invokestatic 75, 3) := by decide +kernel
theorem dX2_move_14 : decode cX2_move 14 = .ok (.ifCond .eq 7, 3) := by decide +kernel
theorem dX2_move_17 : decode cX2_move 17 = .ok (.iconst 1, 1) := by decide +kernel
theorem dX2_move_18 : decode cX2_move 18 = .ok (.goto 4, 3) := by decide +kernel
theorem dX2_move_21 : decode cX2_move 21 = .ok (.iconst 0, 1) := by decide +kernel
theorem dX2_move_22 : decode cX2_move 22 = .ok (.istore_n 3, 1) := by decide +kernel
theorem dX2_move_23 : decode cX2_move 23 = .ok (.iload_n 3, 1) := by decide +kernel
theorem dX2_move_24 : decode cX2_move 24 = .ok (.ifCond .eq 56, 3) := by decide +kernel
theorem dX2_move_27 : decode cX2_move 27 = .ok (.aload_n 0, 1) := by decide +kernel
theorem dX2_move_28 : decode cX2_move 28 = .ok (.getfield 7, 3) := by decide +kernel
theorem dX2_move_31 : decode cX2_move 31 = .ok (.iload_n 1, 1) := by decide +kernel
theorem dX2_move_32 : decode cX2_move 32 = .ok (.iaload, 1) := by decide +kernel
theorem dX2_move_33 : decode cX2_move 33 = .ok (.iconst 4, 1) := by decide +kernel
theorem dX2_move_34 : decode cX2_move 34 = .ok (.if_icmp .ge 7, 3) := by decide +kernel
theorem dX2_move_37 : decode cX2_move 37 = .ok (.iconst 1, 1) := by decide +kernel
theorem dX2_move_38 : decode cX2_move 38 = .ok (.goto 4, 3) := by decide +kernel
theorem dX2_move_41 : decode cX2_move 41 = .ok (.iconst 0, 1) := by decide +kernel
theorem dX2_move_42 : decode cX2_move 42 = .ok (.iload_n 2, 1) := by decide +kernel
theorem dX2_move_43 : decode cX2_move 43 = .ok (.iconst 4, 1) := by decide +kernel
theorem dX2_move_44 : decode cX2_move 44 = .ok (.if_icmp .ge 7, 3) := by decide +kernel
theorem dX2_move_47 : decode cX2_move 47 = .ok (.iconst 1, 1) := by decide +kernel
theorem dX2_move_48 : decode cX2_move 48 = .ok (.goto 4, 3) := by decide +kernel
theorem dX2_move_51 : decode cX2_move 51 = .ok (.iconst 0, 1) := by decide +kernel
theorem dX2_move_52 : decode cX2_move 52 = .ok (.if_icmp .eq 28, 3) := by decide +kernel
theorem dX2_move_55 : decode cX2_move 55 = .ok (.aload_n 0, 1) := by decide +kernel
theorem dX2_move_56 : decode cX2_move 56 = .ok (.iload_n 1, 1) := by decide +kernel
theorem dX2_move_57 : decode cX2_move 57 = .ok (.invokevirtual 111, 3) := by decide +kernel
theorem dX2_move_60 : decode cX2_move 60 = .ok (.ifCond .eq 20, 3) := by decide +kernel
theorem dX2_move_63 : decode cX2_move 63 = .ok (.aload_n 0, 1) := by decide +kernel
theorem dX2_move_64 : decode cX2_move 64 = .ok (.iload_n 2, 1) := by decide +kernel
theorem dX2_move_65 : decode cX2_move 65 = .ok (.aload_n 0, 1) := by decide +kernel
theorem dX2_move_66 : decode cX2_move 66 = .ok (.iload_n 1, 1) := by decide +kernel
theorem dX2_move_67 : decode cX2_move 67 = .ok (.invokevirtual 98, 3) := by decide +kernel
theorem dX2_move_70 : decode cX2_move 70 = .ok (.invokevirtual 114, 3) := by decide +kernel
theorem dX2_move_73 : decode cX2_move 73 = .ok (.ifCond .eq 7, 3) := by decide +kernel
theorem dX2_move_76 : decode cX2_move 76 = .ok (.iconst 1, 1) := by decide +kernel
theorem dX2_move_77 : decode cX2_move 77 = .ok (.goto 4, 3) := by decide +kernel
theorem dX2_move_80 : decode cX2_move 80 = .ok (.iconst 0, 1) := by decide +kernel
theorem dX2_move_81 : decode cX2_move 81 = .ok (.istore 4, 2) := by decide +kernel
theorem dX2_move_83 : decode cX2_move 83 = .ok (.aload_n 0, 1) := by decide +kernel
theorem dX2_move_84 : decode cX2_move 84 = .ok (.iload_n 3, 1) := by decide +kernel
theorem dX2_move_85 : decode cX2_move 85 = .ok (.ifCond .ne 7, 3) := by decide +kernel
theorem dX2_move_88 : decode cX2_move 88 = .ok (.iconst 1, 1) := by decide +kernel
theorem dX2_move_89 : decode cX2_move 89 = .ok (.goto 13, 3) := by decide +kernel
theorem dX2_move_92 : decode cX2_move 92 = .ok (.iload 4, 2) := by decide +kernel
theorem dX2_move_94 : decode cX2_move 94 = .ok (.ifCond .ne 7, 3) := by decide +kernel
theorem dX2_move_97 : decode cX2_move 97 = .ok (.iconst 2, 1) := by decide +kernel
theorem dX2_move_98 : decode cX2_move 98 = .ok (.goto 4, 3) := by decide +kernel
theorem dX2_move_101 : decode cX2_move 101 = .ok (.iconst 0, 1) := by decide +kernel
theorem dX2_move_102 : decode cX2_move 102 = .ok (.invokevirtual 101, 3) := by decide +kernel
theorem dX2_move_105 : decode cX2_move 105 = .ok (.ifCond .ne 5, 3) := by decide +kernel
theorem dX2_move_108 : decode cX2_move 108 = .ok (.iconst 0, 1) := by decide +kernel
theorem dX2_move_109 : decode cX2_move 109 = .ok (.ireturn, 1) := by decide +kernel
theorem dX2_move_110 : decode cX2_move 110 = .ok (.aload_n 0, 1) := by decide +kernel
theorem dX2_move_111 : decode cX2_move 111 = .ok (.iload_n 1, 1) := by decide +kernel
theorem dX2_move_112 : decode cX2_move 112 = .ok (.bipush 7, 2) := by decide +kernel
theorem dX2_move_114 : decode cX2_move 114 = .ok (.iconst 0, 1) := by decide +kernel
theorem dX2_move_115 : decode cX2_move 115 = .ok (.iload_n 2, 1) := by decide +kernel
theorem dX2_move_116 : decode cX2_move 116 = .ok (.iconst 0, 1) := by decide +kernel
theorem dX2_move_117 : decode cX2_move 117 = .ok (.iconst 0, 1) := by decide +kernel
theorem dX2_move_118 : decode cX2_move 118 = .ok (.invokevirtual 107, 3) := by decide +kernel
theorem dX2_move_121 : decode cX2_move 121 = .ok (.aload_n 0, 1) := by decide +kernel
theorem dX2_move_122 : decode cX2_move 122 = .ok (.getfield 7, 3) := by decide +kernel
theorem dX2_move_125 : decode cX2_move 125 = .ok (.iload_n 1, 1) := by decide +kernel
theorem dX2_move_126 : decode cX2_move 126 = .ok (.iload_n 2, 1) := by decide +kernel
theorem dX2_move_127 : decode cX2_move 127 = .ok (.iastore, 1) := by decide +kernel
theorem dX2_move_128 : decode cX2_move 128 = .ok (.aload_n 0, 1) := by decide +kernel
theorem dX2_move_129 : decode cX2_move 129 = .ok (.iload_n 1, 1) := by decide +kernel
theorem dX2_move_130 : decode cX2_move 130 = .ok (.invokevirtual 98, 3) := by decide +kernel
theorem dX2_move_133 : decode cX2_move 133 = .ok (.ireturn, 1) := by decide +kernel
set_option maxRecDepth 20000 in
theorem ggX2_hold_X2_isPallet : GoodIn wsX2_hold wsX2_isPallet := goodIn_r _ [8, 9, 10, 11, 7, 12, 38, 39, 40, 41, 42, 43, 44, 45, 46, 47, 48, 49, 50, 51, 52, 53, 54, 55, 56, 57, 58, 59] (by decide +kernel) (by decide +kernel)
set_option maxRecDepth 20000 in
theorem gX2_hold_X2_isPallet : GoodIn wsX2_hold (wsV RX2 79 RX2 yX2_isPallet wsX2_isPallet) := goodIn_app (goodIn_of _ (by decide +kernel)) ggX2_hold_X2_isPallet
set_option maxRecDepth 20000 in
theorem ggX2_hold_X2_holds : GoodIn wsX2_hold wsX2_holds := goodIn_r _ [16, 17, 38, 39, 40, 41, 42, 43, 44, 45, 46, 47, 48, 49, 50, 51, 52, 53, 54, 55, 56, 57, 58, 59] (by decide +kernel) (by decide +kernel)
set_option maxRecDepth 20000 in
theorem gX2_hold_X2_holds : GoodIn wsX2_hold (wsV RX2 101 RX2 yX2_holds wsX2_holds) := goodIn_app (goodIn_of _ (by decide +kernel)) ggX2_hold_X2_holds
set_option maxRecDepth 20000 in
theorem ggX2_hold_X2_writes : GoodIn wsX2_hold wsX2_writes := goodIn_r _ [21, 2, 22, 23, 24, 25, 26, 27, 28, 29, 30, 31, 32, 33, 34, 35, 36, 7, 37, 38, 39, 40, 41, 42, 43, 44, 45, 46, 47, 48, 49, 50, 51, 52, 53, 54, 55, 56, 57, 58, 59] (by decide +kernel) (by decide +kernel)
set_option maxRecDepth 20000 in
theorem gX2_hold_X2_writes : GoodIn wsX2_hold (wsV RX2 107 RX2 yX2_writes wsX2_writes) := goodIn_app (goodIn_of _ (by decide +kernel)) ggX2_hold_X2_writes
theorem dX2_hold_0 : decode cX2_hold 0 = .ok (.aload_n 0, 1) := by decide +kernel
theorem dX2_hold_1 : decode cX2_hold 1 = .ok (.iload_n 1, 1) := by decide +kernel
theorem dX2_hold_2 : decode cX2_hold 2 = .ok (.invokevirtual 79, 3) := by decide +kernel
theorem dX2_hold_5 : decode cX2_hold 5 = .ok (.istore_n 2, 1) := by decide +kernel
theorem dX2_hold_6 : decode cX2_hold 6 = .ok (.aload_n 0, 1) := by decide +kernel
theorem dX2_hold_7 : decode cX2_hold 7 = .ok (.iload_n 2, 1) := by decide +kernel
theorem dX2_hold_8 : decode cX2_hold 8 = .ok (.ifCond .ne 7, 3) := by decide +kernel
theorem dX2_hold_11 : decode cX2_hold 11 = .ok (.iconst 1, 1) := by decide +kernel
theorem dX2_hold_12 : decode cX2_hold 12 = .ok (.goto 28, 3) := by decide +kernel
theorem dX2_hold_15 : decode cX2_hold 15 = .ok (.aload_n 0, 1) := by decide +kernel
theorem dX2_hold_16 : decode cX2_hold 16 = .ok (.getfield 23, 3) := by decide +kernel
theorem dX2_hold_19 : decode cX2_hold 19 = .ok (.iload_n 1, 1) := by decide +kernel
theorem dX2_hold_20 : decode cX2_hold 20 = .ok (.baload, 1) := by decide +kernel
theorem dX2_hold_21 : decode cX2_hold 21 = .ok (.ifCond .ne 14, 3) := by decide +kernel
theorem dX2_hold_24 : decode cX2_hold 24 = .ok (.aload_n 0, 1) := by decide +kernel
theorem dX2_hold_25 : decode cX2_hold 25 = .ok (.getfield 16, 3) := by decide +kernel
theorem dX2_hold_28 : decode cX2_hold 28 = .ok (.iload_n 1, 1) := by decide +kernel
theorem dX2_hold_29 : decode cX2_hold 29 = .ok (.iaload, 1) := by decide +kernel
theorem dX2_hold_30 : decode cX2_hold 30 = .ok (.bipush 30, 2) := by decide +kernel
theorem dX2_hold_32 : decode cX2_hold 32 = .ok (.if_icmp .ne 7, 3) := by decide +kernel
theorem dX2_hold_35 : decode cX2_hold 35 = .ok (.iconst 2, 1) := by decide +kernel
theorem dX2_hold_36 : decode cX2_hold 36 = .ok (.goto 4, 3) := by decide +kernel
theorem dX2_hold_39 : decode cX2_hold 39 = .ok (.iconst 0, 1) := by decide +kernel
theorem dX2_hold_40 : decode cX2_hold 40 = .ok (.invokevirtual 101, 3) := by decide +kernel
theorem dX2_hold_43 : decode cX2_hold 43 = .ok (.ifCond .ne 5, 3) := by decide +kernel
theorem dX2_hold_46 : decode cX2_hold 46 = .ok (.iconst 0, 1) := by decide +kernel
theorem dX2_hold_47 : decode cX2_hold 47 = .ok (.ireturn, 1) := by decide +kernel
theorem dX2_hold_48 : decode cX2_hold 48 = .ok (.aload_n 0, 1) := by decide +kernel
theorem dX2_hold_49 : decode cX2_hold 49 = .ok (.getfield 19, 3) := by decide +kernel
theorem dX2_hold_52 : decode cX2_hold 52 = .ok (.iload_n 1, 1) := by decide +kernel
theorem dX2_hold_53 : decode cX2_hold 53 = .ok (.aload_n 0, 1) := by decide +kernel
theorem dX2_hold_54 : decode cX2_hold 54 = .ok (.getfield 19, 3) := by decide +kernel
theorem dX2_hold_57 : decode cX2_hold 57 = .ok (.iload_n 1, 1) := by decide +kernel
theorem dX2_hold_58 : decode cX2_hold 58 = .ok (.baload, 1) := by decide +kernel
theorem dX2_hold_59 : decode cX2_hold 59 = .ok (.ifCond .ne 7, 3) := by decide +kernel
theorem dX2_hold_62 : decode cX2_hold 62 = .ok (.iconst 1, 1) := by decide +kernel
theorem dX2_hold_63 : decode cX2_hold 63 = .ok (.goto 4, 3) := by decide +kernel
theorem dX2_hold_66 : decode cX2_hold 66 = .ok (.iconst 0, 1) := by decide +kernel
theorem dX2_hold_67 : decode cX2_hold 67 = .ok (.bastore, 1) := by decide +kernel
theorem dX2_hold_68 : decode cX2_hold 68 = .ok (.aload_n 0, 1) := by decide +kernel
theorem dX2_hold_69 : decode cX2_hold 69 = .ok (.iload_n 1, 1) := by decide +kernel
theorem dX2_hold_70 : decode cX2_hold 70 = .ok (.aload_n 0, 1) := by decide +kernel
theorem dX2_hold_71 : decode cX2_hold 71 = .ok (.getfield 19, 3) := by decide +kernel
theorem dX2_hold_74 : decode cX2_hold 74 = .ok (.iload_n 1, 1) := by decide +kernel
theorem dX2_hold_75 : decode cX2_hold 75 = .ok (.baload, 1) := by decide +kernel
theorem dX2_hold_76 : decode cX2_hold 76 = .ok (.ifCond .eq 8, 3) := by decide +kernel
theorem dX2_hold_79 : decode cX2_hold 79 = .ok (.bipush 8, 2) := by decide +kernel
theorem dX2_hold_81 : decode cX2_hold 81 = .ok (.goto 5, 3) := by decide +kernel
theorem dX2_hold_84 : decode cX2_hold 84 = .ok (.bipush 9, 2) := by decide +kernel
theorem dX2_hold_86 : decode cX2_hold 86 = .ok (.iconst 0, 1) := by decide +kernel
theorem dX2_hold_87 : decode cX2_hold 87 = .ok (.iconst 0, 1) := by decide +kernel
theorem dX2_hold_88 : decode cX2_hold 88 = .ok (.iconst 0, 1) := by decide +kernel
theorem dX2_hold_89 : decode cX2_hold 89 = .ok (.iconst 0, 1) := by decide +kernel
theorem dX2_hold_90 : decode cX2_hold 90 = .ok (.invokevirtual 107, 3) := by decide +kernel
theorem dX2_hold_93 : decode cX2_hold 93 = .ok (.aload_n 0, 1) := by decide +kernel
theorem dX2_hold_94 : decode cX2_hold 94 = .ok (.getfield 19, 3) := by decide +kernel
theorem dX2_hold_97 : decode cX2_hold 97 = .ok (.iload_n 1, 1) := by decide +kernel
theorem dX2_hold_98 : decode cX2_hold 98 = .ok (.baload, 1) := by decide +kernel
theorem dX2_hold_99 : decode cX2_hold 99 = .ok (.ireturn, 1) := by decide +kernel
set_option maxRecDepth 20000 in
theorem ggX2_spoil_X2_isEntry : GoodIn wsX2_spoil wsX2_isEntry := goodIn_r _ [6, 7, 8, 9, 10, 5, 11, 12, 13, 14, 15, 21, 22, 23, 24, 25, 26, 27, 28, 29, 30, 31, 32, 33, 34, 35, 36, 37, 38, 39, 40, 41, 42] (by decide +kernel) (by decide +kernel)
set_option maxRecDepth 20000 in
theorem gX2_spoil_X2_isEntry : GoodIn wsX2_spoil (wsV RX2 129 RX2 yX2_isEntry wsX2_isEntry) := goodIn_app (goodIn_of _ (by decide +kernel)) ggX2_spoil_X2_isEntry
set_option maxRecDepth 20000 in
theorem ggX2_spoil_X2_isIn : GoodIn wsX2_spoil wsX2_isIn := goodIn_r _ [15] (by decide +kernel) (by decide +kernel)
set_option maxRecDepth 20000 in
theorem gX2_spoil_X2_isIn : GoodIn wsX2_spoil (va_wsS RX2 75 yX2_isIn wsX2_isIn) := goodIn_app (goodIn_of _ (by decide +kernel)) ggX2_spoil_X2_isIn
set_option maxRecDepth 20000 in
theorem ggX2_spoil_X2_holds : GoodIn wsX2_spoil wsX2_holds := goodIn_r _ [19, 20, 21, 22, 23, 24, 25, 26, 27, 28, 29, 30, 31, 32, 33, 34, 35, 36, 37, 38, 39, 40, 41, 42] (by decide +kernel) (by decide +kernel)
set_option maxRecDepth 20000 in
theorem gX2_spoil_X2_holds : GoodIn wsX2_spoil (wsV RX2 101 RX2 yX2_holds wsX2_holds) := goodIn_app (goodIn_of _ (by decide +kernel)) ggX2_spoil_X2_holds
theorem dX2_spoil_0 : decode cX2_spoil 0 = .ok (.aload_n 0, 1) := by decide +kernel
theorem dX2_spoil_1 : decode cX2_spoil 1 = .ok (.iload_n 1, 1) := by decide +kernel
theorem dX2_spoil_2 : decode cX2_spoil 2 = .ok (.iload_n 2, 1) := by decide +kernel
theorem dX2_spoil_3 : decode cX2_spoil 3 = .ok (.invokevirtual 129, 3) := by decide +kernel
theorem dX2_spoil_6 : decode cX2_spoil 6 = .ok (.istore 4, 2) := by decide +kernel
theorem dX2_spoil_8 : decode cX2_spoil 8 = .ok (.aload_n 0, 1) := by decide +kernel
theorem dX2_spoil_9 : decode cX2_spoil 9 = .ok (.iload 4, 2) := by decide +kernel
theorem dX2_spoil_11 : decode cX2_spoil 11 = .ok (.ifCond .ne 7, 3) := by decide +kernel
theorem dX2_spoil_14 : decode cX2_spoil 14 = .ok (.iconst 1, 1) := by decide +kernel
theorem dX2_spoil_15 : decode cX2_spoil 15 = .ok (.goto 21, 3) := by decide +kernel
theorem dX2_spoil_18 : decode cX2_spoil 18 = .ok (.iload_n 3, 1) := by decide +kernel
theorem dX2_spoil_19 : decode cX2_spoil 19 = .ok (.sipush (-999), 3) := by decide +kernel
theorem dX2_spoil_22 : decode cX2_spoil 22 = .ok (.sipush 999, 3) := by decide +kernel
theorem dX2_spoil_25 : decode cX2_spoil 25 = .ok (.invokestatic 75, 3) := by decide +kernel
theorem dX2_spoil_28 : decode cX2_spoil 28 = .ok (.ifCond .ne 7, 3) := by decide +kernel
theorem dX2_spoil_31 : decode cX2_spoil 31 = .ok (.iconst 2, 1) := by decide +kernel
theorem dX2_spoil_32 : decode cX2_spoil 32 = .ok (.goto 4, 3) := by decide +kernel
theorem dX2_spoil_35 : decode cX2_spoil 35 = .ok (.iconst 0, 1) := by decide +kernel
theorem dX2_spoil_36 : decode cX2_spoil 36 = .ok (.invokevirtual 101, 3) := by decide +kernel
theorem dX2_spoil_39 : decode cX2_spoil 39 = .ok (.ifCond .ne 5, 3) := by decide +kernel
theorem dX2_spoil_42 : decode cX2_spoil 42 = .ok (.iconst 0, 1) := by decide +kernel
theorem dX2_spoil_43 : decode cX2_spoil 43 = .ok (.ireturn, 1) := by decide +kernel
theorem dX2_spoil_44 : decode cX2_spoil 44 = .ok (.bipush 30, 2) := by decide +kernel
theorem dX2_spoil_46 : decode cX2_spoil 46 = .ok (.iload_n 1, 1) := by decide +kernel
theorem dX2_spoil_47 : decode cX2_spoil 47 = .ok (.imul, 1) := by decide +kernel
theorem dX2_spoil_48 : decode cX2_spoil 48 = .ok (.iload_n 2, 1) := by decide +kernel
theorem dX2_spoil_49 : decode cX2_spoil 49 = .ok (.iadd, 1) := by decide +kernel
theorem dX2_spoil_50 : decode cX2_spoil 50 = .ok (.istore 5, 2) := by decide +kernel
theorem dX2_spoil_52 : decode cX2_spoil 52 = .ok (.aload_n 0, 1) := by decide +kernel
theorem dX2_spoil_53 : decode cX2_spoil 53 = .ok (.getfield 38, 3) := by decide +kernel
theorem dX2_spoil_56 : decode cX2_spoil 56 = .ok (.iload 5, 2) := by decide +kernel
theorem dX2_spoil_58 : decode cX2_spoil 58 = .ok (.iaload, 1) := by decide +kernel
theorem dX2_spoil_59 : decode cX2_spoil 59 = .ok (.istore 6, 2) := by decide +kernel
theorem dX2_spoil_61 : decode cX2_spoil 61 = .ok (.aload_n 0, 1) := by decide +kernel
theorem dX2_spoil_62 : decode cX2_spoil 62 = .ok (.getfield 38, 3) := by decide +kernel
theorem dX2_spoil_65 : decode cX2_spoil 65 = .ok (.iload 5, 2) := by decide +kernel
theorem dX2_spoil_67 : decode cX2_spoil 67 = .ok (.iload_n 3, 1) := by decide +kernel
theorem dX2_spoil_68 : decode cX2_spoil 68 = .ok (.iastore, 1) := by decide +kernel
theorem dX2_spoil_69 : decode cX2_spoil 69 = .ok (.iload 6, 2) := by decide +kernel
theorem dX2_spoil_71 : decode cX2_spoil 71 = .ok (.ireturn, 1) := by decide +kernel
set_option maxRecDepth 20000 in
theorem ggX2_lose_X2_isIn : GoodIn wsX2_lose wsX2_isIn := goodIn_r _ [6] (by decide +kernel) (by decide +kernel)
set_option maxRecDepth 20000 in
theorem gX2_lose_X2_isIn : GoodIn wsX2_lose (va_wsS RX2 75 yX2_isIn wsX2_isIn) := goodIn_app (goodIn_of _ (by decide +kernel)) ggX2_lose_X2_isIn
set_option maxRecDepth 20000 in
theorem ggX2_lose_X2_holds : GoodIn wsX2_lose wsX2_holds := goodIn_r _ [10, 11, 12, 13, 14, 15, 16, 17, 18, 19, 20, 21, 22, 23, 24, 25, 26, 27, 28, 29, 30, 31, 32, 33] (by decide +kernel) (by decide +kernel)
set_option maxRecDepth 20000 in
theorem gX2_lose_X2_holds : GoodIn wsX2_lose (wsV RX2 101 RX2 yX2_holds wsX2_holds) := goodIn_app (goodIn_of _ (by decide +kernel)) ggX2_lose_X2_holds
theorem dX2_lose_0 : decode cX2_lose 0 = .ok (.aload_n 0, 1) := by decide +kernel
theorem dX2_lose_1 : decode cX2_lose 1 = .ok (.iload_n 1, 1) := by decide +kernel
theorem dX2_lose_2 : decode cX2_lose 2 = .ok (.iconst 0, 1) := by decide +kernel
theorem dX2_lose_3 : decode cX2_lose 3 = .ok (.bipush 6, 2) := by decide +kernel
theorem dX2_lose_5 : decode cX2_lose 5 = .ok (.invokestatic 75, 3) := by decide +kernel
theorem dX2_lose_8 : decode cX2_lose 8 = .ok (.ifCond .eq 7, 3) := by decide +kernel
theorem dX2_lose_11 : decode cX2_lose 11 = .ok (.iconst 0, 1) := by decide +kernel
theorem dX2_lose_12 : decode cX2_lose 12 = .ok (.goto 4, 3) := by decide +kernel
theorem dX2_lose_15 : decode cX2_lose 15 = .ok (.iconst 1, 1) := by decide +kernel
theorem dX2_lose_16 : decode cX2_lose 16 = .ok (.invokevirtual 101, 3) := by decide +kernel
theorem dX2_lose_19 : decode cX2_lose 19 = .ok (.ifCond .ne 5, 3) := by decide +kernel
theorem dX2_lose_22 : decode cX2_lose 22 = .ok (.iconst 0, 1) := by decide +kernel
theorem dX2_lose_23 : decode cX2_lose 23 = .ok (.ireturn, 1) := by decide +kernel
theorem dX2_lose_24 : decode cX2_lose 24 = .ok (.iconst 0, 1) := by decide +kernel
theorem dX2_lose_25 : decode cX2_lose 25 = .ok (.istore_n 2, 1) := by decide +kernel
theorem dX2_lose_26 : decode cX2_lose 26 = .ok (.iconst 0, 1) := by decide +kernel
theorem dX2_lose_27 : decode cX2_lose 27 = .ok (.istore_n 3, 1) := by decide +kernel
theorem dX2_lose_28 : decode cX2_lose 28 = .ok (.iload_n 3, 1) := by decide +kernel
theorem dX2_lose_29 : decode cX2_lose 29 = .ok (.bipush 30, 2) := by decide +kernel
theorem dX2_lose_31 : decode cX2_lose 31 = .ok (.aload_n 0, 1) := by decide +kernel
theorem dX2_lose_32 : decode cX2_lose 32 = .ok (.getfield 72, 3) := by decide +kernel
theorem dX2_lose_35 : decode cX2_lose 35 = .ok (.imul, 1) := by decide +kernel
theorem dX2_lose_36 : decode cX2_lose 36 = .ok (.if_icmp .ge 36, 3) := by decide +kernel
theorem dX2_lose_39 : decode cX2_lose 39 = .ok (.iload_n 2, 1) := by decide +kernel
theorem dX2_lose_40 : decode cX2_lose 40 = .ok (.aload_n 0, 1) := by decide +kernel
theorem dX2_lose_41 : decode cX2_lose 41 = .ok (.getfield 53, 3) := by decide +kernel
theorem dX2_lose_44 : decode cX2_lose 44 = .ok (.iload_n 3, 1) := by decide +kernel
theorem dX2_lose_45 : decode cX2_lose 45 = .ok (.iaload, 1) := by decide +kernel
theorem dX2_lose_46 : decode cX2_lose 46 = .ok (.iload_n 1, 1) := by decide +kernel
theorem dX2_lose_47 : decode cX2_lose 47 = .ok (.ishr, 1) := by decide +kernel
theorem dX2_lose_48 : decode cX2_lose 48 = .ok (.iconst 1, 1) := by decide +kernel
theorem dX2_lose_49 : decode cX2_lose 49 = .ok (.iand, 1) := by decide +kernel
theorem dX2_lose_50 : decode cX2_lose 50 = .ok (.iadd, 1) := by decide +kernel
theorem dX2_lose_51 : decode cX2_lose 51 = .ok (.istore_n 2, 1) := by decide +kernel
theorem dX2_lose_52 : decode cX2_lose 52 = .ok (.aload_n 0, 1) := by decide +kernel
theorem dX2_lose_53 : decode cX2_lose 53 = .ok (.getfield 53, 3) := by decide +kernel
theorem dX2_lose_56 : decode cX2_lose 56 = .ok (.iload_n 3, 1) := by decide +kernel
theorem dX2_lose_57 : decode cX2_lose 57 = .ok (.dup2, 1) := by decide +kernel
theorem dX2_lose_58 : decode cX2_lose 58 = .ok (.iaload, 1) := by decide +kernel
theorem dX2_lose_59 : decode cX2_lose 59 = .ok (.iconst 1, 1) := by decide +kernel
theorem dX2_lose_60 : decode cX2_lose 60 = .ok (.iload_n 1, 1) := by decide +kernel
theorem dX2_lose_61 : decode cX2_lose 61 = .ok (.ishl, 1) := by decide +kernel
theorem dX2_lose_62 : decode cX2_lose 62 = .ok (.iconst (-1), 1) := by decide +kernel
theorem dX2_lose_63 : decode cX2_lose 63 = .ok (.ixor, 1) := by decide +kernel
theorem dX2_lose_64 : decode cX2_lose 64 = .ok (.iand, 1) := by decide +kernel
theorem dX2_lose_65 : decode cX2_lose 65 = .ok (.iastore, 1) := by decide +kernel
theorem dX2_lose_66 : decode cX2_lose 66 = .ok (.iinc 3 1, 3) := by decide +kernel
theorem dX2_lose_69 : decode cX2_lose 69 = .ok (.goto (-41), 3) := by decide +kernel
theorem dX2_lose_72 : decode cX2_lose 72 = .ok (.iload_n 2, 1) := by decide +kernel
theorem dX2_lose_73 : decode cX2_lose 73 = .ok (.ireturn, 1) := by decide +kernel
set_option maxRecDepth 20000 in
theorem ggX2_repair_X2_isEntry : GoodIn wsX2_repair wsX2_isEntry := goodIn_r _ [10, 11, 12, 13, 14, 9, 15, 16, 17, 18, 19, 39, 40, 41, 42, 43, 44, 45, 46, 47, 48, 49, 50, 51, 52, 53, 54, 55, 56, 57, 58, 59, 60] (by decide +kernel) (by decide +kernel)
set_option maxRecDepth 20000 in
theorem gX2_repair_X2_isEntry : GoodIn wsX2_repair (wsV RX2 129 RX2 yX2_isEntry wsX2_isEntry) := goodIn_app (goodIn_of _ (by decide +kernel)) ggX2_repair_X2_isEntry
set_option maxRecDepth 20000 in
theorem ggX2_repair_X2_isBroken : GoodIn wsX2_repair wsX2_isBroken := goodIn_r _ [23, 24, 25, 26, 27, 9, 28, 29, 30, 31, 2, 32, 33, 39, 40, 41, 42, 43, 44, 45, 46, 47, 48, 49, 50, 51, 52, 53, 54, 55, 56, 57, 58, 59, 60] (by decide +kernel) (by decide +kernel)
set_option maxRecDepth 20000 in
theorem gX2_repair_X2_isBroken : GoodIn wsX2_repair (wsV RX2 87 RX2 yX2_isBroken wsX2_isBroken) := goodIn_app (goodIn_of _ (by decide +kernel)) ggX2_repair_X2_isBroken
set_option maxRecDepth 20000 in
theorem ggX2_repair_X2_holds : GoodIn wsX2_repair wsX2_holds := goodIn_r _ [37, 38, 39, 40, 41, 42, 43, 44, 45, 46, 47, 48, 49, 50, 51, 52, 53, 54, 55, 56, 57, 58, 59, 60] (by decide +kernel) (by decide +kernel)
set_option maxRecDepth 20000 in
theorem gX2_repair_X2_holds : GoodIn wsX2_repair (wsV RX2 101 RX2 yX2_holds wsX2_holds) := goodIn_app (goodIn_of _ (by decide +kernel)) ggX2_repair_X2_holds
theorem dX2_repair_0 : decode cX2_repair 0 = .ok (.aload_n 0, 1) := by decide +kernel
theorem dX2_repair_1 : decode cX2_repair 1 = .ok (.iload_n 1, 1) := by decide +kernel
theorem dX2_repair_2 : decode cX2_repair 2 = .ok (.iload_n 2, 1) := by decide +kernel
theorem dX2_repair_3 : decode cX2_repair 3 = .ok (.invokevirtual 129, 3) := by decide +kernel
theorem dX2_repair_6 : decode cX2_repair 6 = .ok (.istore_n 3, 1) := by decide +kernel
theorem dX2_repair_7 : decode cX2_repair 7 = .ok (.iload_n 3, 1) := by decide +kernel
theorem dX2_repair_8 : decode cX2_repair 8 = .ok (.ifCond .eq 12, 3) := by decide +kernel
theorem dX2_repair_11 : decode cX2_repair 11 = .ok (.bipush 30, 2) := by decide +kernel
theorem dX2_repair_13 : decode cX2_repair 13 = .ok (.iload_n 1, 1) := by decide +kernel
theorem dX2_repair_14 : decode cX2_repair 14 = .ok (.imul, 1) := by decide +kernel
theorem dX2_repair_15 : decode cX2_repair 15 = .ok (.iload_n 2, 1) := by decide +kernel
theorem dX2_repair_16 : decode cX2_repair 16 = .ok (.iadd, 1) := by decide +kernel
theorem dX2_repair_17 : decode cX2_repair 17 = .ok (.goto 4, 3) := by decide +kernel
theorem dX2_repair_20 : decode cX2_repair 20 = .ok (.iconst 0, 1) := by decide +kernel
theorem dX2_repair_21 : decode cX2_repair 21 = .ok (.istore 4, 2) := by decide +kernel
theorem dX2_repair_23 : decode cX2_repair 23 = .ok (.aload_n 0, 1) := by decide +kernel
theorem dX2_repair_24 : decode cX2_repair 24 = .ok (.iload_n 3, 1) := by decide +kernel
theorem dX2_repair_25 : decode cX2_repair 25 = .ok (.ifCond .ne 7, 3) := by decide +kernel
theorem dX2_repair_28 : decode cX2_repair 28 = .ok (.iconst 1, 1) := by decide +kernel
theorem dX2_repair_29 : decode cX2_repair 29 = .ok (.goto 27, 3) := by decide +kernel
theorem dX2_repair_32 : decode cX2_repair 32 = .ok (.aload_n 0, 1) := by decide +kernel
theorem dX2_repair_33 : decode cX2_repair 33 = .ok (.iload_n 1, 1) := by decide +kernel
theorem dX2_repair_34 : decode cX2_repair 34 = .ok (.iload_n 2, 1) := by decide +kernel
theorem dX2_repair_35 : decode cX2_repair 35 = .ok (.invokevirtual 87, 3) := by decide +kernel
theorem dX2_repair_38 : decode cX2_repair 38 = .ok (.ifCond .eq 13, 3) := by decide +kernel
theorem dX2_repair_41 : decode cX2_repair 41 = .ok (.aload_n 0, 1) := by decide +kernel
theorem dX2_repair_42 : decode cX2_repair 42 = .ok (.getfield 53, 3) := by decide +kernel
theorem dX2_repair_45 : decode cX2_repair 45 = .ok (.iload 4, 2) := by decide +kernel
theorem dX2_repair_47 : decode cX2_repair 47 = .ok (.iaload, 1) := by decide +kernel
theorem dX2_repair_48 : decode cX2_repair 48 = .ok (.ifCond .ne 7, 3) := by decide +kernel
theorem dX2_repair_51 : decode cX2_repair 51 = .ok (.iconst 2, 1) := by decide +kernel
theorem dX2_repair_52 : decode cX2_repair 52 = .ok (.goto 4, 3) := by decide +kernel
theorem dX2_repair_55 : decode cX2_repair 55 = .ok (.iconst 0, 1) := by decide +kernel
theorem dX2_repair_56 : decode cX2_repair 56 = .ok (.invokevirtual 101, 3) := by decide +kernel
theorem dX2_repair_59 : decode cX2_repair 59 = .ok (.ifCond .ne 5, 3) := by decide +kernel
theorem dX2_repair_62 : decode cX2_repair 62 = .ok (.iconst 0, 1) := by decide +kernel
theorem dX2_repair_63 : decode cX2_repair 63 = .ok (.ireturn, 1) := by decide +kernel
theorem dX2_repair_64 : decode cX2_repair 64 = .ok (.aload_n 0, 1) := by decide +kernel
theorem dX2_repair_65 : decode cX2_repair 65 = .ok (.getfield 38, 3) := by decide +kernel
theorem dX2_repair_68 : decode cX2_repair 68 = .ok (.iload 4, 2) := by decide +kernel
theorem dX2_repair_70 : decode cX2_repair 70 = .ok (.aload_n 0, 1) := by decide +kernel
theorem dX2_repair_71 : decode cX2_repair 71 = .ok (.getfield 47, 3) := by decide +kernel
theorem dX2_repair_74 : decode cX2_repair 74 = .ok (.iload 4, 2) := by decide +kernel
theorem dX2_repair_76 : decode cX2_repair 76 = .ok (.iaload, 1) := by decide +kernel
theorem dX2_repair_77 : decode cX2_repair 77 = .ok (.iastore, 1) := by decide +kernel
theorem dX2_repair_78 : decode cX2_repair 78 = .ok (.aload_n 0, 1) := by decide +kernel
theorem dX2_repair_79 : decode cX2_repair 79 = .ok (.getfield 62, 3) := by decide +kernel
theorem dX2_repair_82 : decode cX2_repair 82 = .ok (.aload_n 0, 1) := by decide +kernel
theorem dX2_repair_83 : decode cX2_repair 83 = .ok (.getfield 7, 3) := by decide +kernel
theorem dX2_repair_86 : decode cX2_repair 86 = .ok (.iload_n 1, 1) := by decide +kernel
theorem dX2_repair_87 : decode cX2_repair 87 = .ok (.iaload, 1) := by decide +kernel
theorem dX2_repair_88 : decode cX2_repair 88 = .ok (.dup2, 1) := by decide +kernel
theorem dX2_repair_89 : decode cX2_repair 89 = .ok (.iaload, 1) := by decide +kernel
theorem dX2_repair_90 : decode cX2_repair 90 = .ok (.iconst 5, 1) := by decide +kernel
theorem dX2_repair_91 : decode cX2_repair 91 = .ok (.iadd, 1) := by decide +kernel
theorem dX2_repair_92 : decode cX2_repair 92 = .ok (.iastore, 1) := by decide +kernel
theorem dX2_repair_93 : decode cX2_repair 93 = .ok (.iconst 0, 1) := by decide +kernel
theorem dX2_repair_94 : decode cX2_repair 94 = .ok (.istore 5, 2) := by decide +kernel
theorem dX2_repair_96 : decode cX2_repair 96 = .ok (.aload_n 0, 1) := by decide +kernel
theorem dX2_repair_97 : decode cX2_repair 97 = .ok (.getfield 53, 3) := by decide +kernel
theorem dX2_repair_100 : decode cX2_repair 100 = .ok (.iload 4, 2) := by decide +kernel
theorem dX2_repair_102 : decode cX2_repair 102 = .ok (.iaload, 1) := by decide +kernel
theorem dX2_repair_103 : decode cX2_repair 103 = .ok (.iload 5, 2) := by decide +kernel
theorem dX2_repair_105 : decode cX2_repair 105 = .ok (.ishr, 1) := by decide +kernel
theorem dX2_repair_106 : decode cX2_repair 106 = .ok (.iconst 1, 1) := by decide +kernel
theorem dX2_repair_107 : decode cX2_repair 107 = .ok (.iand, 1) := by decide +kernel
theorem dX2_repair_108 : decode cX2_repair 108 = .ok (.ifCond .ne 9, 3) := by decide +kernel
theorem dX2_repair_111 : decode cX2_repair 111 = .ok (.iinc 5 1, 3) := by decide +kernel
theorem dX2_repair_114 : decode cX2_repair 114 = .ok (.goto (-18), 3) := by decide +kernel
theorem dX2_repair_117 : decode cX2_repair 117 = .ok (.iload 5, 2) := by decide +kernel
theorem dX2_repair_119 : decode cX2_repair 119 = .ok (.ireturn, 1) := by decide +kernel
set_option maxRecDepth 20000 in
theorem ggX2_broken_X2_isPallet : GoodIn wsX2_broken wsX2_isPallet := goodIn_r _ [5, 6, 7, 8, 4, 9, 35, 36, 37, 38, 39, 40, 41, 42, 43, 44, 45, 46, 47, 48, 49, 50, 51, 52, 53, 54, 55, 56] (by decide +kernel) (by decide +kernel)
set_option maxRecDepth 20000 in
theorem gX2_broken_X2_isPallet : GoodIn wsX2_broken (wsV RX2 79 RX2 yX2_isPallet wsX2_isPallet) := goodIn_app (goodIn_of _ (by decide +kernel)) ggX2_broken_X2_isPallet
set_option maxRecDepth 20000 in
theorem ggX2_broken_X2_holds : GoodIn wsX2_broken wsX2_holds := goodIn_r _ [13, 14, 35, 36, 37, 38, 39, 40, 41, 42, 43, 44, 45, 46, 47, 48, 49, 50, 51, 52, 53, 54, 55, 56] (by decide +kernel) (by decide +kernel)
set_option maxRecDepth 20000 in
theorem gX2_broken_X2_holds : GoodIn wsX2_broken (wsV RX2 101 RX2 yX2_holds wsX2_holds) := goodIn_app (goodIn_of _ (by decide +kernel)) ggX2_broken_X2_holds
set_option maxRecDepth 20000 in
theorem ggX2_broken_X2_firstBroken : GoodIn wsX2_broken wsX2_firstBroken := goodIn_r _ [18, 19, 20, 21, 22, 4, 23, 24, 25, 26, 27, 28, 29, 30, 31, 32, 33, 34, 35, 36, 37, 38, 39, 40, 41, 42, 43, 44, 45, 46, 47, 48, 49, 50, 51, 52, 53, 54, 55, 56] (by decide +kernel) (by decide +kernel)
set_option maxRecDepth 20000 in
theorem gX2_broken_X2_firstBroken : GoodIn wsX2_broken (wsV RX2 91 RX2 yX2_firstBroken wsX2_firstBroken) := goodIn_app (goodIn_of _ (by decide +kernel)) ggX2_broken_X2_firstBroken
theorem dX2_broken_0 : decode cX2_broken 0 = .ok (.aload_n 0, 1) := by decide +kernel
theorem dX2_broken_1 : decode cX2_broken 1 = .ok (.aload_n 0, 1) := by decide +kernel
theorem dX2_broken_2 : decode cX2_broken 2 = .ok (.iload_n 1, 1) := by decide +kernel
theorem dX2_broken_3 : decode cX2_broken 3 = .ok (.invokevirtual 79, 3) := by decide +kernel
theorem dX2_broken_6 : decode cX2_broken 6 = .ok (.ifCond .eq 7, 3) := by decide +kernel
theorem dX2_broken_9 : decode cX2_broken 9 = .ok (.iconst 0, 1) := by decide +kernel
theorem dX2_broken_10 : decode cX2_broken 10 = .ok (.goto 4, 3) := by decide +kernel
theorem dX2_broken_13 : decode cX2_broken 13 = .ok (.iconst 1, 1) := by decide +kernel
theorem dX2_broken_14 : decode cX2_broken 14 = .ok (.invokevirtual 101, 3) := by decide +kernel
theorem dX2_broken_17 : decode cX2_broken 17 = .ok (.ifCond .eq 11, 3) := by decide +kernel
theorem dX2_broken_20 : decode cX2_broken 20 = .ok (.aload_n 0, 1) := by decide +kernel
theorem dX2_broken_21 : decode cX2_broken 21 = .ok (.iload_n 1, 1) := by decide +kernel
theorem dX2_broken_22 : decode cX2_broken 22 = .ok (.invokevirtual 91, 3) := by decide +kernel
theorem dX2_broken_25 : decode cX2_broken 25 = .ok (.goto 4, 3) := by decide +kernel
theorem dX2_broken_28 : decode cX2_broken 28 = .ok (.iconst 0, 1) := by decide +kernel
theorem dX2_broken_29 : decode cX2_broken 29 = .ok (.ireturn, 1) := by decide +kernel
set_option maxRecDepth 20000 in
theorem ggX2_isSound_X2_isPallet : GoodIn wsX2_isSound wsX2_isPallet := goodIn_r _ [5, 6, 7, 8, 4, 9, 39, 40, 41, 42, 43, 44, 45, 46, 47, 48, 49, 50, 51, 52, 53, 54, 55, 56, 57, 58, 59, 60] (by decide +kernel) (by decide +kernel)
set_option maxRecDepth 20000 in
theorem gX2_isSound_X2_isPallet : GoodIn wsX2_isSound (wsV RX2 79 RX2 yX2_isPallet wsX2_isPallet) := goodIn_app (goodIn_of _ (by decide +kernel)) ggX2_isSound_X2_isPallet
set_option maxRecDepth 20000 in
theorem ggX2_isSound_X2_holds : GoodIn wsX2_isSound wsX2_holds := goodIn_r _ [13, 14, 39, 40, 41, 42, 43, 44, 45, 46, 47, 48, 49, 50, 51, 52, 53, 54, 55, 56, 57, 58, 59, 60] (by decide +kernel) (by decide +kernel)
set_option maxRecDepth 20000 in
theorem gX2_isSound_X2_holds : GoodIn wsX2_isSound (wsV RX2 101 RX2 yX2_holds wsX2_holds) := goodIn_app (goodIn_of _ (by decide +kernel)) ggX2_isSound_X2_holds
set_option maxRecDepth 20000 in
theorem ggX2_isSound_X2_sound : GoodIn wsX2_isSound wsX2_sound := goodIn_r _ [18, 19, 20, 21, 22, 23, 24, 4, 25, 26, 27, 28, 29, 30, 31, 32, 33, 34, 35, 36, 37, 38, 39, 40, 41, 42, 43, 44, 45, 46, 47, 48, 49, 50, 51, 52, 53, 54, 55, 56, 57, 58, 59, 60] (by decide +kernel) (by decide +kernel)
set_option maxRecDepth 20000 in
theorem gX2_isSound_X2_sound : GoodIn wsX2_isSound (wsV RX2 95 RX2 yX2_sound wsX2_sound) := goodIn_app (goodIn_of _ (by decide +kernel)) ggX2_isSound_X2_sound
theorem dX2_isSound_0 : decode cX2_isSound 0 = .ok (.aload_n 0, 1) := by decide +kernel
theorem dX2_isSound_1 : decode cX2_isSound 1 = .ok (.aload_n 0, 1) := by decide +kernel
theorem dX2_isSound_2 : decode cX2_isSound 2 = .ok (.iload_n 1, 1) := by decide +kernel
theorem dX2_isSound_3 : decode cX2_isSound 3 = .ok (.invokevirtual 79, 3) := by decide +kernel
theorem dX2_isSound_6 : decode cX2_isSound 6 = .ok (.ifCond .eq 7, 3) := by decide +kernel
theorem dX2_isSound_9 : decode cX2_isSound 9 = .ok (.iconst 0, 1) := by decide +kernel
theorem dX2_isSound_10 : decode cX2_isSound 10 = .ok (.goto 4, 3) := by decide +kernel
theorem dX2_isSound_13 : decode cX2_isSound 13 = .ok (.iconst 1, 1) := by decide +kernel
theorem dX2_isSound_14 : decode cX2_isSound 14 = .ok (.invokevirtual 101, 3) := by decide +kernel
theorem dX2_isSound_17 : decode cX2_isSound 17 = .ok (.ifCond .eq 15, 3) := by decide +kernel
theorem dX2_isSound_20 : decode cX2_isSound 20 = .ok (.aload_n 0, 1) := by decide +kernel
theorem dX2_isSound_21 : decode cX2_isSound 21 = .ok (.iload_n 1, 1) := by decide +kernel
theorem dX2_isSound_22 : decode cX2_isSound 22 = .ok (.invokevirtual 95, 3) := by decide +kernel
theorem dX2_isSound_25 : decode cX2_isSound 25 = .ok (.ifCond .eq 7, 3) := by decide +kernel
theorem dX2_isSound_28 : decode cX2_isSound 28 = .ok (.iconst 1, 1) := by decide +kernel
theorem dX2_isSound_29 : decode cX2_isSound 29 = .ok (.goto 4, 3) := by decide +kernel
theorem dX2_isSound_32 : decode cX2_isSound 32 = .ok (.iconst 0, 1) := by decide +kernel
theorem dX2_isSound_33 : decode cX2_isSound 33 = .ok (.ireturn, 1) := by decide +kernel
set_option maxRecDepth 20000 in
theorem ggX2_pallet_X2_isPallet : GoodIn wsX2_pallet wsX2_isPallet := goodIn_r _ [9, 10, 11, 12, 8, 13, 24, 25, 26, 27, 28, 29, 30, 31, 32, 33, 34, 35, 36, 37, 38, 39, 40, 41, 42, 43, 44, 45] (by decide +kernel) (by decide +kernel)
set_option maxRecDepth 20000 in
theorem gX2_pallet_X2_isPallet : GoodIn wsX2_pallet (wsV RX2 79 RX2 yX2_isPallet wsX2_isPallet) := goodIn_app (goodIn_of _ (by decide +kernel)) ggX2_pallet_X2_isPallet
set_option maxRecDepth 20000 in
theorem ggX2_pallet_X2_isIn : GoodIn wsX2_pallet wsX2_isIn := goodIn_r _ [13] (by decide +kernel) (by decide +kernel)
set_option maxRecDepth 20000 in
theorem gX2_pallet_X2_isIn : GoodIn wsX2_pallet (va_wsS RX2 75 yX2_isIn wsX2_isIn) := goodIn_app (goodIn_of _ (by decide +kernel)) ggX2_pallet_X2_isIn
set_option maxRecDepth 20000 in
theorem ggX2_pallet_X2_holds : GoodIn wsX2_pallet wsX2_holds := goodIn_r _ [17, 18, 24, 25, 26, 27, 28, 29, 30, 31, 32, 33, 34, 35, 36, 37, 38, 39, 40, 41, 42, 43, 44, 45] (by decide +kernel) (by decide +kernel)
set_option maxRecDepth 20000 in
theorem gX2_pallet_X2_holds : GoodIn wsX2_pallet (wsV RX2 101 RX2 yX2_holds wsX2_holds) := goodIn_app (goodIn_of _ (by decide +kernel)) ggX2_pallet_X2_holds
set_option maxRecDepth 20000 in
theorem ggX2_pallet_X2_weight : GoodIn wsX2_pallet wsX2_weight := goodIn_r _ [22, 23, 24, 25, 26, 27, 28, 29, 30, 31, 32, 33, 34, 35, 36, 37, 38, 39, 40, 41, 42, 43, 44, 45] (by decide +kernel) (by decide +kernel)
set_option maxRecDepth 20000 in
theorem gX2_pallet_X2_weight : GoodIn wsX2_pallet (wsV RX2 98 RX2 yX2_weight wsX2_weight) := goodIn_app (goodIn_of _ (by decide +kernel)) ggX2_pallet_X2_weight
theorem dX2_pallet_0 : decode cX2_pallet 0 = .ok (.aload_n 0, 1) := by decide +kernel
theorem dX2_pallet_1 : decode cX2_pallet 1 = .ok (.iload_n 1, 1) := by decide +kernel
theorem dX2_pallet_2 : decode cX2_pallet 2 = .ok (.invokevirtual 79, 3) := by decide +kernel
theorem dX2_pallet_5 : decode cX2_pallet 5 = .ok (.istore_n 3, 1) := by decide +kernel
theorem dX2_pallet_6 : decode cX2_pallet 6 = .ok (.aload_n 0, 1) := by decide +kernel
theorem dX2_pallet_7 : decode cX2_pallet 7 = .ok (.iload_n 3, 1) := by decide +kernel
theorem dX2_pallet_8 : decode cX2_pallet 8 = .ok (.ifCond .ne 7, 3) := by decide +kernel
theorem dX2_pallet_11 : decode cX2_pallet 11 = .ok (.iconst 1, 1) := by decide +kernel
theorem dX2_pallet_12 : decode cX2_pallet 12 = .ok (.goto 17, 3) := by decide +kernel
theorem dX2_pallet_15 : decode cX2_pallet 15 = .ok (.iload_n 2, 1) := by decide +kernel
theorem dX2_pallet_16 : decode cX2_pallet 16 = .ok (.iconst 0, 1) := by decide +kernel
theorem dX2_pallet_17 : decode cX2_pallet 17 = .ok (.iconst 4, 1) := by decide +kernel
theorem dX2_pallet_18 : decode cX2_pallet 18 = .ok (.invokestatic 75, 3) := by decide +kernel
theorem dX2_pallet_21 : decode cX2_pallet 21 = .ok (.ifCond .ne 7, 3) := by decide +kernel
theorem dX2_pallet_24 : decode cX2_pallet 24 = .ok (.iconst 2, 1) := by decide +kernel
theorem dX2_pallet_25 : decode cX2_pallet 25 = .ok (.goto 4, 3) := by decide +kernel
theorem dX2_pallet_28 : decode cX2_pallet 28 = .ok (.iconst 0, 1) := by decide +kernel
theorem dX2_pallet_29 : decode cX2_pallet 29 = .ok (.invokevirtual 101, 3) := by decide +kernel
theorem dX2_pallet_32 : decode cX2_pallet 32 = .ok (.ifCond .ne 5, 3) := by decide +kernel
theorem dX2_pallet_35 : decode cX2_pallet 35 = .ok (.iconst 0, 1) := by decide +kernel
theorem dX2_pallet_36 : decode cX2_pallet 36 = .ok (.ireturn, 1) := by decide +kernel
theorem dX2_pallet_37 : decode cX2_pallet 37 = .ok (.iload_n 2, 1) := by decide +kernel
theorem dX2_pallet_38 : decode cX2_pallet 38 = .ok (.ifCond .ne 12, 3) := by decide +kernel
theorem dX2_pallet_41 : decode cX2_pallet 41 = .ok (.aload_n 0, 1) := by decide +kernel
theorem dX2_pallet_42 : decode cX2_pallet 42 = .ok (.getfield 7, 3) := by decide +kernel
theorem dX2_pallet_45 : decode cX2_pallet 45 = .ok (.iload_n 1, 1) := by decide +kernel
theorem dX2_pallet_46 : decode cX2_pallet 46 = .ok (.iaload, 1) := by decide +kernel
theorem dX2_pallet_47 : decode cX2_pallet 47 = .ok (.goto 61, 3) := by decide +kernel
theorem dX2_pallet_50 : decode cX2_pallet 50 = .ok (.iload_n 2, 1) := by decide +kernel
theorem dX2_pallet_51 : decode cX2_pallet 51 = .ok (.iconst 1, 1) := by decide +kernel
theorem dX2_pallet_52 : decode cX2_pallet 52 = .ok (.if_icmp .ne 12, 3) := by decide +kernel
theorem dX2_pallet_55 : decode cX2_pallet 55 = .ok (.aload_n 0, 1) := by decide +kernel
theorem dX2_pallet_56 : decode cX2_pallet 56 = .ok (.getfield 16, 3) := by decide +kernel
theorem dX2_pallet_59 : decode cX2_pallet 59 = .ok (.iload_n 1, 1) := by decide +kernel
theorem dX2_pallet_60 : decode cX2_pallet 60 = .ok (.iaload, 1) := by decide +kernel
theorem dX2_pallet_61 : decode cX2_pallet 61 = .ok (.goto 47, 3) := by decide +kernel
theorem dX2_pallet_64 : decode cX2_pallet 64 = .ok (.iload_n 2, 1) := by decide +kernel
theorem dX2_pallet_65 : decode cX2_pallet 65 = .ok (.iconst 2, 1) := by decide +kernel
theorem dX2_pallet_66 : decode cX2_pallet 66 = .ok (.if_icmp .ne 11, 3) := by decide +kernel
theorem dX2_pallet_69 : decode cX2_pallet 69 = .ok (.aload_n 0, 1) := by decide +kernel
theorem dX2_pallet_70 : decode cX2_pallet 70 = .ok (.iload_n 1, 1) := by decide +kernel
theorem dX2_pallet_71 : decode cX2_pallet 71 = .ok (.invokevirtual 98, 3) := by decide +kernel
theorem dX2_pallet_74 : decode cX2_pallet 74 = .ok (.goto 34, 3) := by decide +kernel
theorem dX2_pallet_77 : decode cX2_pallet 77 = .ok (.iload_n 2, 1) := by decide +kernel
theorem dX2_pallet_78 : decode cX2_pallet 78 = .ok (.iconst 3, 1) := by decide +kernel
theorem dX2_pallet_79 : decode cX2_pallet 79 = .ok (.if_icmp .ne 15, 3) := by decide +kernel
theorem dX2_pallet_82 : decode cX2_pallet 82 = .ok (.aload_n 0, 1) := by decide +kernel
theorem dX2_pallet_83 : decode cX2_pallet 83 = .ok (.getfield 19, 3) := by decide +kernel
theorem dX2_pallet_86 : decode cX2_pallet 86 = .ok (.iload_n 1, 1) := by decide +kernel
theorem dX2_pallet_87 : decode cX2_pallet 87 = .ok (.baload, 1) := by decide +kernel
theorem dX2_pallet_88 : decode cX2_pallet 88 = .ok (.ifCond .eq 19, 3) := by decide +kernel
theorem dX2_pallet_91 : decode cX2_pallet 91 = .ok (.goto 12, 3) := by decide +kernel
theorem dX2_pallet_94 : decode cX2_pallet 94 = .ok (.aload_n 0, 1) := by decide +kernel
theorem dX2_pallet_95 : decode cX2_pallet 95 = .ok (.getfield 23, 3) := by decide +kernel
theorem dX2_pallet_98 : decode cX2_pallet 98 = .ok (.iload_n 1, 1) := by decide +kernel
theorem dX2_pallet_99 : decode cX2_pallet 99 = .ok (.baload, 1) := by decide +kernel
theorem dX2_pallet_100 : decode cX2_pallet 100 = .ok (.ifCond .eq 7, 3) := by decide +kernel
theorem dX2_pallet_103 : decode cX2_pallet 103 = .ok (.iconst 1, 1) := by decide +kernel
theorem dX2_pallet_104 : decode cX2_pallet 104 = .ok (.goto 4, 3) := by decide +kernel
theorem dX2_pallet_107 : decode cX2_pallet 107 = .ok (.iconst 0, 1) := by decide +kernel
theorem dX2_pallet_108 : decode cX2_pallet 108 = .ok (.ireturn, 1) := by decide +kernel
set_option maxRecDepth 20000 in
theorem ggX2_entry_X2_isEntry : GoodIn wsX2_entry wsX2_isEntry := goodIn_r _ [13, 14, 15, 16, 17, 12, 18, 19, 20, 21, 22, 28, 29, 30, 31, 32, 33, 34, 35, 36, 37, 38, 39, 40, 41, 42, 43, 44, 45, 46, 47, 48, 49] (by decide +kernel) (by decide +kernel)
set_option maxRecDepth 20000 in
theorem gX2_entry_X2_isEntry : GoodIn wsX2_entry (wsV RX2 129 RX2 yX2_isEntry wsX2_isEntry) := goodIn_app (goodIn_of _ (by decide +kernel)) ggX2_entry_X2_isEntry
set_option maxRecDepth 20000 in
theorem ggX2_entry_X2_isIn : GoodIn wsX2_entry wsX2_isIn := goodIn_r _ [22] (by decide +kernel) (by decide +kernel)
set_option maxRecDepth 20000 in
theorem gX2_entry_X2_isIn : GoodIn wsX2_entry (va_wsS RX2 75 yX2_isIn wsX2_isIn) := goodIn_app (goodIn_of _ (by decide +kernel)) ggX2_entry_X2_isIn
set_option maxRecDepth 20000 in
theorem ggX2_entry_X2_holds : GoodIn wsX2_entry wsX2_holds := goodIn_r _ [26, 27, 28, 29, 30, 31, 32, 33, 34, 35, 36, 37, 38, 39, 40, 41, 42, 43, 44, 45, 46, 47, 48, 49] (by decide +kernel) (by decide +kernel)
set_option maxRecDepth 20000 in
theorem gX2_entry_X2_holds : GoodIn wsX2_entry (wsV RX2 101 RX2 yX2_holds wsX2_holds) := goodIn_app (goodIn_of _ (by decide +kernel)) ggX2_entry_X2_holds
theorem dX2_entry_0 : decode cX2_entry 0 = .ok (.aload_n 0, 1) := by decide +kernel
theorem dX2_entry_1 : decode cX2_entry 1 = .ok (.iload_n 1, 1) := by decide +kernel
theorem dX2_entry_2 : decode cX2_entry 2 = .ok (.iload_n 2, 1) := by decide +kernel
theorem dX2_entry_3 : decode cX2_entry 3 = .ok (.invokevirtual 129, 3) := by decide +kernel
theorem dX2_entry_6 : decode cX2_entry 6 = .ok (.istore 4, 2) := by decide +kernel
theorem dX2_entry_8 : decode cX2_entry 8 = .ok (.aload_n 0, 1) := by decide +kernel
theorem dX2_entry_9 : decode cX2_entry 9 = .ok (.iload 4, 2) := by decide +kernel
theorem dX2_entry_11 : decode cX2_entry 11 = .ok (.ifCond .ne 7, 3) := by decide +kernel
theorem dX2_entry_14 : decode cX2_entry 14 = .ok (.iconst 1, 1) := by decide +kernel
theorem dX2_entry_15 : decode cX2_entry 15 = .ok (.goto 18, 3) := by decide +kernel
theorem dX2_entry_18 : decode cX2_entry 18 = .ok (.iload_n 3, 1) := by decide +kernel
theorem dX2_entry_19 : decode cX2_entry 19 = .ok (.iconst 0, 1) := by decide +kernel
theorem dX2_entry_20 : decode cX2_entry 20 = .ok (.bipush 7, 2) := by decide +kernel
theorem dX2_entry_22 : decode cX2_entry 22 = .ok (.invokestatic 75, 3) := by decide +kernel
theorem dX2_entry_25 : decode cX2_entry 25 = .ok (.ifCond .ne 7, 3) := by decide +kernel
theorem dX2_entry_28 : decode cX2_entry 28 = .ok (.iconst 2, 1) := by decide +kernel
theorem dX2_entry_29 : decode cX2_entry 29 = .ok (.goto 4, 3) := by decide +kernel
theorem dX2_entry_32 : decode cX2_entry 32 = .ok (.iconst 0, 1) := by decide +kernel
theorem dX2_entry_33 : decode cX2_entry 33 = .ok (.invokevirtual 101, 3) := by decide +kernel
theorem dX2_entry_36 : decode cX2_entry 36 = .ok (.ifCond .ne 5, 3) := by decide +kernel
theorem dX2_entry_39 : decode cX2_entry 39 = .ok (.iconst 0, 1) := by decide +kernel
theorem dX2_entry_40 : decode cX2_entry 40 = .ok (.ireturn, 1) := by decide +kernel
theorem dX2_entry_41 : decode cX2_entry 41 = .ok (.bipush 30, 2) := by decide +kernel
theorem dX2_entry_43 : decode cX2_entry 43 = .ok (.iload_n 1, 1) := by decide +kernel
theorem dX2_entry_44 : decode cX2_entry 44 = .ok (.imul, 1) := by decide +kernel
theorem dX2_entry_45 : decode cX2_entry 45 = .ok (.iload_n 2, 1) := by decide +kernel
theorem dX2_entry_46 : decode cX2_entry 46 = .ok (.iadd, 1) := by decide +kernel
theorem dX2_entry_47 : decode cX2_entry 47 = .ok (.istore 5, 2) := by decide +kernel
theorem dX2_entry_49 : decode cX2_entry 49 = .ok (.iload_n 3, 1) := by decide +kernel
theorem dX2_entry_50 : decode cX2_entry 50 = .ok (.tableswitch 98 0 6 #[42, 50, 58, 66, 74, 82, 90], 42) := by decide +kernel
theorem dX2_entry_92 : decode cX2_entry 92 = .ok (.aload_n 0, 1) := by decide +kernel
theorem dX2_entry_93 : decode cX2_entry 93 = .ok (.getfield 29, 3) := by decide +kernel
theorem dX2_entry_96 : decode cX2_entry 96 = .ok (.iload 5, 2) := by decide +kernel
theorem dX2_entry_98 : decode cX2_entry 98 = .ok (.iaload, 1) := by decide +kernel
theorem dX2_entry_99 : decode cX2_entry 99 = .ok (.ireturn, 1) := by decide +kernel
theorem dX2_entry_100 : decode cX2_entry 100 = .ok (.aload_n 0, 1) := by decide +kernel
theorem dX2_entry_101 : decode cX2_entry 101 = .ok (.getfield 32, 3) := by decide +kernel
theorem dX2_entry_104 : decode cX2_entry 104 = .ok (.iload 5, 2) := by decide +kernel
theorem dX2_entry_106 : decode cX2_entry 106 = .ok (.iaload, 1) := by decide +kernel
theorem dX2_entry_107 : decode cX2_entry 107 = .ok (.ireturn, 1) := by decide +kernel
theorem dX2_entry_108 : decode cX2_entry 108 = .ok (.aload_n 0, 1) := by decide +kernel
theorem dX2_entry_109 : decode cX2_entry 109 = .ok (.getfield 35, 3) := by decide +kernel
theorem dX2_entry_112 : decode cX2_entry 112 = .ok (.iload 5, 2) := by decide +kernel
theorem dX2_entry_114 : decode cX2_entry 114 = .ok (.iaload, 1) := by decide +kernel
theorem dX2_entry_115 : decode cX2_entry 115 = .ok (.ireturn, 1) := by decide +kernel
theorem dX2_entry_116 : decode cX2_entry 116 = .ok (.aload_n 0, 1) := by decide +kernel
theorem dX2_entry_117 : decode cX2_entry 117 = .ok (.getfield 38, 3) := by decide +kernel
theorem dX2_entry_120 : decode cX2_entry 120 = .ok (.iload 5, 2) := by decide +kernel
theorem dX2_entry_122 : decode cX2_entry 122 = .ok (.iaload, 1) := by decide +kernel
theorem dX2_entry_123 : decode cX2_entry 123 = .ok (.ireturn, 1) := by decide +kernel
theorem dX2_entry_124 : decode cX2_entry 124 = .ok (.aload_n 0, 1) := by decide +kernel
theorem dX2_entry_125 : decode cX2_entry 125 = .ok (.getfield 41, 3) := by decide +kernel
theorem dX2_entry_128 : decode cX2_entry 128 = .ok (.iload 5, 2) := by decide +kernel
theorem dX2_entry_130 : decode cX2_entry 130 = .ok (.iaload, 1) := by decide +kernel
theorem dX2_entry_131 : decode cX2_entry 131 = .ok (.ireturn, 1) := by decide +kernel
theorem dX2_entry_132 : decode cX2_entry 132 = .ok (.aload_n 0, 1) := by decide +kernel
theorem dX2_entry_133 : decode cX2_entry 133 = .ok (.getfield 44, 3) := by decide +kernel
theorem dX2_entry_136 : decode cX2_entry 136 = .ok (.iload 5, 2) := by decide +kernel
theorem dX2_entry_138 : decode cX2_entry 138 = .ok (.iaload, 1) := by decide +kernel
theorem dX2_entry_139 : decode cX2_entry 139 = .ok (.ireturn, 1) := by decide +kernel
theorem dX2_entry_140 : decode cX2_entry 140 = .ok (.aload_n 0, 1) := by decide +kernel
theorem dX2_entry_141 : decode cX2_entry 141 = .ok (.getfield 50, 3) := by decide +kernel
theorem dX2_entry_144 : decode cX2_entry 144 = .ok (.iload 5, 2) := by decide +kernel
theorem dX2_entry_146 : decode cX2_entry 146 = .ok (.iaload, 1) := by decide +kernel
theorem dX2_entry_147 : decode cX2_entry 147 = .ok (.ireturn, 1) := by decide +kernel
theorem dX2_entry_148 : decode cX2_entry 148 = .ok (.aload_n 0, 1) := by decide +kernel
theorem dX2_entry_149 : decode cX2_entry 149 = .ok (.getfield 53, 3) := by decide +kernel
theorem dX2_entry_152 : decode cX2_entry 152 = .ok (.iload 5, 2) := by decide +kernel
theorem dX2_entry_154 : decode cX2_entry 154 = .ok (.iaload, 1) := by decide +kernel
theorem dX2_entry_155 : decode cX2_entry 155 = .ok (.ireturn, 1) := by decide +kernel
set_option maxRecDepth 20000 in
theorem ggX2_contents_X2_isPallet : GoodIn wsX2_contents wsX2_isPallet := goodIn_r _ [6, 7, 8, 9, 5, 10, 19, 20, 21, 22, 23, 24, 25, 26, 27, 28, 29, 30, 31, 32, 33, 34, 35, 36, 37, 38, 39, 40] (by decide +kernel) (by decide +kernel)
set_option maxRecDepth 20000 in
theorem gX2_contents_X2_isPallet : GoodIn wsX2_contents (wsV RX2 79 RX2 yX2_isPallet wsX2_isPallet) := goodIn_app (goodIn_of _ (by decide +kernel)) ggX2_contents_X2_isPallet
set_option maxRecDepth 20000 in
theorem ggX2_contents_X2_isGood : GoodIn wsX2_contents wsX2_isGood := goodIn_r _ [13, 8, 9, 5, 10] (by decide +kernel) (by decide +kernel)
set_option maxRecDepth 20000 in
theorem gX2_contents_X2_isGood : GoodIn wsX2_contents (va_wsS RX2 117 yX2_isGood wsX2_isGood) := goodIn_app (goodIn_of _ (by decide +kernel)) ggX2_contents_X2_isGood
set_option maxRecDepth 20000 in
theorem ggX2_contents_X2_holds : GoodIn wsX2_contents wsX2_holds := goodIn_r _ [17, 18, 19, 20, 21, 22, 23, 24, 25, 26, 27, 28, 29, 30, 31, 32, 33, 34, 35, 36, 37, 38, 39, 40] (by decide +kernel) (by decide +kernel)
set_option maxRecDepth 20000 in
theorem gX2_contents_X2_holds : GoodIn wsX2_contents (wsV RX2 101 RX2 yX2_holds wsX2_holds) := goodIn_app (goodIn_of _ (by decide +kernel)) ggX2_contents_X2_holds
theorem dX2_contents_0 : decode cX2_contents 0 = .ok (.aload_n 0, 1) := by decide +kernel
theorem dX2_contents_1 : decode cX2_contents 1 = .ok (.aload_n 0, 1) := by decide +kernel
theorem dX2_contents_2 : decode cX2_contents 2 = .ok (.iload_n 1, 1) := by decide +kernel
theorem dX2_contents_3 : decode cX2_contents 3 = .ok (.invokevirtual 79, 3) := by decide +kernel
theorem dX2_contents_6 : decode cX2_contents 6 = .ok (.ifCond .eq 14, 3) := by decide +kernel
theorem dX2_contents_9 : decode cX2_contents 9 = .ok (.iload_n 2, 1) := by decide +kernel
theorem dX2_contents_10 : decode cX2_contents 10 = .ok (.invokestatic 117, 3) := by decide +kernel
theorem dX2_contents_13 : decode cX2_contents 13 = .ok (.ifCond .eq 7, 3) := by decide +kernel
theorem dX2_contents_16 : decode cX2_contents 16 = .ok (.iconst 0, 1) := by decide +kernel
theorem dX2_contents_17 : decode cX2_contents 17 = .ok (.goto 4, 3) := by decide +kernel
theorem dX2_contents_20 : decode cX2_contents 20 = .ok (.iconst 1, 1) := by decide +kernel
theorem dX2_contents_21 : decode cX2_contents 21 = .ok (.invokevirtual 101, 3) := by decide +kernel
theorem dX2_contents_24 : decode cX2_contents 24 = .ok (.ifCond .eq 17, 3) := by decide +kernel
theorem dX2_contents_27 : decode cX2_contents 27 = .ok (.aload_n 0, 1) := by decide +kernel
theorem dX2_contents_28 : decode cX2_contents 28 = .ok (.getfield 13, 3) := by decide +kernel
theorem dX2_contents_31 : decode cX2_contents 31 = .ok (.bipush 6, 2) := by decide +kernel
theorem dX2_contents_33 : decode cX2_contents 33 = .ok (.iload_n 1, 1) := by decide +kernel
theorem dX2_contents_34 : decode cX2_contents 34 = .ok (.imul, 1) := by decide +kernel
theorem dX2_contents_35 : decode cX2_contents 35 = .ok (.iload_n 2, 1) := by decide +kernel
theorem dX2_contents_36 : decode cX2_contents 36 = .ok (.iadd, 1) := by decide +kernel
theorem dX2_contents_37 : decode cX2_contents 37 = .ok (.iaload, 1) := by decide +kernel
theorem dX2_contents_38 : decode cX2_contents 38 = .ok (.goto 4, 3) := by decide +kernel
theorem dX2_contents_41 : decode cX2_contents 41 = .ok (.iconst 0, 1) := by decide +kernel
theorem dX2_contents_42 : decode cX2_contents 42 = .ok (.ireturn, 1) := by decide +kernel
theorem dX2_papers_0 : decode cX2_papers 0 = .ok (.iconst 0, 1) := by decide +kernel
theorem dX2_papers_1 : decode cX2_papers 1 = .ok (.istore_n 3, 1) := by decide +kernel
theorem dX2_papers_2 : decode cX2_papers 2 = .ok (.bipush 30, 2) := by decide +kernel
theorem dX2_papers_4 : decode cX2_papers 4 = .ok (.iload_n 1, 1) := by decide +kernel
theorem dX2_papers_5 : decode cX2_papers 5 = .ok (.imul, 1) := by decide +kernel
theorem dX2_papers_6 : decode cX2_papers 6 = .ok (.istore 4, 2) := by decide +kernel
theorem dX2_papers_8 : decode cX2_papers 8 = .ok (.iload 4, 2) := by decide +kernel
theorem dX2_papers_10 : decode cX2_papers 10 = .ok (.bipush 30, 2) := by decide +kernel
theorem dX2_papers_12 : decode cX2_papers 12 = .ok (.iload_n 1, 1) := by decide +kernel
theorem dX2_papers_13 : decode cX2_papers 13 = .ok (.imul, 1) := by decide +kernel
theorem dX2_papers_14 : decode cX2_papers 14 = .ok (.aload_n 0, 1) := by decide +kernel
theorem dX2_papers_15 : decode cX2_papers 15 = .ok (.getfield 16, 3) := by decide +kernel
theorem dX2_papers_18 : decode cX2_papers 18 = .ok (.iload_n 1, 1) := by decide +kernel
theorem dX2_papers_19 : decode cX2_papers 19 = .ok (.iaload, 1) := by decide +kernel
theorem dX2_papers_20 : decode cX2_papers 20 = .ok (.iadd, 1) := by decide +kernel
theorem dX2_papers_21 : decode cX2_papers 21 = .ok (.if_icmp .ge 122, 3) := by decide +kernel
theorem dX2_papers_24 : decode cX2_papers 24 = .ok (.aload_n 0, 1) := by decide +kernel
theorem dX2_papers_25 : decode cX2_papers 25 = .ok (.getfield 29, 3) := by decide +kernel
theorem dX2_papers_28 : decode cX2_papers 28 = .ok (.iload 4, 2) := by decide +kernel
theorem dX2_papers_30 : decode cX2_papers 30 = .ok (.iaload, 1) := by decide +kernel
theorem dX2_papers_31 : decode cX2_papers 31 = .ok (.iconst 1, 1) := by decide +kernel
theorem dX2_papers_32 : decode cX2_papers 32 = .ok (.if_icmp .eq 14, 3) := by decide +kernel
theorem dX2_papers_35 : decode cX2_papers 35 = .ok (.aload_n 0, 1) := by decide +kernel
theorem dX2_papers_36 : decode cX2_papers 36 = .ok (.getfield 29, 3) := by decide +kernel
theorem dX2_papers_39 : decode cX2_papers 39 = .ok (.iload 4, 2) := by decide +kernel
theorem dX2_papers_41 : decode cX2_papers 41 = .ok (.iaload, 1) := by decide +kernel
theorem dX2_papers_42 : decode cX2_papers 42 = .ok (.iconst 4, 1) := by decide +kernel
theorem dX2_papers_43 : decode cX2_papers 43 = .ok (.if_icmp .ne 7, 3) := by decide +kernel
theorem dX2_papers_46 : decode cX2_papers 46 = .ok (.iconst 1, 1) := by decide +kernel
theorem dX2_papers_47 : decode cX2_papers 47 = .ok (.goto 30, 3) := by decide +kernel
theorem dX2_papers_50 : decode cX2_papers 50 = .ok (.aload_n 0, 1) := by decide +kernel
theorem dX2_papers_51 : decode cX2_papers 51 = .ok (.getfield 29, 3) := by decide +kernel
theorem dX2_papers_54 : decode cX2_papers 54 = .ok (.iload 4, 2) := by decide +kernel
theorem dX2_papers_56 : decode cX2_papers 56 = .ok (.iaload, 1) := by decide +kernel
theorem dX2_papers_57 : decode cX2_papers 57 = .ok (.iconst 2, 1) := by decide +kernel
theorem dX2_papers_58 : decode cX2_papers 58 = .ok (.if_icmp .eq 14, 3) := by decide +kernel
theorem dX2_papers_61 : decode cX2_papers 61 = .ok (.aload_n 0, 1) := by decide +kernel
theorem dX2_papers_62 : decode cX2_papers 62 = .ok (.getfield 29, 3) := by decide +kernel
theorem dX2_papers_65 : decode cX2_papers 65 = .ok (.iload 4, 2) := by decide +kernel
theorem dX2_papers_67 : decode cX2_papers 67 = .ok (.iaload, 1) := by decide +kernel
theorem dX2_papers_68 : decode cX2_papers 68 = .ok (.iconst 3, 1) := by decide +kernel
theorem dX2_papers_69 : decode cX2_papers 69 = .ok (.if_icmp .ne 7, 3) := by decide +kernel
theorem dX2_papers_72 : decode cX2_papers 72 = .ok (.iconst (-1), 1) := by decide +kernel
theorem dX2_papers_73 : decode cX2_papers 73 = .ok (.goto 4, 3) := by decide +kernel
theorem dX2_papers_76 : decode cX2_papers 76 = .ok (.iconst 0, 1) := by decide +kernel
theorem dX2_papers_77 : decode cX2_papers 77 = .ok (.istore 5, 2) := by decide +kernel
theorem dX2_papers_79 : decode cX2_papers 79 = .ok (.iload_n 3, 1) := by decide +kernel
theorem dX2_papers_80 : decode cX2_papers 80 = .ok (.aload_n 0, 1) := by decide +kernel
theorem dX2_papers_81 : decode cX2_papers 81 = .ok (.getfield 35, 3) := by decide +kernel
theorem dX2_papers_84 : decode cX2_papers 84 = .ok (.iload 4, 2) := by decide +kernel
theorem dX2_papers_86 : decode cX2_papers 86 = .ok (.iaload, 1) := by decide +kernel
theorem dX2_papers_87 : decode cX2_papers 87 = .ok (.iload_n 2, 1) := by decide +kernel
theorem dX2_papers_88 : decode cX2_papers 88 = .ok (.if_icmp .ne 16, 3) := by decide +kernel
theorem dX2_papers_91 : decode cX2_papers 91 = .ok (.iload 5, 2) := by decide +kernel
theorem dX2_papers_93 : decode cX2_papers 93 = .ok (.aload_n 0, 1) := by decide +kernel
theorem dX2_papers_94 : decode cX2_papers 94 = .ok (.getfield 38, 3) := by decide +kernel
theorem dX2_papers_97 : decode cX2_papers 97 = .ok (.iload 4, 2) := by decide +kernel
theorem dX2_papers_99 : decode cX2_papers 99 = .ok (.iaload, 1) := by decide +kernel
theorem dX2_papers_100 : decode cX2_papers 100 = .ok (.imul, 1) := by decide +kernel
theorem dX2_papers_101 : decode cX2_papers 101 = .ok (.goto 4, 3) := by decide +kernel
theorem dX2_papers_104 : decode cX2_papers 104 = .ok (.iconst 0, 1) := by decide +kernel
theorem dX2_papers_105 : decode cX2_papers 105 = .ok (.iadd, 1) := by decide +kernel
theorem dX2_papers_106 : decode cX2_papers 106 = .ok (.istore_n 3, 1) := by decide +kernel
theorem dX2_papers_107 : decode cX2_papers 107 = .ok (.iload_n 3, 1) := by decide +kernel
theorem dX2_papers_108 : decode cX2_papers 108 = .ok (.aload_n 0, 1) := by decide +kernel
theorem dX2_papers_109 : decode cX2_papers 109 = .ok (.getfield 29, 3) := by decide +kernel
theorem dX2_papers_112 : decode cX2_papers 112 = .ok (.iload 4, 2) := by decide +kernel
theorem dX2_papers_114 : decode cX2_papers 114 = .ok (.iaload, 1) := by decide +kernel
theorem dX2_papers_115 : decode cX2_papers 115 = .ok (.iconst 5, 1) := by decide +kernel
theorem dX2_papers_116 : decode cX2_papers 116 = .ok (.if_icmp .ne 18, 3) := by decide +kernel
theorem dX2_papers_119 : decode cX2_papers 119 = .ok (.aload_n 0, 1) := by decide +kernel
theorem dX2_papers_120 : decode cX2_papers 120 = .ok (.getfield 65, 3) := by decide +kernel
theorem dX2_papers_123 : decode cX2_papers 123 = .ok (.aload_n 0, 1) := by decide +kernel
theorem dX2_papers_124 : decode cX2_papers 124 = .ok (.getfield 41, 3) := by decide +kernel
theorem dX2_papers_127 : decode cX2_papers 127 = .ok (.iload 4, 2) := by decide +kernel
theorem dX2_papers_129 : decode cX2_papers 129 = .ok (.iaload, 1) := by decide +kernel
theorem dX2_papers_130 : decode cX2_papers 130 = .ok (.iaload, 1) := by decide +kernel
theorem dX2_papers_131 : decode cX2_papers 131 = .ok (.goto 4, 3) := by decide +kernel
theorem dX2_papers_134 : decode cX2_papers 134 = .ok (.iconst 0, 1) := by decide +kernel
theorem dX2_papers_135 : decode cX2_papers 135 = .ok (.iadd, 1) := by decide +kernel
theorem dX2_papers_136 : decode cX2_papers 136 = .ok (.istore_n 3, 1) := by decide +kernel
theorem dX2_papers_137 : decode cX2_papers 137 = .ok (.iinc 4 1, 3) := by decide +kernel
theorem dX2_papers_140 : decode cX2_papers 140 = .ok (.goto (-132), 3) := by decide +kernel
theorem dX2_papers_143 : decode cX2_papers 143 = .ok (.iload_n 3, 1) := by decide +kernel
theorem dX2_papers_144 : decode cX2_papers 144 = .ok (.ireturn, 1) := by decide +kernel
set_option maxRecDepth 20000 in
theorem ggX2_tells_X2_papers : GoodIn wsX2_tells wsX2_papers := goodIn_r _ [8, 9, 10, 11, 12, 2, 13, 14, 15, 16, 17, 18, 19, 20, 21, 22, 23, 24, 25, 26, 27, 28, 29, 30, 31, 32, 33, 34, 35] (by decide +kernel) (by decide +kernel)
set_option maxRecDepth 20000 in
theorem gX2_tells_X2_papers : GoodIn wsX2_tells (wsV RX2 132 RX2 yX2_papers wsX2_papers) := goodIn_app (goodIn_of _ (by decide +kernel)) ggX2_tells_X2_papers
theorem dX2_tells_0 : decode cX2_tells 0 = .ok (.iconst 0, 1) := by decide +kernel
theorem dX2_tells_1 : decode cX2_tells 1 = .ok (.istore_n 2, 1) := by decide +kernel
theorem dX2_tells_2 : decode cX2_tells 2 = .ok (.iload_n 2, 1) := by decide +kernel
theorem dX2_tells_3 : decode cX2_tells 3 = .ok (.aload_n 0, 1) := by decide +kernel
theorem dX2_tells_4 : decode cX2_tells 4 = .ok (.getfield 126, 3) := by decide +kernel
theorem dX2_tells_7 : decode cX2_tells 7 = .ok (.if_icmp .ge 31, 3) := by decide +kernel
theorem dX2_tells_10 : decode cX2_tells 10 = .ok (.aload_n 0, 1) := by decide +kernel
theorem dX2_tells_11 : decode cX2_tells 11 = .ok (.getfield 65, 3) := by decide +kernel
theorem dX2_tells_14 : decode cX2_tells 14 = .ok (.aload_n 0, 1) := by decide +kernel
theorem dX2_tells_15 : decode cX2_tells 15 = .ok (.getfield 26, 3) := by decide +kernel
theorem dX2_tells_18 : decode cX2_tells 18 = .ok (.iload_n 2, 1) := by decide +kernel
theorem dX2_tells_19 : decode cX2_tells 19 = .ok (.iaload, 1) := by decide +kernel
theorem dX2_tells_20 : decode cX2_tells 20 = .ok (.aload_n 0, 1) := by decide +kernel
theorem dX2_tells_21 : decode cX2_tells 21 = .ok (.aload_n 0, 1) := by decide +kernel
theorem dX2_tells_22 : decode cX2_tells 22 = .ok (.getfield 26, 3) := by decide +kernel
theorem dX2_tells_25 : decode cX2_tells 25 = .ok (.iload_n 2, 1) := by decide +kernel
theorem dX2_tells_26 : decode cX2_tells 26 = .ok (.iaload, 1) := by decide +kernel
theorem dX2_tells_27 : decode cX2_tells 27 = .ok (.iload_n 1, 1) := by decide +kernel
theorem dX2_tells_28 : decode cX2_tells 28 = .ok (.invokevirtual 132, 3) := by decide +kernel
theorem dX2_tells_31 : decode cX2_tells 31 = .ok (.iastore, 1) := by decide +kernel
theorem dX2_tells_32 : decode cX2_tells 32 = .ok (.iinc 2 1, 3) := by decide +kernel
theorem dX2_tells_35 : decode cX2_tells 35 = .ok (.goto (-33), 3) := by decide +kernel
theorem dX2_tells_38 : decode cX2_tells 38 = .ok (.return_, 1) := by decide +kernel
set_option maxRecDepth 20000 in
theorem ggX2_anew_X2_tells : GoodIn wsX2_anew wsX2_tells := goodIn_r _ [6, 7, 8, 9, 10, 11, 12, 5, 13, 14, 15, 16, 17, 18, 19, 20, 21, 22, 23, 24, 25, 26, 27, 28, 29, 30, 31, 32, 33, 34, 35, 36, 37, 38, 39, 40] (by decide +kernel) (by decide +kernel)
set_option maxRecDepth 20000 in
theorem gX2_anew_X2_tells : GoodIn wsX2_anew (wsV RX2 135 RX2 yX2_tells wsX2_tells) := goodIn_app (goodIn_of _ (by decide +kernel)) ggX2_anew_X2_tells
set_option maxRecDepth 20000 in
theorem ggX2_anew_X2_papers : GoodIn wsX2_anew wsX2_papers := goodIn_r _ [13, 14, 15, 16, 17, 8, 18, 19, 20, 21, 22, 23, 24, 25, 26, 27, 28, 29, 30, 31, 32, 33, 34, 35, 36, 37, 38, 39, 40] (by decide +kernel) (by decide +kernel)
set_option maxRecDepth 20000 in
theorem gX2_anew_X2_papers : GoodIn wsX2_anew (wsV RX2 132 RX2 yX2_papers wsX2_papers) := goodIn_app (goodIn_of _ (by decide +kernel)) ggX2_anew_X2_papers
theorem dX2_anew_0 : decode cX2_anew 0 = .ok (.aload_n 0, 1) := by decide +kernel
theorem dX2_anew_1 : decode cX2_anew 1 = .ok (.iload_n 2, 1) := by decide +kernel
theorem dX2_anew_2 : decode cX2_anew 2 = .ok (.invokevirtual 135, 3) := by decide +kernel
theorem dX2_anew_5 : decode cX2_anew 5 = .ok (.aload_n 0, 1) := by decide +kernel
theorem dX2_anew_6 : decode cX2_anew 6 = .ok (.getfield 23, 3) := by decide +kernel
theorem dX2_anew_9 : decode cX2_anew 9 = .ok (.iload_n 1, 1) := by decide +kernel
theorem dX2_anew_10 : decode cX2_anew 10 = .ok (.baload, 1) := by decide +kernel
theorem dX2_anew_11 : decode cX2_anew 11 = .ok (.ifCond .eq 7, 3) := by decide +kernel
theorem dX2_anew_14 : decode cX2_anew 14 = .ok (.iconst 0, 1) := by decide +kernel
theorem dX2_anew_15 : decode cX2_anew 15 = .ok (.goto 9, 3) := by decide +kernel
theorem dX2_anew_18 : decode cX2_anew 18 = .ok (.aload_n 0, 1) := by decide +kernel
theorem dX2_anew_19 : decode cX2_anew 19 = .ok (.iload_n 1, 1) := by decide +kernel
theorem dX2_anew_20 : decode cX2_anew 20 = .ok (.iload_n 2, 1) := by decide +kernel
theorem dX2_anew_21 : decode cX2_anew 21 = .ok (.invokevirtual 132, 3) := by decide +kernel
theorem dX2_anew_24 : decode cX2_anew 24 = .ok (.ireturn, 1) := by decide +kernel
set_option maxRecDepth 20000 in
theorem ggX2_contentsAnew_X2_isPallet : GoodIn wsX2_contentsAnew wsX2_isPallet := goodIn_r _ [5, 6, 7, 8, 4, 9, 39, 40, 41, 42, 43, 44, 45, 46, 47, 48, 49, 50, 51, 52, 53, 54, 55, 56, 57, 58, 59, 60] (by decide +kernel) (by decide +kernel)
set_option maxRecDepth 20000 in
theorem gX2_contentsAnew_X2_isPallet : GoodIn wsX2_contentsAnew (wsV RX2 79 RX2 yX2_isPallet wsX2_isPallet) := goodIn_app (goodIn_of _ (by decide +kernel)) ggX2_contentsAnew_X2_isPallet
set_option maxRecDepth 20000 in
theorem ggX2_contentsAnew_X2_isGood : GoodIn wsX2_contentsAnew wsX2_isGood := goodIn_r _ [12, 7, 8, 4, 9] (by decide +kernel) (by decide +kernel)
set_option maxRecDepth 20000 in
theorem gX2_contentsAnew_X2_isGood : GoodIn wsX2_contentsAnew (va_wsS RX2 117 yX2_isGood wsX2_isGood) := goodIn_app (goodIn_of _ (by decide +kernel)) ggX2_contentsAnew_X2_isGood
set_option maxRecDepth 20000 in
theorem ggX2_contentsAnew_X2_holds : GoodIn wsX2_contentsAnew wsX2_holds := goodIn_r _ [16, 17, 39, 40, 41, 42, 43, 44, 45, 46, 47, 48, 49, 50, 51, 52, 53, 54, 55, 56, 57, 58, 59, 60] (by decide +kernel) (by decide +kernel)
set_option maxRecDepth 20000 in
theorem gX2_contentsAnew_X2_holds : GoodIn wsX2_contentsAnew (wsV RX2 101 RX2 yX2_holds wsX2_holds) := goodIn_app (goodIn_of _ (by decide +kernel)) ggX2_contentsAnew_X2_holds
set_option maxRecDepth 20000 in
theorem ggX2_contentsAnew_X2_anew : GoodIn wsX2_contentsAnew wsX2_anew := goodIn_r _ [21, 22, 23, 24, 25, 4, 26, 27, 28, 29, 30, 31, 32, 33, 34, 35, 36, 37, 38, 39, 40, 41, 42, 43, 44, 45, 46, 47, 48, 49, 50, 51, 52, 53, 54, 55, 56, 57, 58, 59, 60] (by decide +kernel) (by decide +kernel)
set_option maxRecDepth 20000 in
theorem gX2_contentsAnew_X2_anew : GoodIn wsX2_contentsAnew (wsV RX2 139 RX2 yX2_anew wsX2_anew) := goodIn_app (goodIn_of _ (by decide +kernel)) ggX2_contentsAnew_X2_anew
theorem dX2_contentsAnew_0 : decode cX2_contentsAnew 0 = .ok (.aload_n 0, 1) := by decide +kernel
theorem dX2_contentsAnew_1 : decode cX2_contentsAnew 1 = .ok (.aload_n 0, 1) := by decide +kernel
theorem dX2_contentsAnew_2 : decode cX2_contentsAnew 2 = .ok (.iload_n 1, 1) := by decide +kernel
theorem dX2_contentsAnew_3 : decode cX2_contentsAnew 3 = .ok (.invokevirtual 79, 3) := by decide +kernel
theorem dX2_contentsAnew_6 : decode cX2_contentsAnew 6 = .ok (.ifCond .eq 14, 3) := by decide +kernel
theorem dX2_contentsAnew_9 : decode cX2_contentsAnew 9 = .ok (.iload_n 2, 1) := by decide +kernel
theorem dX2_contentsAnew_10 : decode cX2_contentsAnew 10 = .ok (.invokestatic 117, 3) := by decide +kernel
theorem dX2_contentsAnew_13 : decode cX2_contentsAnew 13 = .ok (.ifCond .eq 7, 3) := by decide +kernel
theorem dX2_contentsAnew_16 : decode cX2_contentsAnew 16 = .ok (.iconst 0, 1) := by decide +kernel
theorem dX2_contentsAnew_17 : decode cX2_contentsAnew 17 = .ok (.goto 4, 3) := by decide +kernel
theorem dX2_contentsAnew_20 : decode cX2_contentsAnew 20 = .ok (.iconst 1, 1) := by decide +kernel
theorem dX2_contentsAnew_21 : decode cX2_contentsAnew 21 = .ok (.invokevirtual 101, 3) := by decide +kernel
theorem dX2_contentsAnew_24 : decode cX2_contentsAnew 24 = .ok (.ifCond .eq 12, 3) := by decide +kernel
theorem dX2_contentsAnew_27 : decode cX2_contentsAnew 27 = .ok (.aload_n 0, 1) := by decide +kernel
theorem dX2_contentsAnew_28 : decode cX2_contentsAnew 28 = .ok (.iload_n 1, 1) := by decide +kernel
theorem dX2_contentsAnew_29 : decode cX2_contentsAnew 29 = .ok (.iload_n 2, 1) := by decide +kernel
theorem dX2_contentsAnew_30 : decode cX2_contentsAnew 30 = .ok (.invokevirtual 139, 3) := by decide +kernel
theorem dX2_contentsAnew_33 : decode cX2_contentsAnew 33 = .ok (.goto 4, 3) := by decide +kernel
theorem dX2_contentsAnew_36 : decode cX2_contentsAnew 36 = .ok (.iconst 0, 1) := by decide +kernel
theorem dX2_contentsAnew_37 : decode cX2_contentsAnew 37 = .ok (.ireturn, 1) := by decide +kernel
set_option maxRecDepth 20000 in
theorem ggX2_isTruck_X2_isIn : GoodIn wsX2_isTruck wsX2_isIn := goodIn_r _ [4] (by decide +kernel) (by decide +kernel)
set_option maxRecDepth 20000 in
theorem gX2_isTruck_X2_isIn : GoodIn wsX2_isTruck (va_wsS RX2 75 yX2_isIn wsX2_isIn) := goodIn_app (goodIn_of _ (by decide +kernel)) ggX2_isTruck_X2_isIn
theorem dX2_isTruck_0 : decode cX2_isTruck 0 = .ok (.iload_n 0, 1) := by decide +kernel
theorem dX2_isTruck_1 : decode cX2_isTruck 1 = .ok (.iconst 4, 1) := by decide +kernel
theorem dX2_isTruck_2 : decode cX2_isTruck 2 = .ok (.iconst 5, 1) := by decide +kernel
theorem dX2_isTruck_3 : decode cX2_isTruck 3 = .ok (.invokestatic 75, 3) := by decide +kernel
theorem dX2_isTruck_6 : decode cX2_isTruck 6 = .ok (.ireturn, 1) := by decide +kernel
set_option maxRecDepth 20000 in
theorem ggX2_declare_X2_isTruck : GoodIn wsX2_declare wsX2_isTruck := goodIn_r _ [5, 6, 7, 4, 8] (by decide +kernel) (by decide +kernel)
set_option maxRecDepth 20000 in
theorem gX2_declare_X2_isTruck : GoodIn wsX2_declare (va_wsS RX2 142 yX2_isTruck wsX2_isTruck) := goodIn_app (goodIn_of _ (by decide +kernel)) ggX2_declare_X2_isTruck
set_option maxRecDepth 20000 in
theorem ggX2_declare_X2_isGood : GoodIn wsX2_declare wsX2_isGood := goodIn_r _ [11, 6, 7, 4, 8] (by decide +kernel) (by decide +kernel)
set_option maxRecDepth 20000 in
theorem gX2_declare_X2_isGood : GoodIn wsX2_declare (va_wsS RX2 117 yX2_isGood wsX2_isGood) := goodIn_app (goodIn_of _ (by decide +kernel)) ggX2_declare_X2_isGood
set_option maxRecDepth 20000 in
theorem ggX2_declare_X2_isIn : GoodIn wsX2_declare wsX2_isIn := goodIn_r _ [8] (by decide +kernel) (by decide +kernel)
set_option maxRecDepth 20000 in
theorem gX2_declare_X2_isIn : GoodIn wsX2_declare (va_wsS RX2 75 yX2_isIn wsX2_isIn) := goodIn_app (goodIn_of _ (by decide +kernel)) ggX2_declare_X2_isIn
set_option maxRecDepth 20000 in
theorem ggX2_declare_X2_holds : GoodIn wsX2_declare wsX2_holds := goodIn_r _ [15, 16, 17, 18, 19, 20, 21, 22, 23, 24, 25, 26, 27, 28, 29, 30, 31, 32, 33, 34, 35, 36, 37, 38] (by decide +kernel) (by decide +kernel)
set_option maxRecDepth 20000 in
theorem gX2_declare_X2_holds : GoodIn wsX2_declare (wsV RX2 101 RX2 yX2_holds wsX2_holds) := goodIn_app (goodIn_of _ (by decide +kernel)) ggX2_declare_X2_holds
theorem dX2_declare_0 : decode cX2_declare 0 = .ok (.iload_n 1, 1) := by decide +kernel
theorem dX2_declare_1 : decode cX2_declare 1 = .ok (.invokestatic 142, 3) := by decide +kernel
theorem dX2_declare_4 : decode cX2_declare 4 = .ok (.ifCond .eq 14, 3) := by decide +kernel
theorem dX2_declare_7 : decode cX2_declare 7 = .ok (.iload_n 2, 1) := by decide +kernel
theorem dX2_declare_8 : decode cX2_declare 8 = .ok (.invokestatic 117, 3) := by decide +kernel
theorem dX2_declare_11 : decode cX2_declare 11 = .ok (.ifCond .eq 7, 3) := by decide +kernel
theorem dX2_declare_14 : decode cX2_declare 14 = .ok (.iconst 1, 1) := by decide +kernel
theorem dX2_declare_15 : decode cX2_declare 15 = .ok (.goto 4, 3) := by decide +kernel
theorem dX2_declare_18 : decode cX2_declare 18 = .ok (.iconst 0, 1) := by decide +kernel
theorem dX2_declare_19 : decode cX2_declare 19 = .ok (.istore 4, 2) := by decide +kernel
theorem dX2_declare_21 : decode cX2_declare 21 = .ok (.aload_n 0, 1) := by decide +kernel
theorem dX2_declare_22 : decode cX2_declare 22 = .ok (.iload 4, 2) := by decide +kernel
theorem dX2_declare_24 : decode cX2_declare 24 = .ok (.ifCond .ne 7, 3) := by decide +kernel
theorem dX2_declare_27 : decode cX2_declare 27 = .ok (.iconst 1, 1) := by decide +kernel
theorem dX2_declare_28 : decode cX2_declare 28 = .ok (.goto 19, 3) := by decide +kernel
theorem dX2_declare_31 : decode cX2_declare 31 = .ok (.iload_n 3, 1) := by decide +kernel
theorem dX2_declare_32 : decode cX2_declare 32 = .ok (.iconst 0, 1) := by decide +kernel
theorem dX2_declare_33 : decode cX2_declare 33 = .ok (.sipush 9999, 3) := by decide +kernel
theorem dX2_declare_36 : decode cX2_declare 36 = .ok (.invokestatic 75, 3) := by decide +kernel
theorem dX2_declare_39 : decode cX2_declare 39 = .ok (.ifCond .ne 7, 3) := by decide +kernel
theorem dX2_declare_42 : decode cX2_declare 42 = .ok (.iconst 2, 1) := by decide +kernel
theorem dX2_declare_43 : decode cX2_declare 43 = .ok (.goto 4, 3) := by decide +kernel
theorem dX2_declare_46 : decode cX2_declare 46 = .ok (.iconst 0, 1) := by decide +kernel
theorem dX2_declare_47 : decode cX2_declare 47 = .ok (.invokevirtual 101, 3) := by decide +kernel
theorem dX2_declare_50 : decode cX2_declare 50 = .ok (.ifCond .ne 5, 3) := by decide +kernel
theorem dX2_declare_53 : decode cX2_declare 53 = .ok (.iconst 0, 1) := by decide +kernel
theorem dX2_declare_54 : decode cX2_declare 54 = .ok (.ireturn, 1) := by decide +kernel
theorem dX2_declare_55 : decode cX2_declare 55 = .ok (.bipush 6, 2) := by decide +kernel
theorem dX2_declare_57 : decode cX2_declare 57 = .ok (.iload_n 1, 1) := by decide +kernel
theorem dX2_declare_58 : decode cX2_declare 58 = .ok (.iconst 4, 1) := by decide +kernel
theorem dX2_declare_59 : decode cX2_declare 59 = .ok (.isub, 1) := by decide +kernel
theorem dX2_declare_60 : decode cX2_declare 60 = .ok (.imul, 1) := by decide +kernel
theorem dX2_declare_61 : decode cX2_declare 61 = .ok (.iload_n 2, 1) := by decide +kernel
theorem dX2_declare_62 : decode cX2_declare 62 = .ok (.iadd, 1) := by decide +kernel
theorem dX2_declare_63 : decode cX2_declare 63 = .ok (.istore 5, 2) := by decide +kernel
theorem dX2_declare_65 : decode cX2_declare 65 = .ok (.aload_n 0, 1) := by decide +kernel
theorem dX2_declare_66 : decode cX2_declare 66 = .ok (.getfield 56, 3) := by decide +kernel
theorem dX2_declare_69 : decode cX2_declare 69 = .ok (.iload 5, 2) := by decide +kernel
theorem dX2_declare_71 : decode cX2_declare 71 = .ok (.iaload, 1) := by decide +kernel
theorem dX2_declare_72 : decode cX2_declare 72 = .ok (.istore 6, 2) := by decide +kernel
theorem dX2_declare_74 : decode cX2_declare 74 = .ok (.aload_n 0, 1) := by decide +kernel
theorem dX2_declare_75 : decode cX2_declare 75 = .ok (.getfield 56, 3) := by decide +kernel
theorem dX2_declare_78 : decode cX2_declare 78 = .ok (.iload 5, 2) := by decide +kernel
theorem dX2_declare_80 : decode cX2_declare 80 = .ok (.iload_n 3, 1) := by decide +kernel
theorem dX2_declare_81 : decode cX2_declare 81 = .ok (.iastore, 1) := by decide +kernel
theorem dX2_declare_82 : decode cX2_declare 82 = .ok (.iload 6, 2) := by decide +kernel
theorem dX2_declare_84 : decode cX2_declare 84 = .ok (.ireturn, 1) := by decide +kernel
set_option maxRecDepth 20000 in
theorem ggX2_mismatchOf_X2_anew : GoodIn wsX2_mismatchOf wsX2_anew := goodIn_r _ [8, 9, 10, 11, 12, 7, 13, 14, 15, 16, 17, 18, 19, 20, 21, 22, 23, 24, 25, 26, 27, 28, 29, 30, 31, 32, 33, 34, 35, 36, 37, 38, 39, 40, 41, 42, 43, 44, 45, 46, 47] (by decide +kernel) (by decide +kernel)
set_option maxRecDepth 20000 in
theorem gX2_mismatchOf_X2_anew : GoodIn wsX2_mismatchOf (wsV RX2 139 RX2 yX2_anew wsX2_anew) := goodIn_app (goodIn_of _ (by decide +kernel)) ggX2_mismatchOf_X2_anew
theorem dX2_mismatchOf_0 : decode cX2_mismatchOf 0 = .ok (.iconst 0, 1) := by decide +kernel
theorem dX2_mismatchOf_1 : decode cX2_mismatchOf 1 = .ok (.istore_n 2, 1) := by decide +kernel
theorem dX2_mismatchOf_2 : decode cX2_mismatchOf 2 = .ok (.iconst 0, 1) := by decide +kernel
theorem dX2_mismatchOf_3 : decode cX2_mismatchOf 3 = .ok (.istore_n 3, 1) := by decide +kernel
theorem dX2_mismatchOf_4 : decode cX2_mismatchOf 4 = .ok (.iload_n 3, 1) := by decide +kernel
theorem dX2_mismatchOf_5 : decode cX2_mismatchOf 5 = .ok (.bipush 6, 2) := by decide +kernel
theorem dX2_mismatchOf_7 : decode cX2_mismatchOf 7 = .ok (.if_icmp .ge 85, 3) := by decide +kernel
theorem dX2_mismatchOf_10 : decode cX2_mismatchOf 10 = .ok (.aload_n 0, 1) := by decide +kernel
theorem dX2_mismatchOf_11 : decode cX2_mismatchOf 11 = .ok (.getfield 56, 3) := by decide +kernel
theorem dX2_mismatchOf_14 : decode cX2_mismatchOf 14 = .ok (.bipush 6, 2) := by decide +kernel
theorem dX2_mismatchOf_16 : decode cX2_mismatchOf 16 = .ok (.iload_n 1, 1) := by decide +kernel
theorem dX2_mismatchOf_17 : decode cX2_mismatchOf 17 = .ok (.iconst 4, 1) := by decide +kernel
theorem dX2_mismatchOf_18 : decode cX2_mismatchOf 18 = .ok (.isub, 1) := by decide +kernel
theorem dX2_mismatchOf_19 : decode cX2_mismatchOf 19 = .ok (.imul, 1) := by decide +kernel
theorem dX2_mismatchOf_20 : decode cX2_mismatchOf 20 = .ok (.iload_n 3, 1) := by decide +kernel
theorem dX2_mismatchOf_21 : decode cX2_mismatchOf 21 = .ok (.iadd, 1) := by decide +kernel
theorem dX2_mismatchOf_22 : decode cX2_mismatchOf 22 = .ok (.iaload, 1) := by decide +kernel
theorem dX2_mismatchOf_23 : decode cX2_mismatchOf 23 = .ok (.istore 4, 2) := by decide +kernel
theorem dX2_mismatchOf_25 : decode cX2_mismatchOf 25 = .ok (.iconst 0, 1) := by decide +kernel
theorem dX2_mismatchOf_26 : decode cX2_mismatchOf 26 = .ok (.istore 5, 2) := by decide +kernel
theorem dX2_mismatchOf_28 : decode cX2_mismatchOf 28 = .ok (.iload 5, 2) := by decide +kernel
theorem dX2_mismatchOf_30 : decode cX2_mismatchOf 30 = .ok (.aload_n 0, 1) := by decide +kernel
theorem dX2_mismatchOf_31 : decode cX2_mismatchOf 31 = .ok (.getfield 72, 3) := by decide +kernel
theorem dX2_mismatchOf_34 : decode cX2_mismatchOf 34 = .ok (.if_icmp .ge 36, 3) := by decide +kernel
theorem dX2_mismatchOf_37 : decode cX2_mismatchOf 37 = .ok (.iload 4, 2) := by decide +kernel
theorem dX2_mismatchOf_39 : decode cX2_mismatchOf 39 = .ok (.aload_n 0, 1) := by decide +kernel
theorem dX2_mismatchOf_40 : decode cX2_mismatchOf 40 = .ok (.getfield 7, 3) := by decide +kernel
theorem dX2_mismatchOf_43 : decode cX2_mismatchOf 43 = .ok (.iload 5, 2) := by decide +kernel
theorem dX2_mismatchOf_45 : decode cX2_mismatchOf 45 = .ok (.iaload, 1) := by decide +kernel
theorem dX2_mismatchOf_46 : decode cX2_mismatchOf 46 = .ok (.iload_n 1, 1) := by decide +kernel
theorem dX2_mismatchOf_47 : decode cX2_mismatchOf 47 = .ok (.if_icmp .ne 13, 3) := by decide +kernel
theorem dX2_mismatchOf_50 : decode cX2_mismatchOf 50 = .ok (.aload_n 0, 1) := by decide +kernel
theorem dX2_mismatchOf_51 : decode cX2_mismatchOf 51 = .ok (.iload 5, 2) := by decide +kernel
theorem dX2_mismatchOf_53 : decode cX2_mismatchOf 53 = .ok (.iload_n 3, 1) := by decide +kernel
theorem dX2_mismatchOf_54 : decode cX2_mismatchOf 54 = .ok (.invokevirtual 139, 3) := by decide +kernel
theorem dX2_mismatchOf_57 : decode cX2_mismatchOf 57 = .ok (.goto 4, 3) := by decide +kernel
theorem dX2_mismatchOf_60 : decode cX2_mismatchOf 60 = .ok (.iconst 0, 1) := by decide +kernel
theorem dX2_mismatchOf_61 : decode cX2_mismatchOf 61 = .ok (.isub, 1) := by decide +kernel
theorem dX2_mismatchOf_62 : decode cX2_mismatchOf 62 = .ok (.istore 4, 2) := by decide +kernel
theorem dX2_mismatchOf_64 : decode cX2_mismatchOf 64 = .ok (.iinc 5 1, 3) := by decide +kernel
theorem dX2_mismatchOf_67 : decode cX2_mismatchOf 67 = .ok (.goto (-39), 3) := by decide +kernel
theorem dX2_mismatchOf_70 : decode cX2_mismatchOf 70 = .ok (.iload_n 2, 1) := by decide +kernel
theorem dX2_mismatchOf_71 : decode cX2_mismatchOf 71 = .ok (.iload 4, 2) := by decide +kernel
theorem dX2_mismatchOf_73 : decode cX2_mismatchOf 73 = .ok (.ifCond .ge 9, 3) := by decide +kernel
theorem dX2_mismatchOf_76 : decode cX2_mismatchOf 76 = .ok (.iload 4, 2) := by decide +kernel
theorem dX2_mismatchOf_78 : decode cX2_mismatchOf 78 = .ok (.ineg, 1) := by decide +kernel
theorem dX2_mismatchOf_79 : decode cX2_mismatchOf 79 = .ok (.goto 5, 3) := by decide +kernel
theorem dX2_mismatchOf_82 : decode cX2_mismatchOf 82 = .ok (.iload 4, 2) := by decide +kernel
theorem dX2_mismatchOf_84 : decode cX2_mismatchOf 84 = .ok (.iadd, 1) := by decide +kernel
theorem dX2_mismatchOf_85 : decode cX2_mismatchOf 85 = .ok (.istore_n 2, 1) := by decide +kernel
theorem dX2_mismatchOf_86 : decode cX2_mismatchOf 86 = .ok (.iinc 3 1, 3) := by decide +kernel
theorem dX2_mismatchOf_89 : decode cX2_mismatchOf 89 = .ok (.goto (-85), 3) := by decide +kernel
theorem dX2_mismatchOf_92 : decode cX2_mismatchOf 92 = .ok (.iload_n 2, 1) := by decide +kernel
theorem dX2_mismatchOf_93 : decode cX2_mismatchOf 93 = .ok (.ireturn, 1) := by decide +kernel
set_option maxRecDepth 20000 in
theorem ggX2_mismatch_X2_isTruck : GoodIn wsX2_mismatch wsX2_isTruck := goodIn_r _ [4, 5, 6, 3, 7] (by decide +kernel) (by decide +kernel)
set_option maxRecDepth 20000 in
theorem gX2_mismatch_X2_isTruck : GoodIn wsX2_mismatch (va_wsS RX2 142 yX2_isTruck wsX2_isTruck) := goodIn_app (goodIn_of _ (by decide +kernel)) ggX2_mismatch_X2_isTruck
set_option maxRecDepth 20000 in
theorem ggX2_mismatch_X2_holds : GoodIn wsX2_mismatch wsX2_holds := goodIn_r _ [11, 12, 41, 42, 43, 44, 45, 46, 47, 48, 49, 50, 51, 52, 53, 54, 55, 56, 57, 58, 59, 60, 61, 62] (by decide +kernel) (by decide +kernel)
set_option maxRecDepth 20000 in
theorem gX2_mismatch_X2_holds : GoodIn wsX2_mismatch (wsV RX2 101 RX2 yX2_holds wsX2_holds) := goodIn_app (goodIn_of _ (by decide +kernel)) ggX2_mismatch_X2_holds
set_option maxRecDepth 20000 in
theorem ggX2_mismatch_X2_mismatchOf : GoodIn wsX2_mismatch wsX2_mismatchOf := goodIn_r _ [16, 17, 18, 19, 20, 21, 22, 3, 23, 24, 25, 26, 27, 28, 29, 30, 31, 32, 33, 34, 35, 36, 37, 38, 39, 40, 41, 42, 43, 44, 45, 46, 47, 48, 49, 50, 51, 52, 53, 54, 55, 56, 57, 58, 59, 60, 61, 62] (by decide +kernel) (by decide +kernel)
set_option maxRecDepth 20000 in
theorem gX2_mismatch_X2_mismatchOf : GoodIn wsX2_mismatch (wsV RX2 145 RX2 yX2_mismatchOf wsX2_mismatchOf) := goodIn_app (goodIn_of _ (by decide +kernel)) ggX2_mismatch_X2_mismatchOf
theorem dX2_mismatch_0 : decode cX2_mismatch 0 = .ok (.aload_n 0, 1) := by decide +kernel
theorem dX2_mismatch_1 : decode cX2_mismatch 1 = .ok (.iload_n 1, 1) := by decide +kernel
theorem dX2_mismatch_2 : decode cX2_mismatch 2 = .ok (.invokestatic 142, 3) := by decide +kernel
theorem dX2_mismatch_5 : decode cX2_mismatch 5 = .ok (.ifCond .eq 7, 3) := by decide +kernel
theorem dX2_mismatch_8 : decode cX2_mismatch 8 = .ok (.iconst 0, 1) := by decide +kernel
theorem dX2_mismatch_9 : decode cX2_mismatch 9 = .ok (.goto 4, 3) := by decide +kernel
theorem dX2_mismatch_12 : decode cX2_mismatch 12 = .ok (.iconst 1, 1) := by decide +kernel
theorem dX2_mismatch_13 : decode cX2_mismatch 13 = .ok (.invokevirtual 101, 3) := by decide +kernel
theorem dX2_mismatch_16 : decode cX2_mismatch 16 = .ok (.ifCond .eq 11, 3) := by decide +kernel
theorem dX2_mismatch_19 : decode cX2_mismatch 19 = .ok (.aload_n 0, 1) := by decide +kernel
theorem dX2_mismatch_20 : decode cX2_mismatch 20 = .ok (.iload_n 1, 1) := by decide +kernel
theorem dX2_mismatch_21 : decode cX2_mismatch 21 = .ok (.invokevirtual 145, 3) := by decide +kernel
theorem dX2_mismatch_24 : decode cX2_mismatch 24 = .ok (.goto 4, 3) := by decide +kernel
theorem dX2_mismatch_27 : decode cX2_mismatch 27 = .ok (.iconst 0, 1) := by decide +kernel
theorem dX2_mismatch_28 : decode cX2_mismatch 28 = .ok (.ireturn, 1) := by decide +kernel
set_option maxRecDepth 20000 in
theorem ggX2_fee_X2_isIn : GoodIn wsX2_fee wsX2_isIn := goodIn_r _ [5] (by decide +kernel) (by decide +kernel)
set_option maxRecDepth 20000 in
theorem gX2_fee_X2_isIn : GoodIn wsX2_fee (va_wsS RX2 75 yX2_isIn wsX2_isIn) := goodIn_app (goodIn_of _ (by decide +kernel)) ggX2_fee_X2_isIn
set_option maxRecDepth 20000 in
theorem ggX2_fee_X2_holds : GoodIn wsX2_fee wsX2_holds := goodIn_r _ [9, 10, 11, 12, 13, 14, 15, 16, 17, 18, 19, 20, 21, 22, 23, 24, 25, 26, 27, 28, 29, 30, 31, 32] (by decide +kernel) (by decide +kernel)
set_option maxRecDepth 20000 in
theorem gX2_fee_X2_holds : GoodIn wsX2_fee (wsV RX2 101 RX2 yX2_holds wsX2_holds) := goodIn_app (goodIn_of _ (by decide +kernel)) ggX2_fee_X2_holds
theorem dX2_fee_0 : decode cX2_fee 0 = .ok (.aload_n 0, 1) := by decide +kernel
theorem dX2_fee_1 : decode cX2_fee 1 = .ok (.iload_n 1, 1) := by decide +kernel
theorem dX2_fee_2 : decode cX2_fee 2 = .ok (.iconst 0, 1) := by decide +kernel
theorem dX2_fee_3 : decode cX2_fee 3 = .ok (.bipush 9, 2) := by decide +kernel
theorem dX2_fee_5 : decode cX2_fee 5 = .ok (.invokestatic 75, 3) := by decide +kernel
theorem dX2_fee_8 : decode cX2_fee 8 = .ok (.ifCond .eq 17, 3) := by decide +kernel
theorem dX2_fee_11 : decode cX2_fee 11 = .ok (.iload_n 2, 1) := by decide +kernel
theorem dX2_fee_12 : decode cX2_fee 12 = .ok (.iconst 0, 1) := by decide +kernel
theorem dX2_fee_13 : decode cX2_fee 13 = .ok (.bipush 99, 2) := by decide +kernel
theorem dX2_fee_15 : decode cX2_fee 15 = .ok (.invokestatic 75, 3) := by decide +kernel
theorem dX2_fee_18 : decode cX2_fee 18 = .ok (.ifCond .eq 7, 3) := by decide +kernel
theorem dX2_fee_21 : decode cX2_fee 21 = .ok (.iconst 0, 1) := by decide +kernel
theorem dX2_fee_22 : decode cX2_fee 22 = .ok (.goto 4, 3) := by decide +kernel
theorem dX2_fee_25 : decode cX2_fee 25 = .ok (.iconst 1, 1) := by decide +kernel
theorem dX2_fee_26 : decode cX2_fee 26 = .ok (.invokevirtual 101, 3) := by decide +kernel
theorem dX2_fee_29 : decode cX2_fee 29 = .ok (.ifCond .ne 5, 3) := by decide +kernel
theorem dX2_fee_32 : decode cX2_fee 32 = .ok (.iconst 0, 1) := by decide +kernel
theorem dX2_fee_33 : decode cX2_fee 33 = .ok (.ireturn, 1) := by decide +kernel
theorem dX2_fee_34 : decode cX2_fee 34 = .ok (.aload_n 0, 1) := by decide +kernel
theorem dX2_fee_35 : decode cX2_fee 35 = .ok (.getfield 59, 3) := by decide +kernel
theorem dX2_fee_38 : decode cX2_fee 38 = .ok (.iload_n 1, 1) := by decide +kernel
theorem dX2_fee_39 : decode cX2_fee 39 = .ok (.iaload, 1) := by decide +kernel
theorem dX2_fee_40 : decode cX2_fee 40 = .ok (.istore_n 3, 1) := by decide +kernel
theorem dX2_fee_41 : decode cX2_fee 41 = .ok (.aload_n 0, 1) := by decide +kernel
theorem dX2_fee_42 : decode cX2_fee 42 = .ok (.getfield 59, 3) := by decide +kernel
theorem dX2_fee_45 : decode cX2_fee 45 = .ok (.iload_n 1, 1) := by decide +kernel
theorem dX2_fee_46 : decode cX2_fee 46 = .ok (.iload_n 2, 1) := by decide +kernel
theorem dX2_fee_47 : decode cX2_fee 47 = .ok (.iastore, 1) := by decide +kernel
theorem dX2_fee_48 : decode cX2_fee 48 = .ok (.iload_n 3, 1) := by decide +kernel
theorem dX2_fee_49 : decode cX2_fee 49 = .ok (.ireturn, 1) := by decide +kernel
set_option maxRecDepth 20000 in
theorem ggX2_owed_X2_isIn : GoodIn wsX2_owed wsX2_isIn := goodIn_r _ [5] (by decide +kernel) (by decide +kernel)
set_option maxRecDepth 20000 in
theorem gX2_owed_X2_isIn : GoodIn wsX2_owed (va_wsS RX2 75 yX2_isIn wsX2_isIn) := goodIn_app (goodIn_of _ (by decide +kernel)) ggX2_owed_X2_isIn
set_option maxRecDepth 20000 in
theorem ggX2_owed_X2_holds : GoodIn wsX2_owed wsX2_holds := goodIn_r _ [9, 10, 11, 12, 13, 14, 15, 16, 17, 18, 19, 20, 21, 22, 23, 24, 25, 26, 27, 28, 29, 30, 31, 32] (by decide +kernel) (by decide +kernel)
set_option maxRecDepth 20000 in
theorem gX2_owed_X2_holds : GoodIn wsX2_owed (wsV RX2 101 RX2 yX2_holds wsX2_holds) := goodIn_app (goodIn_of _ (by decide +kernel)) ggX2_owed_X2_holds
theorem dX2_owed_0 : decode cX2_owed 0 = .ok (.aload_n 0, 1) := by decide +kernel
theorem dX2_owed_1 : decode cX2_owed 1 = .ok (.iload_n 1, 1) := by decide +kernel
theorem dX2_owed_2 : decode cX2_owed 2 = .ok (.iconst 0, 1) := by decide +kernel
theorem dX2_owed_3 : decode cX2_owed 3 = .ok (.bipush 6, 2) := by decide +kernel
theorem dX2_owed_5 : decode cX2_owed 5 = .ok (.invokestatic 75, 3) := by decide +kernel
theorem dX2_owed_8 : decode cX2_owed 8 = .ok (.ifCond .eq 7, 3) := by decide +kernel
theorem dX2_owed_11 : decode cX2_owed 11 = .ok (.iconst 0, 1) := by decide +kernel
theorem dX2_owed_12 : decode cX2_owed 12 = .ok (.goto 4, 3) := by decide +kernel
theorem dX2_owed_15 : decode cX2_owed 15 = .ok (.iconst 1, 1) := by decide +kernel
theorem dX2_owed_16 : decode cX2_owed 16 = .ok (.invokevirtual 101, 3) := by decide +kernel
theorem dX2_owed_19 : decode cX2_owed 19 = .ok (.ifCond .eq 12, 3) := by decide +kernel
theorem dX2_owed_22 : decode cX2_owed 22 = .ok (.aload_n 0, 1) := by decide +kernel
theorem dX2_owed_23 : decode cX2_owed 23 = .ok (.getfield 62, 3) := by decide +kernel
theorem dX2_owed_26 : decode cX2_owed 26 = .ok (.iload_n 1, 1) := by decide +kernel
theorem dX2_owed_27 : decode cX2_owed 27 = .ok (.iaload, 1) := by decide +kernel
theorem dX2_owed_28 : decode cX2_owed 28 = .ok (.goto 4, 3) := by decide +kernel
theorem dX2_owed_31 : decode cX2_owed 31 = .ok (.iconst 0, 1) := by decide +kernel
theorem dX2_owed_32 : decode cX2_owed 32 = .ok (.ireturn, 1) := by decide +kernel
end
section
set_option maxRecDepth 20000 in
theorem ggL_make_X1_make : GoodIn wsL_make wsX1_make := goodIn_ca (goodIn_ca (goodIn_r _ [7, 8, 9, 10, 6, 11, 12, 13, 14, 15, 16, 17, 18, 19, 20, 21, 22, 23, 24, 25, 26, 27, 28, 29, 30, 31, 32, 33, 34, 35, 36, 37, 38, 39, 40, 41, 42, 43, 44, 45, 46, 47, 48, 49, 50, 51, 52, 53, 54, 55, 56, 57, 58, 59, 60, 61, 62, 63, 64, 65] (by decide +kernel) (by decide +kernel)) (goodIn_sub (fun _ h => List.mem_cons_of_mem _ (List.mem_append_left _ (List.mem_append_right _ h))) (by decide +kernel))) (goodIn_sub (fun _ h => List.mem_cons_of_mem _ (List.mem_append_right _ h)) (by decide +kernel))
set_option maxRecDepth 20000 in
theorem gL_make_X1_make : GoodIn wsL_make (wsV RL 7 RX1 yX1_make wsX1_make) := goodIn_app (goodIn_of _ (by decide +kernel)) ggL_make_X1_make
set_option maxRecDepth 20000 in
theorem ggL_load_X1_load : GoodIn wsL_load wsX1_load := goodIn_ca (goodIn_ca (goodIn_ca (goodIn_r _ [8, 9, 10, 11, 12, 13, 7, 14, 15, 16, 17, 18, 19, 20, 21, 22, 23, 24, 25, 26, 27, 28, 29, 30, 31, 32, 33, 34, 35, 36, 37, 38, 39, 40, 41, 42, 43, 44, 45, 46, 47, 48, 49, 50, 51, 52, 53, 54, 55, 56, 57, 58, 59, 60, 61, 62, 63, 64, 65, 66, 67, 68, 69, 70, 71, 72, 73, 74, 75, 76, 77, 78, 79, 80, 81, 82, 83, 84, 85, 86, 87, 88, 89, 90, 91, 92, 93, 94, 95, 96, 97, 98, 99, 100, 101, 102, 103, 104, 105, 106, 107, 108, 109, 110, 111, 112, 113, 114, 115, 116, 117, 118, 119, 120, 121, 122, 123, 124, 125, 126, 127, 128, 129, 130, 131, 132, 133, 134, 135, 136, 137, 138, 139, 140] (by decide +kernel) (by decide +kernel)) (goodIn_sub (fun _ h => List.mem_cons_of_mem _ (List.mem_append_left _ (List.mem_append_left _ (List.mem_append_right _ h)))) (by decide +kernel))) (goodIn_sub (fun _ h => List.mem_cons_of_mem _ (List.mem_append_left _ (List.mem_append_right _ h))) (by decide +kernel))) (goodIn_sub (fun _ h => List.mem_cons_of_mem _ (List.mem_append_right _ h)) (by decide +kernel))
set_option maxRecDepth 20000 in
theorem gL_load_X1_load : GoodIn wsL_load (wsV RL 17 RX1 yX1_load wsX1_load) := goodIn_app (goodIn_of _ (by decide +kernel)) ggL_load_X1_load
set_option maxRecDepth 20000 in
theorem ggL_part_X1_part : GoodIn wsL_part wsX1_part := goodIn_ca (goodIn_ca (goodIn_ca (goodIn_r _ [8, 9, 10, 11, 12, 13, 14, 15, 7, 16, 17, 18, 19, 20, 21, 22, 23, 24, 25, 26, 27, 28, 29, 30, 31, 32, 33, 34, 35, 36, 37, 38, 39, 40, 41, 42, 43, 44, 45, 46, 47, 48, 49, 50, 51, 52, 53, 54, 55, 56, 57, 58, 59, 60, 61, 62, 63, 64, 65, 66, 67, 68, 69, 70, 71, 72, 73, 74, 75, 76, 77, 78, 79, 80, 81, 82, 83, 84, 85, 86, 87, 88, 89, 90, 91, 92, 93, 94, 95, 96, 97, 98, 99, 100, 101, 102, 103, 104, 105, 106, 107, 108, 109, 110, 111, 112, 113, 114, 115, 116, 117, 118, 119, 120, 121, 122, 123, 124, 125, 126, 127, 128, 129, 130, 131, 132, 133, 134] (by decide +kernel) (by decide +kernel)) (goodIn_sub (fun _ h => List.mem_cons_of_mem _ (List.mem_append_left _ (List.mem_append_left _ (List.mem_append_right _ h)))) (by decide +kernel))) (goodIn_sub (fun _ h => List.mem_cons_of_mem _ (List.mem_append_left _ (List.mem_append_right _ h))) (by decide +kernel))) (goodIn_sub (fun _ h => List.mem_cons_of_mem _ (List.mem_append_right _ h)) (by decide +kernel))
set_option maxRecDepth 20000 in
theorem gL_part_X1_part : GoodIn wsL_part (wsV RL 23 RX1 yX1_part wsX1_part) := goodIn_app (goodIn_of _ (by decide +kernel)) ggL_part_X1_part
set_option maxRecDepth 20000 in
theorem ggL_join_X1_join : GoodIn wsL_join wsX1_join := goodIn_ca (goodIn_ca (goodIn_ca (goodIn_r _ [8, 9, 10, 11, 12, 13, 14, 7, 15, 16, 17, 18, 19, 20, 21, 22, 23, 24, 25, 26, 27, 28, 29, 30, 31, 32, 33, 34, 35, 36, 37, 38, 39, 40, 41, 42, 43, 44, 45, 46, 47, 48, 49, 50, 51, 52, 53, 54, 55, 56, 57, 58, 59, 60, 61, 62, 63, 64, 65, 66, 67, 68, 69, 70, 71, 72, 73, 74, 75, 76, 77, 78, 79, 80, 81, 82, 83, 84, 85, 86, 87, 88, 89, 90, 91, 92, 93, 94, 95, 96, 97, 98, 99, 100, 101, 102, 103, 104, 105, 106, 107, 108, 109, 110, 111, 112, 113, 114, 115, 116, 117, 118, 119, 120, 121, 122, 123, 124, 125, 126, 127, 128] (by decide +kernel) (by decide +kernel)) (goodIn_sub (fun _ h => List.mem_cons_of_mem _ (List.mem_append_left _ (List.mem_append_left _ (List.mem_append_right _ h)))) (by decide +kernel))) (goodIn_sub (fun _ h => List.mem_cons_of_mem _ (List.mem_append_left _ (List.mem_append_right _ h))) (by decide +kernel))) (goodIn_sub (fun _ h => List.mem_cons_of_mem _ (List.mem_append_right _ h)) (by decide +kernel))
set_option maxRecDepth 20000 in
theorem gL_join_X1_join : GoodIn wsL_join (wsV RL 26 RX1 yX1_join wsX1_join) := goodIn_app (goodIn_of _ (by decide +kernel)) ggL_join_X1_join
set_option maxRecDepth 20000 in
theorem ggL_move_X1_move : GoodIn wsL_move wsX1_move := goodIn_ca (goodIn_ca (goodIn_r _ [7, 8, 9, 10, 11, 6, 12, 13, 14, 15, 16, 17, 18, 19, 20, 21, 22, 23, 24, 25, 26, 27, 28, 29, 30, 31, 32, 33, 34, 35, 36, 37, 38, 39, 40, 41, 42, 43, 44, 45, 46, 47, 48, 49, 50, 51, 52, 53, 54, 55, 56, 57, 58, 59, 60, 61, 62, 63, 64, 65, 66, 67, 68, 69, 70, 71, 72, 73, 74, 75, 76, 77, 78, 79, 80, 81, 82, 83, 84, 85, 86, 87, 88, 89, 90, 91, 92, 93, 94, 95, 96, 97, 98, 99, 100, 101, 102, 103, 104, 105, 106, 107, 108, 109, 110, 111, 112, 113, 114, 115, 116, 117, 118, 119, 120, 121, 122, 123, 124, 125, 126, 127, 128, 129, 130, 131] (by decide +kernel) (by decide +kernel)) (goodIn_sub (fun _ h => List.mem_cons_of_mem _ (List.mem_append_left _ (List.mem_append_right _ h))) (by decide +kernel))) (goodIn_sub (fun _ h => List.mem_cons_of_mem _ (List.mem_append_right _ h)) (by decide +kernel))
set_option maxRecDepth 20000 in
theorem gL_move_X1_move : GoodIn wsL_move (wsV RL 30 RX1 yX1_move wsX1_move) := goodIn_app (goodIn_of _ (by decide +kernel)) ggL_move_X1_move
set_option maxRecDepth 20000 in
theorem ggL_hold_X1_hold : GoodIn wsL_hold wsX1_hold := goodIn_ca (goodIn_ca (goodIn_r _ [7, 8, 9, 10, 11, 6, 12, 13, 14, 15, 16, 17, 18, 19, 20, 21, 22, 23, 24, 25, 26, 27, 28, 29, 30, 31, 32, 33, 34, 35, 36, 37, 38, 39, 40, 41, 42, 43, 44, 45, 46, 47, 48, 49, 50, 51, 52, 53, 54, 55, 56, 57, 58, 59, 60, 61, 62, 63, 64, 65, 66, 67, 68, 69, 70, 71, 72, 73, 74, 75, 76, 77, 78, 79, 80, 81, 82] (by decide +kernel) (by decide +kernel)) (goodIn_sub (fun _ h => List.mem_cons_of_mem _ (List.mem_append_left _ (List.mem_append_right _ h))) (by decide +kernel))) (goodIn_sub (fun _ h => List.mem_cons_of_mem _ (List.mem_append_right _ h)) (by decide +kernel))
set_option maxRecDepth 20000 in
theorem gL_hold_X1_hold : GoodIn wsL_hold (wsV RL 33 RX1 yX1_hold wsX1_hold) := goodIn_app (goodIn_of _ (by decide +kernel)) ggL_hold_X1_hold
set_option maxRecDepth 20000 in
theorem ggL_spoil_X1_spoil : GoodIn wsL_spoil wsX1_spoil := goodIn_ca (goodIn_ca (goodIn_r _ [7, 8, 9, 10, 11, 6, 12, 13, 14, 15, 16, 17, 18, 19, 20, 21, 22, 23, 24, 25, 26, 27, 28, 29, 30, 31, 32, 33, 34, 35, 36, 37, 38, 39, 40, 41, 42, 43, 44, 45, 46, 47, 48, 49, 50, 51, 52, 53, 54, 55, 56] (by decide +kernel) (by decide +kernel)) (goodIn_sub (fun _ h => List.mem_cons_of_mem _ (List.mem_append_left _ (List.mem_append_right _ h))) (by decide +kernel))) (goodIn_sub (fun _ h => List.mem_cons_of_mem _ (List.mem_append_right _ h)) (by decide +kernel))
set_option maxRecDepth 20000 in
theorem gL_spoil_X1_spoil : GoodIn wsL_spoil (wsV RL 37 RX1 yX1_spoil wsX1_spoil) := goodIn_app (goodIn_of _ (by decide +kernel)) ggL_spoil_X1_spoil
set_option maxRecDepth 20000 in
theorem ggL_lose_X1_lose : GoodIn wsL_lose wsX1_lose := goodIn_ca (goodIn_r _ [6, 7, 8, 9, 5, 10, 11, 12, 13, 14, 15, 16, 17, 18, 19, 20, 21, 22, 23, 24, 25, 26, 27, 28, 29, 30, 31, 32, 33, 34, 35] (by decide +kernel) (by decide +kernel)) (goodIn_sub (fun _ h => List.mem_cons_of_mem _ (List.mem_append_right _ h)) (by decide +kernel))
set_option maxRecDepth 20000 in
theorem gL_lose_X1_lose : GoodIn wsL_lose (wsV RL 40 RX1 yX1_lose wsX1_lose) := goodIn_app (goodIn_of _ (by decide +kernel)) ggL_lose_X1_lose
set_option maxRecDepth 20000 in
theorem ggL_repair_X1_repair : GoodIn wsL_repair wsX1_repair := goodIn_ca (goodIn_ca (goodIn_r _ [7, 8, 9, 10, 11, 12, 13, 6, 14, 15, 16, 17, 18, 19, 20, 21, 22, 23, 24, 25, 26, 27, 28, 29, 30, 31, 32, 33, 34, 35, 36, 37, 38, 39, 40, 41, 42, 43, 44, 45, 46, 47, 48, 49, 50, 51, 52, 53, 54, 55, 56, 57, 58, 59, 60, 61, 62, 63, 64, 65, 66, 67, 68, 69, 70, 71, 72, 73, 74, 75, 76, 77, 78, 79, 80] (by decide +kernel) (by decide +kernel)) (goodIn_sub (fun _ h => List.mem_cons_of_mem _ (List.mem_append_left _ (List.mem_append_right _ h))) (by decide +kernel))) (goodIn_sub (fun _ h => List.mem_cons_of_mem _ (List.mem_append_right _ h)) (by decide +kernel))
set_option maxRecDepth 20000 in
theorem gL_repair_X1_repair : GoodIn wsL_repair (wsV RL 43 RX1 yX1_repair wsX1_repair) := goodIn_app (goodIn_of _ (by decide +kernel)) ggL_repair_X1_repair
set_option maxRecDepth 20000 in
theorem ggL_broken_X1_broken : GoodIn wsL_broken wsX1_broken := goodIn_ca (goodIn_r _ [6, 7, 8, 9, 10, 5, 11, 12, 13, 14, 15, 16, 17, 18, 19, 20, 21, 22, 23, 24, 25, 26, 27, 28, 29, 30, 31, 32, 33, 34, 35, 36, 37, 38, 39, 40, 41, 42, 43, 44, 45, 46, 47, 48, 49, 50, 51, 52] (by decide +kernel) (by decide +kernel)) (goodIn_sub (fun _ h => List.mem_cons_of_mem _ (List.mem_append_right _ h)) (by decide +kernel))
set_option maxRecDepth 20000 in
theorem gL_broken_X1_broken : GoodIn wsL_broken (wsV RL 46 RX1 yX1_broken wsX1_broken) := goodIn_app (goodIn_of _ (by decide +kernel)) ggL_broken_X1_broken
set_option maxRecDepth 20000 in
theorem ggL_isSound_X1_isSound : GoodIn wsL_isSound wsX1_isSound := goodIn_ca (goodIn_r _ [6, 7, 8, 9, 5, 10, 11, 12, 13, 14, 15, 16, 17, 18, 19, 20, 21, 22, 23, 24, 25, 26, 27, 28, 29, 30, 31, 32, 33, 34, 35, 36, 37, 38, 39, 40, 41, 42, 43, 44, 45, 46, 47, 48, 49, 50, 51, 52, 53, 54, 55, 56, 57, 58, 59, 60, 61, 62, 63, 64, 65, 66, 67, 68, 69, 70, 71] (by decide +kernel) (by decide +kernel)) (goodIn_sub (fun _ h => List.mem_cons_of_mem _ (List.mem_append_right _ h)) (by decide +kernel))
set_option maxRecDepth 20000 in
theorem gL_isSound_X1_isSound : GoodIn wsL_isSound (wsV RL 49 RX1 yX1_isSound wsX1_isSound) := goodIn_app (goodIn_of _ (by decide +kernel)) ggL_isSound_X1_isSound
set_option maxRecDepth 20000 in
theorem ggL_pallet_X1_pallet : GoodIn wsL_pallet wsX1_pallet := goodIn_ca (goodIn_ca (goodIn_r _ [7, 8, 9, 10, 11, 12, 6, 13, 14, 15, 16, 17, 18, 19, 20, 21, 22, 23, 24, 25, 26, 27, 28, 29, 30, 31, 32, 33, 34, 35, 36, 37, 38, 39, 40, 41, 42, 43, 44, 45, 46, 47, 48, 49, 50, 51, 52, 53, 54, 55, 56, 57, 58, 59, 60, 61, 62, 63, 64, 65, 66, 67, 68, 69, 70, 71, 72, 73] (by decide +kernel) (by decide +kernel)) (goodIn_sub (fun _ h => List.mem_cons_of_mem _ (List.mem_append_left _ (List.mem_append_right _ h))) (by decide +kernel))) (goodIn_sub (fun _ h => List.mem_cons_of_mem _ (List.mem_append_right _ h)) (by decide +kernel))
set_option maxRecDepth 20000 in
theorem gL_pallet_X1_pallet : GoodIn wsL_pallet (wsV RL 52 RX1 yX1_pallet wsX1_pallet) := goodIn_app (goodIn_of _ (by decide +kernel)) ggL_pallet_X1_pallet
set_option maxRecDepth 20000 in
theorem ggL_entry_X1_entry : GoodIn wsL_entry wsX1_entry := goodIn_ca (goodIn_ca (goodIn_r _ [7, 8, 9, 10, 11, 6, 12, 13, 14, 15, 16, 17, 18, 19, 20, 21, 22, 23, 24, 25, 26, 27, 28, 29, 30, 31, 32, 33, 34, 35, 36, 37, 38, 39, 40, 41, 42, 43, 44, 45, 46, 47, 48, 49, 50, 51, 52, 53, 54, 55, 56, 57, 58, 59, 60, 61, 62] (by decide +kernel) (by decide +kernel)) (goodIn_sub (fun _ h => List.mem_cons_of_mem _ (List.mem_append_left _ (List.mem_append_right _ h))) (by decide +kernel))) (goodIn_sub (fun _ h => List.mem_cons_of_mem _ (List.mem_append_right _ h)) (by decide +kernel))
set_option maxRecDepth 20000 in
theorem gL_entry_X1_entry : GoodIn wsL_entry (wsV RL 55 RX1 yX1_entry wsX1_entry) := goodIn_app (goodIn_of _ (by decide +kernel)) ggL_entry_X1_entry
set_option maxRecDepth 20000 in
theorem ggL_contents_X1_contents : GoodIn wsL_contents wsX1_contents := goodIn_ca (goodIn_r _ [6, 7, 8, 9, 10, 5, 11, 12, 13, 14, 15, 16, 17, 18, 19, 20, 21, 22, 23, 24, 25, 26, 27] (by decide +kernel) (by decide +kernel)) (goodIn_sub (fun _ h => List.mem_cons_of_mem _ (List.mem_append_right _ h)) (by decide +kernel))
set_option maxRecDepth 20000 in
theorem gL_contents_X1_contents : GoodIn wsL_contents (wsV RL 58 RX1 yX1_contents wsX1_contents) := goodIn_app (goodIn_of _ (by decide +kernel)) ggL_contents_X1_contents
set_option maxRecDepth 20000 in
theorem ggL_contentsAnew_X1_contentsAnew : GoodIn wsL_contentsAnew wsX1_contentsAnew := goodIn_ca (goodIn_r _ [6, 7, 8, 9, 5, 10, 11, 12, 13, 14, 15, 16, 17, 18, 19, 20, 21, 22, 23, 24, 25, 26, 27, 28, 29, 30, 31, 32, 33, 34, 35, 36, 37, 38, 39, 40, 41, 42, 43, 44, 45, 46, 47, 48, 49, 50, 51, 52, 53, 54, 55, 56, 57, 58, 59, 60, 61, 62, 63, 64, 65, 66, 67, 68, 69, 70, 71, 72] (by decide +kernel) (by decide +kernel)) (goodIn_sub (fun _ h => List.mem_cons_of_mem _ (List.mem_append_right _ h)) (by decide +kernel))
set_option maxRecDepth 20000 in
theorem gL_contentsAnew_X1_contentsAnew : GoodIn wsL_contentsAnew (wsV RL 61 RX1 yX1_contentsAnew wsX1_contentsAnew) := goodIn_app (goodIn_of _ (by decide +kernel)) ggL_contentsAnew_X1_contentsAnew
set_option maxRecDepth 20000 in
theorem ggL_declare_X1_declare : GoodIn wsL_declare wsX1_declare := goodIn_ca (goodIn_ca (goodIn_r _ [7, 8, 9, 10, 6, 11, 12, 13, 14, 15, 16, 17, 18, 19, 20, 21, 22, 23, 24, 25, 26, 27, 28, 29, 30, 31, 32, 33, 34] (by decide +kernel) (by decide +kernel)) (goodIn_sub (fun _ h => List.mem_cons_of_mem _ (List.mem_append_left _ (List.mem_append_right _ h))) (by decide +kernel))) (goodIn_sub (fun _ h => List.mem_cons_of_mem _ (List.mem_append_right _ h)) (by decide +kernel))
set_option maxRecDepth 20000 in
theorem gL_declare_X1_declare : GoodIn wsL_declare (wsV RL 64 RX1 yX1_declare wsX1_declare) := goodIn_app (goodIn_of _ (by decide +kernel)) ggL_declare_X1_declare
set_option maxRecDepth 20000 in
theorem ggL_mismatch_X1_mismatch : GoodIn wsL_mismatch wsX1_mismatch := goodIn_ca (goodIn_r _ [6, 7, 8, 9, 10, 11, 12, 13, 5, 14, 15, 16, 17, 18, 19, 20, 21, 22, 23, 24, 25, 26, 27, 28, 29, 30, 31, 32, 33, 34, 35, 36, 37, 38, 39, 40, 41, 42, 43, 44, 45, 46, 47, 48, 49, 50, 51, 52, 53, 54, 55, 56, 57, 58, 59, 60, 61, 62, 63, 64, 65, 66, 67, 68, 69, 70, 71, 72, 73, 74, 75, 76, 77, 78] (by decide +kernel) (by decide +kernel)) (goodIn_sub (fun _ h => List.mem_cons_of_mem _ (List.mem_append_right _ h)) (by decide +kernel))
set_option maxRecDepth 20000 in
theorem gL_mismatch_X1_mismatch : GoodIn wsL_mismatch (wsV RL 67 RX1 yX1_mismatch wsX1_mismatch) := goodIn_app (goodIn_of _ (by decide +kernel)) ggL_mismatch_X1_mismatch
set_option maxRecDepth 20000 in
theorem ggL_fee_X1_fee : GoodIn wsL_fee wsX1_fee := goodIn_ca (goodIn_r _ [6, 7, 8, 9, 5, 10, 11, 12, 13, 14, 15, 16, 17, 18, 19, 20, 21, 22] (by decide +kernel) (by decide +kernel)) (goodIn_sub (fun _ h => List.mem_cons_of_mem _ (List.mem_append_right _ h)) (by decide +kernel))
set_option maxRecDepth 20000 in
theorem gL_fee_X1_fee : GoodIn wsL_fee (wsV RL 70 RX1 yX1_fee wsX1_fee) := goodIn_app (goodIn_of _ (by decide +kernel)) ggL_fee_X1_fee
set_option maxRecDepth 20000 in
theorem ggL_owed_X1_owed : GoodIn wsL_owed wsX1_owed := goodIn_ca (goodIn_r _ [6, 7, 8, 9, 5, 10, 11, 12, 13, 14, 15, 16, 17, 18, 19, 20, 21, 22] (by decide +kernel) (by decide +kernel)) (goodIn_sub (fun _ h => List.mem_cons_of_mem _ (List.mem_append_right _ h)) (by decide +kernel))
set_option maxRecDepth 20000 in
theorem gL_owed_X1_owed : GoodIn wsL_owed (wsV RL 73 RX1 yX1_owed wsX1_owed) := goodIn_app (goodIn_of _ (by decide +kernel)) ggL_owed_X1_owed
end
section
set_option maxRecDepth 20000 in
theorem ggL_law_X1_init : GoodIn wsL_law wsX1_init := goodIn_r _ [9, 10, 11, 12, 13, 14, 15, 16, 17, 18, 19, 20, 21, 22, 23, 24, 25, 26, 27, 28, 29, 30, 561, 562, 563, 564, 565, 532, 533, 534, 535, 536, 537, 538] (by decide +kernel) (by decide +kernel)
set_option maxRecDepth 20000 in
theorem gL_law_X1_init : GoodIn wsL_law (wsX1_init) := ggL_law_X1_init
set_option maxRecDepth 20000 in
theorem ggL_law_X2_init : GoodIn wsL_law wsX2_init := goodIn_r _ [33, 34, 11, 12, 17, 35, 36, 37, 38, 39, 40, 41, 42, 43, 44, 45, 46, 47, 48, 49, 50, 51, 52, 53, 54, 539, 540, 541, 542, 543, 544, 545, 546, 547, 548, 549, 550, 551, 552, 553, 554, 555, 556, 557, 558, 559, 560] (by decide +kernel) (by decide +kernel)
set_option maxRecDepth 20000 in
theorem gL_law_X2_init : GoodIn wsL_law (wsX2_init) := ggL_law_X2_init
set_option maxRecDepth 20000 in
theorem ggL_law_L_make : GoodIn wsL_law wsL_make := goodIn_ca (goodIn_ca (goodIn_r _ [58, 59, 60, 61, 62, 63, 2, 64, 65, 66, 67, 68, 69, 70, 71, 72, 73, 74, 75, 76, 77, 78, 79, 80, 81, 82, 18, 83, 84, 85, 86, 16, 22, 21, 87, 88, 89, 15, 90, 26, 27, 28, 29, 30, 91, 92, 93, 94, 95, 96, 97, 98, 99, 100, 532, 533, 534, 535, 536, 537, 538, 561, 562, 563, 564, 565] (by decide +kernel) (by decide +kernel)) (goodIn_sub (fun _ h => List.mem_append_left _ (List.mem_append_left _ (List.mem_append_right _ h))) (by decide +kernel))) (goodIn_sub (fun _ h => List.mem_append_left _ (List.mem_append_right _ h)) (by decide +kernel))
set_option maxRecDepth 20000 in
theorem gL_law_L_make : GoodIn wsL_law (va_wsS RL 80 yL_make wsL_make) := goodIn_app (goodIn_of _ (by decide +kernel)) ggL_law_L_make
set_option maxRecDepth 20000 in
theorem ggL_law_X2_make : GoodIn wsL_law wsX2_make := goodIn_r _ [104, 105, 106, 107, 5, 108, 109, 110, 111, 112, 113, 114, 115, 116, 117, 35, 118, 119, 120, 121, 37, 42, 43, 44, 45, 46, 47, 48, 49, 50, 53, 52, 122, 123, 124, 125, 539, 540, 541, 542, 543, 544, 545, 546, 547, 548, 549, 550, 551, 552, 553, 554, 555, 556, 557, 558, 559, 560] (by decide +kernel) (by decide +kernel)
set_option maxRecDepth 20000 in
theorem gL_law_X2_make : GoodIn wsL_law (wsV RL 85 RX2 yX2_make wsX2_make) := goodIn_app (goodIn_of _ (by decide +kernel)) ggL_law_X2_make
set_option maxRecDepth 20000 in
theorem ggL_law_X2_thrown : GoodIn wsL_law wsX2_thrown := goodIn_r _ [129, 113, 539, 540, 541, 542, 543, 544, 545, 546, 547, 548, 549, 550, 551, 552, 553, 554, 555, 556, 557, 558, 559, 560] (by decide +kernel) (by decide +kernel)
set_option maxRecDepth 20000 in
theorem gL_law_X2_thrown : GoodIn wsL_law (wsV RL 86 RX2 yX2_thrown wsX2_thrown) := goodIn_app (goodIn_of _ (by decide +kernel)) ggL_law_X2_thrown
set_option maxRecDepth 20000 in
theorem ggL_law_L_load : GoodIn wsL_law wsL_load := goodIn_ca (goodIn_ca (goodIn_ca (goodIn_r _ [132, 59, 133, 60, 134, 135, 136, 2, 137, 19, 18, 138, 139, 140, 141, 65, 142, 143, 144, 69, 70, 71, 72, 73, 145, 146, 147, 148, 149, 150, 151, 152, 153, 154, 155, 156, 16, 157, 158, 159, 160, 161, 162, 163, 15, 164, 26, 165, 166, 167, 168, 27, 91, 92, 93, 169, 170, 171, 172, 173, 174, 175, 176, 177, 178, 179, 180, 181, 182, 183, 184, 185, 186, 187, 188, 189, 190, 191, 192, 193, 194, 195, 196, 197, 198, 199, 200, 201, 202, 203, 28, 94, 95, 96, 97, 204, 205, 206, 207, 208, 209, 210, 66, 67, 68, 211, 212, 213, 214, 74, 75, 76, 77, 78, 83, 84, 85, 86, 22, 21, 87, 88, 89, 90, 29, 30, 98, 99, 100, 532, 533, 534, 535, 536, 537, 538, 561, 562, 563, 564, 565] (by decide +kernel) (by decide +kernel)) (goodIn_sub (fun _ h => List.mem_append_left _ (List.mem_append_left _ (List.mem_append_right _ h))) (by decide +kernel))) (goodIn_sub (fun _ h => List.mem_append_right _ h) (by decide +kernel))) (goodIn_sub (fun _ h => List.mem_append_left _ (List.mem_append_right _ h)) (by decide +kernel))
set_option maxRecDepth 20000 in
theorem gL_law_L_load : GoodIn wsL_law (va_wsS RL 90 yL_load wsL_load) := goodIn_app (goodIn_of _ (by decide +kernel)) ggL_law_L_load
set_option maxRecDepth 20000 in
theorem ggL_law_X2_load : GoodIn wsL_law wsX2_load := goodIn_r _ [218, 36, 219, 220, 221, 5, 222, 105, 106, 107, 108, 223, 224, 225, 226, 227, 228, 229, 35, 230, 231, 232, 233, 39, 40, 37, 234, 235, 236, 237, 42, 46, 238, 239, 240, 241, 242, 243, 244, 245, 49, 122, 123, 124, 125, 43, 44, 45, 47, 246, 247, 248, 249, 250, 251, 252, 253, 109, 110, 111, 112, 113, 118, 119, 120, 121, 48, 50, 53, 52, 539, 540, 541, 542, 543, 544, 545, 546, 547, 548, 549, 550, 551, 552, 553, 554, 555, 556, 557, 558, 559, 560] (by decide +kernel) (by decide +kernel)
set_option maxRecDepth 20000 in
theorem gL_law_X2_load : GoodIn wsL_law (wsV RL 93 RX2 yX2_load wsX2_load) := goodIn_app (goodIn_of _ (by decide +kernel)) ggL_law_X2_load
set_option maxRecDepth 20000 in
theorem ggL_law_L_part : GoodIn wsL_law wsL_part := goodIn_ca (goodIn_ca (goodIn_ca (goodIn_r _ [256, 59, 133, 60, 257, 258, 259, 2, 260, 19, 65, 18, 16, 138, 139, 140, 141, 142, 143, 144, 69, 70, 71, 72, 73, 145, 146, 147, 148, 149, 150, 151, 152, 153, 154, 155, 156, 157, 158, 159, 160, 161, 162, 163, 15, 164, 26, 165, 166, 167, 168, 27, 91, 92, 93, 169, 170, 171, 172, 173, 174, 175, 176, 177, 178, 179, 180, 181, 182, 183, 184, 185, 186, 187, 188, 189, 190, 191, 192, 193, 194, 195, 196, 197, 198, 199, 200, 201, 202, 203, 28, 94, 95, 96, 97, 74, 75, 76, 77, 78, 79, 80, 81, 82, 261, 262, 263, 264, 83, 84, 85, 86, 22, 21, 87, 88, 89, 90, 29, 30, 98, 99, 100, 532, 533, 534, 535, 536, 537, 538, 561, 562, 563, 564, 565] (by decide +kernel) (by decide +kernel)) (goodIn_sub (fun _ h => List.mem_append_left _ (List.mem_append_left _ (List.mem_append_right _ h))) (by decide +kernel))) (goodIn_sub (fun _ h => List.mem_append_right _ h) (by decide +kernel))) (goodIn_sub (fun _ h => List.mem_append_left _ (List.mem_append_right _ h)) (by decide +kernel))
set_option maxRecDepth 20000 in
theorem gL_law_L_part : GoodIn wsL_law (va_wsS RL 94 yL_part wsL_part) := goodIn_app (goodIn_of _ (by decide +kernel)) ggL_law_L_part
set_option maxRecDepth 20000 in
theorem ggL_law_X2_part : GoodIn wsL_law wsX2_part := goodIn_r _ [268, 36, 105, 35, 37, 219, 220, 221, 5, 222, 106, 107, 108, 223, 224, 225, 230, 231, 232, 233, 39, 40, 234, 235, 236, 237, 42, 46, 238, 239, 240, 241, 242, 243, 244, 245, 49, 122, 123, 124, 125, 43, 44, 45, 47, 109, 110, 111, 112, 113, 114, 115, 116, 117, 118, 119, 120, 121, 48, 50, 53, 52, 539, 540, 541, 542, 543, 544, 545, 546, 547, 548, 549, 550, 551, 552, 553, 554, 555, 556, 557, 558, 559, 560] (by decide +kernel) (by decide +kernel)
set_option maxRecDepth 20000 in
theorem gL_law_X2_part : GoodIn wsL_law (wsV RL 96 RX2 yX2_part wsX2_part) := goodIn_app (goodIn_of _ (by decide +kernel)) ggL_law_X2_part
set_option maxRecDepth 20000 in
theorem ggL_law_L_join : GoodIn wsL_law wsL_join := goodIn_ca (goodIn_ca (goodIn_ca (goodIn_r _ [271, 59, 133, 60, 272, 273, 274, 2, 275, 18, 19, 16, 138, 139, 140, 141, 65, 69, 70, 71, 72, 73, 148, 149, 150, 151, 152, 153, 154, 155, 156, 157, 158, 159, 160, 161, 162, 163, 15, 164, 26, 165, 166, 167, 168, 27, 91, 92, 93, 169, 170, 171, 172, 173, 174, 175, 176, 177, 178, 179, 180, 181, 182, 183, 184, 185, 186, 187, 188, 189, 190, 191, 192, 193, 194, 195, 196, 197, 198, 199, 200, 201, 202, 203, 28, 94, 95, 96, 97, 276, 277, 278, 279, 74, 75, 76, 77, 78, 261, 262, 263, 264, 83, 84, 85, 86, 22, 21, 87, 88, 89, 90, 29, 30, 98, 99, 100, 532, 533, 534, 535, 536, 537, 538, 561, 562, 563, 564, 565] (by decide +kernel) (by decide +kernel)) (goodIn_sub (fun _ h => List.mem_append_left _ (List.mem_append_left _ (List.mem_append_right _ h))) (by decide +kernel))) (goodIn_sub (fun _ h => List.mem_append_right _ h) (by decide +kernel))) (goodIn_sub (fun _ h => List.mem_append_left _ (List.mem_append_right _ h)) (by decide +kernel))
set_option maxRecDepth 20000 in
theorem gL_law_L_join : GoodIn wsL_law (va_wsS RL 97 yL_join wsL_join) := goodIn_app (goodIn_of _ (by decide +kernel)) ggL_law_L_join
set_option maxRecDepth 20000 in
theorem ggL_law_X2_join : GoodIn wsL_law wsX2_join := goodIn_r _ [283, 36, 37, 40, 41, 284, 219, 220, 221, 5, 222, 105, 106, 107, 108, 285, 286, 287, 288, 35, 230, 231, 232, 233, 39, 234, 235, 236, 237, 42, 46, 238, 239, 240, 241, 242, 243, 244, 245, 49, 122, 123, 124, 125, 43, 44, 45, 47, 109, 110, 111, 112, 113, 118, 119, 120, 121, 48, 50, 53, 52, 539, 540, 541, 542, 543, 544, 545, 546, 547, 548, 549, 550, 551, 552, 553, 554, 555, 556, 557, 558, 559, 560] (by decide +kernel) (by decide +kernel)
set_option maxRecDepth 20000 in
theorem gL_law_X2_join : GoodIn wsL_law (wsV RL 100 RX2 yX2_join wsX2_join) := goodIn_app (goodIn_of _ (by decide +kernel)) ggL_law_X2_join
set_option maxRecDepth 20000 in
theorem ggL_law_L_move : GoodIn wsL_law wsL_move := goodIn_ca (goodIn_ca (goodIn_r _ [291, 59, 60, 292, 293, 294, 2, 295, 18, 138, 139, 140, 141, 65, 296, 297, 298, 69, 70, 71, 72, 73, 211, 212, 213, 214, 19, 204, 205, 206, 153, 154, 155, 156, 16, 157, 158, 159, 160, 161, 162, 163, 15, 164, 26, 165, 166, 167, 168, 27, 91, 92, 93, 169, 170, 171, 172, 173, 174, 175, 176, 177, 178, 179, 180, 181, 182, 183, 184, 185, 186, 187, 188, 189, 190, 191, 192, 193, 194, 195, 196, 197, 198, 199, 200, 201, 202, 203, 28, 94, 95, 96, 97, 66, 67, 68, 207, 208, 209, 210, 74, 75, 76, 77, 78, 83, 84, 85, 86, 22, 21, 87, 88, 89, 90, 29, 30, 98, 99, 100, 532, 533, 534, 535, 536, 537, 538, 561, 562, 563, 564, 565] (by decide +kernel) (by decide +kernel)) (goodIn_sub (fun _ h => List.mem_append_left _ (List.mem_append_left _ (List.mem_append_right _ h))) (by decide +kernel))) (goodIn_sub (fun _ h => List.mem_append_left _ (List.mem_append_right _ h)) (by decide +kernel))
set_option maxRecDepth 20000 in
theorem gL_law_L_move : GoodIn wsL_law (va_wsS RL 101 yL_move wsL_move) := goodIn_app (goodIn_of _ (by decide +kernel)) ggL_law_L_move
set_option maxRecDepth 20000 in
theorem ggL_law_X2_move : GoodIn wsL_law wsX2_move := goodIn_r _ [302, 35, 219, 220, 221, 5, 222, 105, 106, 107, 108, 230, 231, 232, 233, 39, 40, 37, 234, 235, 236, 237, 42, 46, 238, 239, 240, 241, 242, 243, 244, 245, 49, 122, 123, 124, 125, 43, 44, 45, 47, 250, 251, 252, 253, 36, 246, 247, 248, 249, 109, 110, 111, 112, 113, 118, 119, 120, 121, 48, 50, 53, 52, 539, 540, 541, 542, 543, 544, 545, 546, 547, 548, 549, 550, 551, 552, 553, 554, 555, 556, 557, 558, 559, 560] (by decide +kernel) (by decide +kernel)
set_option maxRecDepth 20000 in
theorem gL_law_X2_move : GoodIn wsL_law (wsV RL 103 RX2 yX2_move wsX2_move) := goodIn_app (goodIn_of _ (by decide +kernel)) ggL_law_X2_move
set_option maxRecDepth 20000 in
theorem ggL_law_L_hold : GoodIn wsL_law wsL_hold := goodIn_ca (goodIn_ca (goodIn_r _ [305, 59, 60, 306, 307, 308, 2, 309, 16, 138, 139, 140, 141, 65, 69, 70, 71, 72, 73, 169, 170, 171, 172, 161, 162, 163, 15, 164, 26, 165, 166, 167, 168, 27, 91, 92, 93, 173, 174, 175, 176, 74, 75, 76, 77, 78, 157, 158, 159, 160, 83, 84, 85, 86, 18, 22, 21, 87, 88, 89, 90, 28, 29, 30, 94, 95, 96, 97, 98, 99, 100, 532, 533, 534, 535, 536, 537, 538, 561, 562, 563, 564, 565] (by decide +kernel) (by decide +kernel)) (goodIn_sub (fun _ h => List.mem_append_left _ (List.mem_append_left _ (List.mem_append_right _ h))) (by decide +kernel))) (goodIn_sub (fun _ h => List.mem_append_left _ (List.mem_append_right _ h)) (by decide +kernel))
set_option maxRecDepth 20000 in
theorem gL_law_L_hold : GoodIn wsL_law (va_wsS RL 104 yL_hold wsL_hold) := goodIn_app (goodIn_of _ (by decide +kernel)) ggL_law_L_hold
set_option maxRecDepth 20000 in
theorem ggL_law_X2_hold : GoodIn wsL_law wsX2_hold := goodIn_r _ [313, 40, 37, 39, 219, 220, 221, 5, 222, 105, 106, 107, 108, 109, 110, 111, 112, 113, 118, 119, 120, 121, 35, 42, 43, 44, 45, 46, 47, 48, 49, 50, 53, 52, 122, 123, 124, 125, 539, 540, 541, 542, 543, 544, 545, 546, 547, 548, 549, 550, 551, 552, 553, 554, 555, 556, 557, 558, 559, 560] (by decide +kernel) (by decide +kernel)
set_option maxRecDepth 20000 in
theorem gL_law_X2_hold : GoodIn wsL_law (wsV RL 106 RX2 yX2_hold wsX2_hold) := goodIn_app (goodIn_of _ (by decide +kernel)) ggL_law_X2_hold
set_option maxRecDepth 20000 in
theorem ggL_law_L_spoil : GoodIn wsL_law wsL_spoil := goodIn_ca (goodIn_ca (goodIn_r _ [316, 59, 133, 317, 318, 319, 2, 320, 16, 138, 139, 140, 141, 65, 321, 322, 323, 15, 324, 26, 69, 70, 71, 72, 73, 145, 146, 147, 148, 149, 150, 151, 152, 325, 166, 167, 168, 27, 91, 92, 93, 326, 327, 328, 329, 532, 533, 534, 535, 536, 537, 538, 561, 562, 563, 564, 565] (by decide +kernel) (by decide +kernel)) (goodIn_sub (fun _ h => List.mem_append_left _ (List.mem_append_left _ (List.mem_append_right _ h))) (by decide +kernel))) (goodIn_sub (fun _ h => List.mem_append_right _ h) (by decide +kernel))
set_option maxRecDepth 20000 in
theorem gL_law_L_spoil : GoodIn wsL_law (va_wsS RL 107 yL_spoil wsL_spoil) := goodIn_app (goodIn_of _ (by decide +kernel)) ggL_law_L_spoil
set_option maxRecDepth 20000 in
theorem ggL_law_X2_spoil : GoodIn wsL_law wsX2_spoil := goodIn_r _ [333, 45, 334, 335, 336, 5, 337, 37, 219, 220, 221, 222, 105, 106, 107, 108, 109, 110, 111, 112, 113, 539, 540, 541, 542, 543, 544, 545, 546, 547, 548, 549, 550, 551, 552, 553, 554, 555, 556, 557, 558, 559, 560] (by decide +kernel) (by decide +kernel)
set_option maxRecDepth 20000 in
theorem gL_law_X2_spoil : GoodIn wsL_law (wsV RL 109 RX2 yX2_spoil wsX2_spoil) := goodIn_app (goodIn_of _ (by decide +kernel)) ggL_law_X2_spoil
set_option maxRecDepth 20000 in
theorem ggL_law_L_lose : GoodIn wsL_law wsL_lose := goodIn_ca (goodIn_r _ [340, 59, 341, 342, 343, 2, 344, 16, 345, 346, 347, 69, 70, 71, 72, 73, 348, 349, 350, 15, 351, 29, 185, 186, 532, 533, 534, 535, 536, 537, 538, 561, 562, 563, 564, 565] (by decide +kernel) (by decide +kernel)) (goodIn_sub (fun _ h => List.mem_append_left _ (List.mem_append_left _ (List.mem_append_right _ h))) (by decide +kernel))
set_option maxRecDepth 20000 in
theorem gL_law_L_lose : GoodIn wsL_law (va_wsS RL 110 yL_lose wsL_lose) := goodIn_app (goodIn_of _ (by decide +kernel)) ggL_law_L_lose
set_option maxRecDepth 20000 in
theorem ggL_law_X2_lose : GoodIn wsL_law wsX2_lose := goodIn_r _ [355, 105, 50, 106, 107, 5, 108, 109, 110, 111, 112, 113, 539, 540, 541, 542, 543, 544, 545, 546, 547, 548, 549, 550, 551, 552, 553, 554, 555, 556, 557, 558, 559, 560] (by decide +kernel) (by decide +kernel)
set_option maxRecDepth 20000 in
theorem gL_law_X2_lose : GoodIn wsL_law (wsV RL 112 RX2 yX2_lose wsX2_lose) := goodIn_app (goodIn_of _ (by decide +kernel)) ggL_law_X2_lose
set_option maxRecDepth 20000 in
theorem ggL_law_L_repair : GoodIn wsL_law wsL_repair := goodIn_ca (goodIn_ca (goodIn_r _ [358, 59, 60, 359, 360, 361, 2, 362, 16, 22, 18, 138, 139, 140, 141, 65, 321, 322, 323, 15, 324, 26, 69, 70, 71, 72, 73, 363, 364, 365, 366, 29, 91, 92, 93, 367, 368, 369, 191, 185, 186, 370, 197, 198, 199, 200, 201, 202, 203, 28, 94, 95, 96, 97, 27, 74, 75, 76, 77, 78, 371, 372, 373, 374, 30, 375, 327, 328, 329, 532, 533, 534, 535, 536, 537, 538, 561, 562, 563, 564, 565] (by decide +kernel) (by decide +kernel)) (goodIn_sub (fun _ h => List.mem_append_left _ (List.mem_append_left _ (List.mem_append_right _ h))) (by decide +kernel))) (goodIn_sub (fun _ h => List.mem_append_left _ (List.mem_append_right _ h)) (by decide +kernel))
set_option maxRecDepth 20000 in
theorem gL_law_L_repair : GoodIn wsL_law (va_wsS RL 113 yL_repair wsL_repair) := goodIn_app (goodIn_of _ (by decide +kernel)) ggL_law_L_repair
set_option maxRecDepth 20000 in
theorem ggL_law_X2_repair : GoodIn wsL_law wsX2_repair := goodIn_r _ [379, 50, 45, 48, 53, 35, 334, 335, 336, 5, 337, 37, 219, 220, 221, 222, 105, 106, 107, 108, 242, 243, 244, 245, 49, 122, 123, 124, 125, 42, 43, 44, 46, 47, 109, 110, 111, 112, 113, 539, 540, 541, 542, 543, 544, 545, 546, 547, 548, 549, 550, 551, 552, 553, 554, 555, 556, 557, 558, 559, 560] (by decide +kernel) (by decide +kernel)
set_option maxRecDepth 20000 in
theorem gL_law_X2_repair : GoodIn wsL_law (wsV RL 115 RX2 yX2_repair wsX2_repair) := goodIn_app (goodIn_of _ (by decide +kernel)) ggL_law_X2_repair
set_option maxRecDepth 20000 in
theorem ggL_law_L_broken : GoodIn wsL_law wsL_broken := goodIn_ca (goodIn_r _ [382, 59, 383, 384, 385, 2, 386, 16, 138, 139, 140, 141, 65, 69, 70, 71, 72, 73, 192, 193, 194, 15, 195, 26, 196, 197, 198, 199, 200, 201, 202, 203, 28, 91, 92, 93, 94, 95, 96, 97, 27, 532, 533, 534, 535, 536, 537, 538, 561, 562, 563, 564, 565] (by decide +kernel) (by decide +kernel)) (goodIn_sub (fun _ h => List.mem_append_left _ (List.mem_append_left _ (List.mem_append_right _ h))) (by decide +kernel))
set_option maxRecDepth 20000 in
theorem gL_law_L_broken : GoodIn wsL_law (va_wsS RL 116 yL_broken wsL_broken) := goodIn_app (goodIn_of _ (by decide +kernel)) ggL_law_L_broken
set_option maxRecDepth 20000 in
theorem ggL_law_X2_broken : GoodIn wsL_law wsX2_broken := goodIn_r _ [390, 219, 220, 221, 5, 222, 105, 106, 107, 108, 109, 110, 111, 112, 113, 238, 239, 240, 241, 37, 242, 243, 244, 245, 49, 122, 123, 124, 125, 42, 43, 44, 45, 46, 47, 539, 540, 541, 542, 543, 544, 545, 546, 547, 548, 549, 550, 551, 552, 553, 554, 555, 556, 557, 558, 559, 560] (by decide +kernel) (by decide +kernel)
set_option maxRecDepth 20000 in
theorem gL_law_X2_broken : GoodIn wsL_law (wsV RL 118 RX2 yX2_broken wsX2_broken) := goodIn_app (goodIn_of _ (by decide +kernel)) ggL_law_X2_broken
set_option maxRecDepth 20000 in
theorem ggL_law_L_isSound : GoodIn wsL_law wsL_isSound := goodIn_ca (goodIn_r _ [393, 59, 394, 395, 396, 2, 397, 138, 139, 140, 141, 65, 69, 70, 71, 72, 73, 177, 178, 179, 180, 16, 181, 182, 183, 15, 184, 185, 186, 187, 188, 189, 190, 26, 165, 166, 167, 168, 27, 91, 92, 93, 191, 192, 193, 194, 195, 196, 197, 198, 199, 200, 201, 202, 203, 28, 94, 95, 96, 97, 532, 533, 534, 535, 536, 537, 538, 561, 562, 563, 564, 565] (by decide +kernel) (by decide +kernel)) (goodIn_sub (fun _ h => List.mem_append_left _ (List.mem_append_left _ (List.mem_append_right _ h))) (by decide +kernel))
set_option maxRecDepth 20000 in
theorem gL_law_L_isSound : GoodIn wsL_law (va_wsS RL 119 yL_isSound wsL_isSound) := goodIn_app (goodIn_of _ (by decide +kernel)) ggL_law_L_isSound
set_option maxRecDepth 20000 in
theorem ggL_law_X2_isSound : GoodIn wsL_law wsX2_isSound := goodIn_r _ [401, 219, 220, 221, 5, 222, 105, 106, 107, 108, 109, 110, 111, 112, 113, 234, 235, 236, 237, 37, 42, 46, 238, 239, 240, 241, 242, 243, 244, 245, 49, 122, 123, 124, 125, 43, 44, 45, 47, 539, 540, 541, 542, 543, 544, 545, 546, 547, 548, 549, 550, 551, 552, 553, 554, 555, 556, 557, 558, 559, 560] (by decide +kernel) (by decide +kernel)
set_option maxRecDepth 20000 in
theorem gL_law_X2_isSound : GoodIn wsL_law (wsV RL 121 RX2 yX2_isSound wsX2_isSound) := goodIn_app (goodIn_of _ (by decide +kernel)) ggL_law_X2_isSound
set_option maxRecDepth 20000 in
theorem ggL_law_L_pallet : GoodIn wsL_law wsL_pallet := goodIn_ca (goodIn_ca (goodIn_r _ [404, 59, 133, 405, 406, 407, 2, 408, 18, 16, 138, 139, 140, 141, 65, 69, 70, 71, 72, 73, 145, 146, 147, 148, 149, 150, 151, 152, 261, 262, 263, 15, 264, 26, 211, 212, 213, 214, 19, 204, 205, 206, 157, 158, 159, 160, 161, 162, 163, 164, 165, 166, 167, 168, 27, 91, 92, 93, 169, 170, 171, 172, 532, 533, 534, 535, 536, 537, 538, 561, 562, 563, 564, 565] (by decide +kernel) (by decide +kernel)) (goodIn_sub (fun _ h => List.mem_append_left _ (List.mem_append_left _ (List.mem_append_right _ h))) (by decide +kernel))) (goodIn_sub (fun _ h => List.mem_append_right _ h) (by decide +kernel))
set_option maxRecDepth 20000 in
theorem gL_law_L_pallet : GoodIn wsL_law (va_wsS RL 122 yL_pallet wsL_pallet) := goodIn_app (goodIn_of _ (by decide +kernel)) ggL_law_L_pallet
set_option maxRecDepth 20000 in
theorem ggL_law_X2_pallet : GoodIn wsL_law wsX2_pallet := goodIn_r _ [412, 35, 37, 39, 40, 219, 220, 221, 5, 222, 105, 106, 107, 108, 109, 110, 111, 112, 113, 250, 251, 252, 253, 36, 539, 540, 541, 542, 543, 544, 545, 546, 547, 548, 549, 550, 551, 552, 553, 554, 555, 556, 557, 558, 559, 560] (by decide +kernel) (by decide +kernel)
set_option maxRecDepth 20000 in
theorem gL_law_X2_pallet : GoodIn wsL_law (wsV RL 124 RX2 yX2_pallet wsX2_pallet) := goodIn_app (goodIn_of _ (by decide +kernel)) ggL_law_X2_pallet
set_option maxRecDepth 20000 in
theorem ggL_law_L_entry : GoodIn wsL_law wsL_entry := goodIn_ca (goodIn_ca (goodIn_r _ [415, 59, 133, 416, 417, 418, 2, 419, 16, 138, 139, 140, 141, 65, 321, 322, 323, 15, 324, 26, 69, 70, 71, 72, 73, 145, 146, 147, 148, 149, 150, 151, 152, 325, 166, 167, 168, 27, 91, 92, 93, 420, 201, 202, 203, 28, 363, 364, 365, 366, 29, 532, 533, 534, 535, 536, 537, 538, 561, 562, 563, 564, 565] (by decide +kernel) (by decide +kernel)) (goodIn_sub (fun _ h => List.mem_append_left _ (List.mem_append_left _ (List.mem_append_right _ h))) (by decide +kernel))) (goodIn_sub (fun _ h => List.mem_append_right _ h) (by decide +kernel))
set_option maxRecDepth 20000 in
theorem gL_law_L_entry : GoodIn wsL_law (va_wsS RL 125 yL_entry wsL_entry) := goodIn_app (goodIn_of _ (by decide +kernel)) ggL_law_L_entry
set_option maxRecDepth 20000 in
theorem ggL_law_X2_entry : GoodIn wsL_law wsX2_entry := goodIn_r _ [424, 42, 43, 44, 45, 46, 47, 49, 50, 334, 335, 336, 5, 337, 37, 219, 220, 221, 222, 105, 106, 107, 108, 109, 110, 111, 112, 113, 539, 540, 541, 542, 543, 544, 545, 546, 547, 548, 549, 550, 551, 552, 553, 554, 555, 556, 557, 558, 559, 560] (by decide +kernel) (by decide +kernel)
set_option maxRecDepth 20000 in
theorem gL_law_X2_entry : GoodIn wsL_law (wsV RL 127 RX2 yX2_entry wsX2_entry) := goodIn_app (goodIn_of _ (by decide +kernel)) ggL_law_X2_entry
set_option maxRecDepth 20000 in
theorem ggL_law_L_contents : GoodIn wsL_law wsL_contents := goodIn_ca (goodIn_r _ [427, 59, 428, 429, 430, 2, 431, 19, 138, 139, 140, 141, 65, 142, 143, 144, 69, 70, 71, 72, 73, 532, 533, 534, 535, 536, 537, 538] (by decide +kernel) (by decide +kernel)) (goodIn_sub (fun _ h => List.mem_append_left _ (List.mem_append_left _ (List.mem_append_right _ h))) (by decide +kernel))
set_option maxRecDepth 20000 in
theorem gL_law_L_contents : GoodIn wsL_law (va_wsS RL 128 yL_contents wsL_contents) := goodIn_app (goodIn_of _ (by decide +kernel)) ggL_law_L_contents
set_option maxRecDepth 20000 in
theorem ggL_law_X2_contents : GoodIn wsL_law wsX2_contents := goodIn_r _ [435, 36, 219, 220, 221, 5, 222, 105, 106, 107, 108, 223, 224, 225, 109, 110, 111, 112, 113, 539, 540, 541, 542, 543, 544, 545, 546, 547, 548, 549, 550, 551, 552, 553, 554, 555, 556, 557, 558, 559, 560] (by decide +kernel) (by decide +kernel)
set_option maxRecDepth 20000 in
theorem gL_law_X2_contents : GoodIn wsL_law (wsV RL 130 RX2 yX2_contents wsX2_contents) := goodIn_app (goodIn_of _ (by decide +kernel)) ggL_law_X2_contents
set_option maxRecDepth 20000 in
theorem ggL_law_L_contentsAnew : GoodIn wsL_law wsL_contentsAnew := goodIn_ca (goodIn_r _ [438, 59, 439, 440, 441, 2, 442, 138, 139, 140, 141, 65, 142, 143, 144, 69, 70, 71, 72, 73, 443, 444, 445, 446, 16, 169, 170, 171, 172, 161, 162, 163, 15, 164, 26, 165, 166, 167, 168, 27, 91, 92, 93, 181, 182, 183, 184, 185, 186, 187, 188, 189, 190, 191, 447, 448, 449, 450, 451, 452, 453, 532, 533, 534, 535, 536, 537, 538, 561, 562, 563, 564, 565] (by decide +kernel) (by decide +kernel)) (goodIn_sub (fun _ h => List.mem_append_left _ (List.mem_append_left _ (List.mem_append_right _ h))) (by decide +kernel))
set_option maxRecDepth 20000 in
theorem gL_law_L_contentsAnew : GoodIn wsL_law (va_wsS RL 131 yL_contentsAnew wsL_contentsAnew) := goodIn_app (goodIn_of _ (by decide +kernel)) ggL_law_L_contentsAnew
set_option maxRecDepth 20000 in
theorem ggL_law_X2_contentsAnew : GoodIn wsL_law wsX2_contentsAnew := goodIn_r _ [457, 219, 220, 221, 5, 222, 105, 106, 107, 108, 223, 224, 225, 109, 110, 111, 112, 113, 458, 459, 460, 461, 40, 462, 463, 464, 465, 284, 54, 41, 466, 467, 468, 469, 37, 42, 44, 45, 46, 539, 540, 541, 542, 543, 544, 545, 546, 547, 548, 549, 550, 551, 552, 553, 554, 555, 556, 557, 558, 559, 560] (by decide +kernel) (by decide +kernel)
set_option maxRecDepth 20000 in
theorem gL_law_X2_contentsAnew : GoodIn wsL_law (wsV RL 133 RX2 yX2_contentsAnew wsX2_contentsAnew) := goodIn_app (goodIn_of _ (by decide +kernel)) ggL_law_X2_contentsAnew
set_option maxRecDepth 20000 in
theorem ggL_law_L_declare : GoodIn wsL_law wsL_declare := goodIn_ca (goodIn_ca (goodIn_r _ [472, 59, 133, 473, 474, 475, 2, 476, 20, 477, 478, 479, 142, 143, 144, 69, 70, 71, 72, 73, 145, 146, 147, 148, 149, 150, 151, 152, 532, 533, 534, 535, 536, 537, 538] (by decide +kernel) (by decide +kernel)) (goodIn_sub (fun _ h => List.mem_append_left _ (List.mem_append_left _ (List.mem_append_right _ h))) (by decide +kernel))) (goodIn_sub (fun _ h => List.mem_append_right _ h) (by decide +kernel))
set_option maxRecDepth 20000 in
theorem gL_law_L_declare : GoodIn wsL_law (va_wsS RL 134 yL_declare wsL_declare) := goodIn_app (goodIn_of _ (by decide +kernel)) ggL_law_L_declare
set_option maxRecDepth 20000 in
theorem ggL_law_X2_declare : GoodIn wsL_law wsX2_declare := goodIn_r _ [483, 51, 484, 485, 5, 486, 106, 107, 108, 223, 224, 225, 109, 110, 111, 112, 113, 539, 540, 541, 542, 543, 544, 545, 546, 547, 548, 549, 550, 551, 552, 553, 554, 555, 556, 557, 558, 559, 560] (by decide +kernel) (by decide +kernel)
set_option maxRecDepth 20000 in
theorem gL_law_X2_declare : GoodIn wsL_law (wsV RL 136 RX2 yX2_declare wsX2_declare) := goodIn_app (goodIn_of _ (by decide +kernel)) ggL_law_X2_declare
set_option maxRecDepth 20000 in
theorem ggL_law_L_mismatch : GoodIn wsL_law wsL_mismatch := goodIn_ca (goodIn_r _ [489, 59, 490, 491, 492, 2, 493, 20, 494, 495, 496, 497, 477, 478, 479, 69, 70, 71, 72, 73, 498, 499, 500, 501, 65, 18, 443, 444, 445, 446, 16, 169, 170, 171, 172, 161, 162, 163, 15, 164, 26, 165, 166, 167, 168, 27, 91, 92, 93, 181, 182, 183, 184, 185, 186, 187, 188, 189, 190, 191, 447, 448, 449, 450, 451, 452, 453, 532, 533, 534, 535, 536, 537, 538, 561, 562, 563, 564, 565] (by decide +kernel) (by decide +kernel)) (goodIn_sub (fun _ h => List.mem_append_left _ (List.mem_append_left _ (List.mem_append_right _ h))) (by decide +kernel))
set_option maxRecDepth 20000 in
theorem gL_law_L_mismatch : GoodIn wsL_law (va_wsS RL 137 yL_mismatch wsL_mismatch) := goodIn_app (goodIn_of _ (by decide +kernel)) ggL_law_L_mismatch
set_option maxRecDepth 20000 in
theorem ggL_law_X2_mismatch : GoodIn wsL_law wsX2_mismatch := goodIn_r _ [505, 484, 485, 5, 486, 106, 107, 108, 109, 110, 111, 112, 113, 506, 507, 508, 509, 51, 105, 35, 458, 459, 460, 461, 40, 462, 463, 464, 465, 284, 54, 41, 466, 467, 468, 469, 37, 42, 44, 45, 46, 539, 540, 541, 542, 543, 544, 545, 546, 547, 548, 549, 550, 551, 552, 553, 554, 555, 556, 557, 558, 559, 560] (by decide +kernel) (by decide +kernel)
set_option maxRecDepth 20000 in
theorem gL_law_X2_mismatch : GoodIn wsL_law (wsV RL 139 RX2 yX2_mismatch wsX2_mismatch) := goodIn_app (goodIn_of _ (by decide +kernel)) ggL_law_X2_mismatch
set_option maxRecDepth 20000 in
theorem ggL_law_L_fee : GoodIn wsL_law wsL_fee := goodIn_ca (goodIn_r _ [512, 133, 513, 514, 515, 2, 516, 21, 145, 146, 147, 148, 149, 150, 151, 152, 532, 533, 534, 535, 536, 537, 538] (by decide +kernel) (by decide +kernel)) (goodIn_sub (fun _ h => List.mem_append_right _ h) (by decide +kernel))
set_option maxRecDepth 20000 in
theorem gL_law_L_fee : GoodIn wsL_law (va_wsS RL 140 yL_fee wsL_fee) := goodIn_app (goodIn_of _ (by decide +kernel)) ggL_law_L_fee
set_option maxRecDepth 20000 in
theorem ggL_law_X2_fee : GoodIn wsL_law wsX2_fee := goodIn_r _ [520, 52, 106, 107, 5, 108, 109, 110, 111, 112, 113, 539, 540, 541, 542, 543, 544, 545, 546, 547, 548, 549, 550, 551, 552, 553, 554, 555, 556, 557, 558, 559, 560] (by decide +kernel) (by decide +kernel)
set_option maxRecDepth 20000 in
theorem gL_law_X2_fee : GoodIn wsL_law (wsV RL 142 RX2 yX2_fee wsX2_fee) := goodIn_app (goodIn_of _ (by decide +kernel)) ggL_law_X2_fee
set_option maxRecDepth 20000 in
theorem ggL_law_L_owed : GoodIn wsL_law wsL_owed := goodIn_ca (goodIn_r _ [523, 59, 524, 525, 526, 2, 527, 22, 345, 346, 347, 69, 70, 71, 72, 73, 532, 533, 534, 535, 536, 537, 538] (by decide +kernel) (by decide +kernel)) (goodIn_sub (fun _ h => List.mem_append_left _ (List.mem_append_left _ (List.mem_append_right _ h))) (by decide +kernel))
set_option maxRecDepth 20000 in
theorem gL_law_L_owed : GoodIn wsL_law (va_wsS RL 143 yL_owed wsL_owed) := goodIn_app (goodIn_of _ (by decide +kernel)) ggL_law_L_owed
set_option maxRecDepth 20000 in
theorem ggL_law_X2_owed : GoodIn wsL_law wsX2_owed := goodIn_r _ [531, 53, 106, 107, 5, 108, 109, 110, 111, 112, 113, 539, 540, 541, 542, 543, 544, 545, 546, 547, 548, 549, 550, 551, 552, 553, 554, 555, 556, 557, 558, 559, 560] (by decide +kernel) (by decide +kernel)
set_option maxRecDepth 20000 in
theorem gL_law_X2_owed : GoodIn wsL_law (wsV RL 145 RX2 yX2_owed wsX2_owed) := goodIn_app (goodIn_of _ (by decide +kernel)) ggL_law_X2_owed
end
section
theorem dL_make_0 : decode cL_make 0 = .ok (.aload_n 2, 1) := by decide +kernel
theorem dL_make_1 : decode cL_make 1 = .ok (.iconst 0, 1) := by decide +kernel
theorem dL_make_2 : decode cL_make 2 = .ok (.aload_n 0, 1) := by decide +kernel
theorem dL_make_3 : decode cL_make 3 = .ok (.iload_n 1, 1) := by decide +kernel
theorem dL_make_4 : decode cL_make 4 = .ok (.invokevirtual 7, 3) := by decide +kernel
theorem dL_make_7 : decode cL_make 7 = .ok (.i2l, 1) := by decide +kernel
theorem dL_make_8 : decode cL_make 8 = .ok (.lastore, 1) := by decide +kernel
theorem dL_make_9 : decode cL_make 9 = .ok (.goto 9, 3) := by decide +kernel
theorem dL_make_12 : decode cL_make 12 = .ok (.astore_n 3, 1) := by decide +kernel
theorem dL_make_13 : decode cL_make 13 = .ok (.iconst 1, 1) := by decide +kernel
theorem dL_make_14 : decode cL_make 14 = .ok (.ireturn, 1) := by decide +kernel
theorem dL_make_15 : decode cL_make 15 = .ok (.astore_n 3, 1) := by decide +kernel
theorem dL_make_16 : decode cL_make 16 = .ok (.iconst 2, 1) := by decide +kernel
theorem dL_make_17 : decode cL_make 17 = .ok (.ireturn, 1) := by decide +kernel
theorem dL_make_18 : decode cL_make 18 = .ok (.iconst 0, 1) := by decide +kernel
theorem dL_make_19 : decode cL_make 19 = .ok (.ireturn, 1) := by decide +kernel
theorem dL_load_0 : decode cL_load 0 = .ok (.aload 4, 2) := by decide +kernel
theorem dL_load_2 : decode cL_load 2 = .ok (.iconst 0, 1) := by decide +kernel
theorem dL_load_3 : decode cL_load 3 = .ok (.aload_n 0, 1) := by decide +kernel
theorem dL_load_4 : decode cL_load 4 = .ok (.iload_n 1, 1) := by decide +kernel
theorem dL_load_5 : decode cL_load 5 = .ok (.iload_n 2, 1) := by decide +kernel
theorem dL_load_6 : decode cL_load 6 = .ok (.iload_n 3, 1) := by decide +kernel
theorem dL_load_7 : decode cL_load 7 = .ok (.invokevirtual 17, 3) := by decide +kernel
theorem dL_load_10 : decode cL_load 10 = .ok (.i2l, 1) := by decide +kernel
theorem dL_load_11 : decode cL_load 11 = .ok (.lastore, 1) := by decide +kernel
theorem dL_load_12 : decode cL_load 12 = .ok (.goto 15, 3) := by decide +kernel
theorem dL_load_15 : decode cL_load 15 = .ok (.astore 5, 2) := by decide +kernel
theorem dL_load_17 : decode cL_load 17 = .ok (.iconst 1, 1) := by decide +kernel
theorem dL_load_18 : decode cL_load 18 = .ok (.ireturn, 1) := by decide +kernel
theorem dL_load_19 : decode cL_load 19 = .ok (.astore 5, 2) := by decide +kernel
theorem dL_load_21 : decode cL_load 21 = .ok (.iconst 2, 1) := by decide +kernel
theorem dL_load_22 : decode cL_load 22 = .ok (.ireturn, 1) := by decide +kernel
theorem dL_load_23 : decode cL_load 23 = .ok (.astore 5, 2) := by decide +kernel
theorem dL_load_25 : decode cL_load 25 = .ok (.iconst 3, 1) := by decide +kernel
theorem dL_load_26 : decode cL_load 26 = .ok (.ireturn, 1) := by decide +kernel
theorem dL_load_27 : decode cL_load 27 = .ok (.iconst 0, 1) := by decide +kernel
theorem dL_load_28 : decode cL_load 28 = .ok (.ireturn, 1) := by decide +kernel
theorem dL_part_0 : decode cL_part 0 = .ok (.aload 4, 2) := by decide +kernel
theorem dL_part_2 : decode cL_part 2 = .ok (.iconst 0, 1) := by decide +kernel
theorem dL_part_3 : decode cL_part 3 = .ok (.aload_n 0, 1) := by decide +kernel
theorem dL_part_4 : decode cL_part 4 = .ok (.iload_n 1, 1) := by decide +kernel
theorem dL_part_5 : decode cL_part 5 = .ok (.iload_n 2, 1) := by decide +kernel
theorem dL_part_6 : decode cL_part 6 = .ok (.iload_n 3, 1) := by decide +kernel
theorem dL_part_7 : decode cL_part 7 = .ok (.invokevirtual 23, 3) := by decide +kernel
theorem dL_part_10 : decode cL_part 10 = .ok (.i2l, 1) := by decide +kernel
theorem dL_part_11 : decode cL_part 11 = .ok (.lastore, 1) := by decide +kernel
theorem dL_part_12 : decode cL_part 12 = .ok (.goto 15, 3) := by decide +kernel
theorem dL_part_15 : decode cL_part 15 = .ok (.astore 5, 2) := by decide +kernel
theorem dL_part_17 : decode cL_part 17 = .ok (.iconst 1, 1) := by decide +kernel
theorem dL_part_18 : decode cL_part 18 = .ok (.ireturn, 1) := by decide +kernel
theorem dL_part_19 : decode cL_part 19 = .ok (.astore 5, 2) := by decide +kernel
theorem dL_part_21 : decode cL_part 21 = .ok (.iconst 2, 1) := by decide +kernel
theorem dL_part_22 : decode cL_part 22 = .ok (.ireturn, 1) := by decide +kernel
theorem dL_part_23 : decode cL_part 23 = .ok (.astore 5, 2) := by decide +kernel
theorem dL_part_25 : decode cL_part 25 = .ok (.iconst 3, 1) := by decide +kernel
theorem dL_part_26 : decode cL_part 26 = .ok (.ireturn, 1) := by decide +kernel
theorem dL_part_27 : decode cL_part 27 = .ok (.iconst 0, 1) := by decide +kernel
theorem dL_part_28 : decode cL_part 28 = .ok (.ireturn, 1) := by decide +kernel
theorem dL_join_0 : decode cL_join 0 = .ok (.aload_n 3, 1) := by decide +kernel
theorem dL_join_1 : decode cL_join 1 = .ok (.iconst 0, 1) := by decide +kernel
theorem dL_join_2 : decode cL_join 2 = .ok (.aload_n 0, 1) := by decide +kernel
theorem dL_join_3 : decode cL_join 3 = .ok (.iload_n 1, 1) := by decide +kernel
theorem dL_join_4 : decode cL_join 4 = .ok (.iload_n 2, 1) := by decide +kernel
theorem dL_join_5 : decode cL_join 5 = .ok (.invokevirtual 26, 3) := by decide +kernel
theorem dL_join_8 : decode cL_join 8 = .ok (.i2l, 1) := by decide +kernel
theorem dL_join_9 : decode cL_join 9 = .ok (.lastore, 1) := by decide +kernel
theorem dL_join_10 : decode cL_join 10 = .ok (.goto 15, 3) := by decide +kernel
theorem dL_join_13 : decode cL_join 13 = .ok (.astore 4, 2) := by decide +kernel
theorem dL_join_15 : decode cL_join 15 = .ok (.iconst 1, 1) := by decide +kernel
theorem dL_join_16 : decode cL_join 16 = .ok (.ireturn, 1) := by decide +kernel
theorem dL_join_17 : decode cL_join 17 = .ok (.astore 4, 2) := by decide +kernel
theorem dL_join_19 : decode cL_join 19 = .ok (.iconst 2, 1) := by decide +kernel
theorem dL_join_20 : decode cL_join 20 = .ok (.ireturn, 1) := by decide +kernel
theorem dL_join_21 : decode cL_join 21 = .ok (.astore 4, 2) := by decide +kernel
theorem dL_join_23 : decode cL_join 23 = .ok (.iconst 3, 1) := by decide +kernel
theorem dL_join_24 : decode cL_join 24 = .ok (.ireturn, 1) := by decide +kernel
theorem dL_join_25 : decode cL_join 25 = .ok (.iconst 0, 1) := by decide +kernel
theorem dL_join_26 : decode cL_join 26 = .ok (.ireturn, 1) := by decide +kernel
theorem dL_move_0 : decode cL_move 0 = .ok (.aload_n 3, 1) := by decide +kernel
theorem dL_move_1 : decode cL_move 1 = .ok (.iconst 0, 1) := by decide +kernel
theorem dL_move_2 : decode cL_move 2 = .ok (.aload_n 0, 1) := by decide +kernel
theorem dL_move_3 : decode cL_move 3 = .ok (.iload_n 1, 1) := by decide +kernel
theorem dL_move_4 : decode cL_move 4 = .ok (.iload_n 2, 1) := by decide +kernel
theorem dL_move_5 : decode cL_move 5 = .ok (.invokevirtual 30, 3) := by decide +kernel
theorem dL_move_8 : decode cL_move 8 = .ok (.i2l, 1) := by decide +kernel
theorem dL_move_9 : decode cL_move 9 = .ok (.lastore, 1) := by decide +kernel
theorem dL_move_10 : decode cL_move 10 = .ok (.goto 11, 3) := by decide +kernel
theorem dL_move_13 : decode cL_move 13 = .ok (.astore 4, 2) := by decide +kernel
theorem dL_move_15 : decode cL_move 15 = .ok (.iconst 1, 1) := by decide +kernel
theorem dL_move_16 : decode cL_move 16 = .ok (.ireturn, 1) := by decide +kernel
theorem dL_move_17 : decode cL_move 17 = .ok (.astore 4, 2) := by decide +kernel
theorem dL_move_19 : decode cL_move 19 = .ok (.iconst 2, 1) := by decide +kernel
theorem dL_move_20 : decode cL_move 20 = .ok (.ireturn, 1) := by decide +kernel
theorem dL_move_21 : decode cL_move 21 = .ok (.iconst 0, 1) := by decide +kernel
theorem dL_move_22 : decode cL_move 22 = .ok (.ireturn, 1) := by decide +kernel
theorem dL_hold_0 : decode cL_hold 0 = .ok (.aload_n 2, 1) := by decide +kernel
theorem dL_hold_1 : decode cL_hold 1 = .ok (.iconst 0, 1) := by decide +kernel
theorem dL_hold_2 : decode cL_hold 2 = .ok (.aload_n 0, 1) := by decide +kernel
theorem dL_hold_3 : decode cL_hold 3 = .ok (.iload_n 1, 1) := by decide +kernel
theorem dL_hold_4 : decode cL_hold 4 = .ok (.invokevirtual 33, 3) := by decide +kernel
theorem dL_hold_7 : decode cL_hold 7 = .ok (.ifCond .eq 7, 3) := by decide +kernel
theorem dL_hold_10 : decode cL_hold 10 = .ok (.lconst 1, 1) := by decide +kernel
theorem dL_hold_11 : decode cL_hold 11 = .ok (.goto 4, 3) := by decide +kernel
theorem dL_hold_14 : decode cL_hold 14 = .ok (.lconst 0, 1) := by decide +kernel
theorem dL_hold_15 : decode cL_hold 15 = .ok (.lastore, 1) := by decide +kernel
theorem dL_hold_16 : decode cL_hold 16 = .ok (.goto 9, 3) := by decide +kernel
theorem dL_hold_19 : decode cL_hold 19 = .ok (.astore_n 3, 1) := by decide +kernel
theorem dL_hold_20 : decode cL_hold 20 = .ok (.iconst 1, 1) := by decide +kernel
theorem dL_hold_21 : decode cL_hold 21 = .ok (.ireturn, 1) := by decide +kernel
theorem dL_hold_22 : decode cL_hold 22 = .ok (.astore_n 3, 1) := by decide +kernel
theorem dL_hold_23 : decode cL_hold 23 = .ok (.iconst 2, 1) := by decide +kernel
theorem dL_hold_24 : decode cL_hold 24 = .ok (.ireturn, 1) := by decide +kernel
theorem dL_hold_25 : decode cL_hold 25 = .ok (.iconst 0, 1) := by decide +kernel
theorem dL_hold_26 : decode cL_hold 26 = .ok (.ireturn, 1) := by decide +kernel
theorem dL_spoil_0 : decode cL_spoil 0 = .ok (.aload 4, 2) := by decide +kernel
theorem dL_spoil_2 : decode cL_spoil 2 = .ok (.iconst 0, 1) := by decide +kernel
theorem dL_spoil_3 : decode cL_spoil 3 = .ok (.aload_n 0, 1) := by decide +kernel
theorem dL_spoil_4 : decode cL_spoil 4 = .ok (.iload_n 1, 1) := by decide +kernel
theorem dL_spoil_5 : decode cL_spoil 5 = .ok (.iload_n 2, 1) := by decide +kernel
theorem dL_spoil_6 : decode cL_spoil 6 = .ok (.iload_n 3, 1) := by decide +kernel
theorem dL_spoil_7 : decode cL_spoil 7 = .ok (.invokevirtual 37, 3) := by decide +kernel
theorem dL_spoil_10 : decode cL_spoil 10 = .ok (.i2l, 1) := by decide +kernel
theorem dL_spoil_11 : decode cL_spoil 11 = .ok (.lastore, 1) := by decide +kernel
theorem dL_spoil_12 : decode cL_spoil 12 = .ok (.goto 11, 3) := by decide +kernel
theorem dL_spoil_15 : decode cL_spoil 15 = .ok (.astore 5, 2) := by decide +kernel
theorem dL_spoil_17 : decode cL_spoil 17 = .ok (.iconst 1, 1) := by decide +kernel
theorem dL_spoil_18 : decode cL_spoil 18 = .ok (.ireturn, 1) := by decide +kernel
theorem dL_spoil_19 : decode cL_spoil 19 = .ok (.astore 5, 2) := by decide +kernel
theorem dL_spoil_21 : decode cL_spoil 21 = .ok (.iconst 2, 1) := by decide +kernel
theorem dL_spoil_22 : decode cL_spoil 22 = .ok (.ireturn, 1) := by decide +kernel
theorem dL_spoil_23 : decode cL_spoil 23 = .ok (.iconst 0, 1) := by decide +kernel
theorem dL_spoil_24 : decode cL_spoil 24 = .ok (.ireturn, 1) := by decide +kernel
theorem dL_lose_0 : decode cL_lose 0 = .ok (.aload_n 2, 1) := by decide +kernel
theorem dL_lose_1 : decode cL_lose 1 = .ok (.iconst 0, 1) := by decide +kernel
theorem dL_lose_2 : decode cL_lose 2 = .ok (.aload_n 0, 1) := by decide +kernel
theorem dL_lose_3 : decode cL_lose 3 = .ok (.iload_n 1, 1) := by decide +kernel
theorem dL_lose_4 : decode cL_lose 4 = .ok (.invokevirtual 40, 3) := by decide +kernel
theorem dL_lose_7 : decode cL_lose 7 = .ok (.i2l, 1) := by decide +kernel
theorem dL_lose_8 : decode cL_lose 8 = .ok (.lastore, 1) := by decide +kernel
theorem dL_lose_9 : decode cL_lose 9 = .ok (.goto 6, 3) := by decide +kernel
theorem dL_lose_12 : decode cL_lose 12 = .ok (.astore_n 3, 1) := by decide +kernel
theorem dL_lose_13 : decode cL_lose 13 = .ok (.iconst 1, 1) := by decide +kernel
theorem dL_lose_14 : decode cL_lose 14 = .ok (.ireturn, 1) := by decide +kernel
theorem dL_lose_15 : decode cL_lose 15 = .ok (.iconst 0, 1) := by decide +kernel
theorem dL_lose_16 : decode cL_lose 16 = .ok (.ireturn, 1) := by decide +kernel
theorem dL_repair_0 : decode cL_repair 0 = .ok (.aload_n 3, 1) := by decide +kernel
theorem dL_repair_1 : decode cL_repair 1 = .ok (.iconst 0, 1) := by decide +kernel
theorem dL_repair_2 : decode cL_repair 2 = .ok (.aload_n 0, 1) := by decide +kernel
theorem dL_repair_3 : decode cL_repair 3 = .ok (.iload_n 1, 1) := by decide +kernel
theorem dL_repair_4 : decode cL_repair 4 = .ok (.iload_n 2, 1) := by decide +kernel
theorem dL_repair_5 : decode cL_repair 5 = .ok (.invokevirtual 43, 3) := by decide +kernel
theorem dL_repair_8 : decode cL_repair 8 = .ok (.i2l, 1) := by decide +kernel
theorem dL_repair_9 : decode cL_repair 9 = .ok (.lastore, 1) := by decide +kernel
theorem dL_repair_10 : decode cL_repair 10 = .ok (.goto 11, 3) := by decide +kernel
theorem dL_repair_13 : decode cL_repair 13 = .ok (.astore 4, 2) := by decide +kernel
theorem dL_repair_15 : decode cL_repair 15 = .ok (.iconst 1, 1) := by decide +kernel
theorem dL_repair_16 : decode cL_repair 16 = .ok (.ireturn, 1) := by decide +kernel
theorem dL_repair_17 : decode cL_repair 17 = .ok (.astore 4, 2) := by decide +kernel
theorem dL_repair_19 : decode cL_repair 19 = .ok (.iconst 2, 1) := by decide +kernel
theorem dL_repair_20 : decode cL_repair 20 = .ok (.ireturn, 1) := by decide +kernel
theorem dL_repair_21 : decode cL_repair 21 = .ok (.iconst 0, 1) := by decide +kernel
theorem dL_repair_22 : decode cL_repair 22 = .ok (.ireturn, 1) := by decide +kernel
theorem dL_broken_0 : decode cL_broken 0 = .ok (.aload_n 2, 1) := by decide +kernel
theorem dL_broken_1 : decode cL_broken 1 = .ok (.iconst 0, 1) := by decide +kernel
theorem dL_broken_2 : decode cL_broken 2 = .ok (.aload_n 0, 1) := by decide +kernel
theorem dL_broken_3 : decode cL_broken 3 = .ok (.iload_n 1, 1) := by decide +kernel
theorem dL_broken_4 : decode cL_broken 4 = .ok (.invokevirtual 46, 3) := by decide +kernel
theorem dL_broken_7 : decode cL_broken 7 = .ok (.i2l, 1) := by decide +kernel
theorem dL_broken_8 : decode cL_broken 8 = .ok (.lastore, 1) := by decide +kernel
theorem dL_broken_9 : decode cL_broken 9 = .ok (.goto 6, 3) := by decide +kernel
theorem dL_broken_12 : decode cL_broken 12 = .ok (.astore_n 3, 1) := by decide +kernel
theorem dL_broken_13 : decode cL_broken 13 = .ok (.iconst 1, 1) := by decide +kernel
theorem dL_broken_14 : decode cL_broken 14 = .ok (.ireturn, 1) := by decide +kernel
theorem dL_broken_15 : decode cL_broken 15 = .ok (.iconst 0, 1) := by decide +kernel
theorem dL_broken_16 : decode cL_broken 16 = .ok (.ireturn, 1) := by decide +kernel
theorem dL_isSound_0 : decode cL_isSound 0 = .ok (.aload_n 2, 1) := by decide +kernel
theorem dL_isSound_1 : decode cL_isSound 1 = .ok (.iconst 0, 1) := by decide +kernel
theorem dL_isSound_2 : decode cL_isSound 2 = .ok (.aload_n 0, 1) := by decide +kernel
theorem dL_isSound_3 : decode cL_isSound 3 = .ok (.iload_n 1, 1) := by decide +kernel
theorem dL_isSound_4 : decode cL_isSound 4 = .ok (.invokevirtual 49, 3) := by decide +kernel
theorem dL_isSound_7 : decode cL_isSound 7 = .ok (.ifCond .eq 7, 3) := by decide +kernel
theorem dL_isSound_10 : decode cL_isSound 10 = .ok (.lconst 1, 1) := by decide +kernel
theorem dL_isSound_11 : decode cL_isSound 11 = .ok (.goto 4, 3) := by decide +kernel
theorem dL_isSound_14 : decode cL_isSound 14 = .ok (.lconst 0, 1) := by decide +kernel
theorem dL_isSound_15 : decode cL_isSound 15 = .ok (.lastore, 1) := by decide +kernel
theorem dL_isSound_16 : decode cL_isSound 16 = .ok (.goto 6, 3) := by decide +kernel
theorem dL_isSound_19 : decode cL_isSound 19 = .ok (.astore_n 3, 1) := by decide +kernel
theorem dL_isSound_20 : decode cL_isSound 20 = .ok (.iconst 1, 1) := by decide +kernel
theorem dL_isSound_21 : decode cL_isSound 21 = .ok (.ireturn, 1) := by decide +kernel
theorem dL_isSound_22 : decode cL_isSound 22 = .ok (.iconst 0, 1) := by decide +kernel
theorem dL_isSound_23 : decode cL_isSound 23 = .ok (.ireturn, 1) := by decide +kernel
theorem dL_pallet_0 : decode cL_pallet 0 = .ok (.aload_n 3, 1) := by decide +kernel
theorem dL_pallet_1 : decode cL_pallet 1 = .ok (.iconst 0, 1) := by decide +kernel
theorem dL_pallet_2 : decode cL_pallet 2 = .ok (.aload_n 0, 1) := by decide +kernel
theorem dL_pallet_3 : decode cL_pallet 3 = .ok (.iload_n 1, 1) := by decide +kernel
theorem dL_pallet_4 : decode cL_pallet 4 = .ok (.iload_n 2, 1) := by decide +kernel
theorem dL_pallet_5 : decode cL_pallet 5 = .ok (.invokevirtual 52, 3) := by decide +kernel
theorem dL_pallet_8 : decode cL_pallet 8 = .ok (.i2l, 1) := by decide +kernel
theorem dL_pallet_9 : decode cL_pallet 9 = .ok (.lastore, 1) := by decide +kernel
theorem dL_pallet_10 : decode cL_pallet 10 = .ok (.goto 11, 3) := by decide +kernel
theorem dL_pallet_13 : decode cL_pallet 13 = .ok (.astore 4, 2) := by decide +kernel
theorem dL_pallet_15 : decode cL_pallet 15 = .ok (.iconst 1, 1) := by decide +kernel
theorem dL_pallet_16 : decode cL_pallet 16 = .ok (.ireturn, 1) := by decide +kernel
theorem dL_pallet_17 : decode cL_pallet 17 = .ok (.astore 4, 2) := by decide +kernel
theorem dL_pallet_19 : decode cL_pallet 19 = .ok (.iconst 2, 1) := by decide +kernel
theorem dL_pallet_20 : decode cL_pallet 20 = .ok (.ireturn, 1) := by decide +kernel
theorem dL_pallet_21 : decode cL_pallet 21 = .ok (.iconst 0, 1) := by decide +kernel
theorem dL_pallet_22 : decode cL_pallet 22 = .ok (.ireturn, 1) := by decide +kernel
theorem dL_entry_0 : decode cL_entry 0 = .ok (.aload 4, 2) := by decide +kernel
theorem dL_entry_2 : decode cL_entry 2 = .ok (.iconst 0, 1) := by decide +kernel
theorem dL_entry_3 : decode cL_entry 3 = .ok (.aload_n 0, 1) := by decide +kernel
theorem dL_entry_4 : decode cL_entry 4 = .ok (.iload_n 1, 1) := by decide +kernel
theorem dL_entry_5 : decode cL_entry 5 = .ok (.iload_n 2, 1) := by decide +kernel
theorem dL_entry_6 : decode cL_entry 6 = .ok (.iload_n 3, 1) := by decide +kernel
theorem dL_entry_7 : decode cL_entry 7 = .ok (.invokevirtual 55, 3) := by decide +kernel
theorem dL_entry_10 : decode cL_entry 10 = .ok (.i2l, 1) := by decide +kernel
theorem dL_entry_11 : decode cL_entry 11 = .ok (.lastore, 1) := by decide +kernel
theorem dL_entry_12 : decode cL_entry 12 = .ok (.goto 11, 3) := by decide +kernel
theorem dL_entry_15 : decode cL_entry 15 = .ok (.astore 5, 2) := by decide +kernel
theorem dL_entry_17 : decode cL_entry 17 = .ok (.iconst 1, 1) := by decide +kernel
theorem dL_entry_18 : decode cL_entry 18 = .ok (.ireturn, 1) := by decide +kernel
theorem dL_entry_19 : decode cL_entry 19 = .ok (.astore 5, 2) := by decide +kernel
theorem dL_entry_21 : decode cL_entry 21 = .ok (.iconst 2, 1) := by decide +kernel
theorem dL_entry_22 : decode cL_entry 22 = .ok (.ireturn, 1) := by decide +kernel
theorem dL_entry_23 : decode cL_entry 23 = .ok (.iconst 0, 1) := by decide +kernel
theorem dL_entry_24 : decode cL_entry 24 = .ok (.ireturn, 1) := by decide +kernel
theorem dL_contents_0 : decode cL_contents 0 = .ok (.aload_n 3, 1) := by decide +kernel
theorem dL_contents_1 : decode cL_contents 1 = .ok (.iconst 0, 1) := by decide +kernel
theorem dL_contents_2 : decode cL_contents 2 = .ok (.aload_n 0, 1) := by decide +kernel
theorem dL_contents_3 : decode cL_contents 3 = .ok (.iload_n 1, 1) := by decide +kernel
theorem dL_contents_4 : decode cL_contents 4 = .ok (.iload_n 2, 1) := by decide +kernel
theorem dL_contents_5 : decode cL_contents 5 = .ok (.invokevirtual 58, 3) := by decide +kernel
theorem dL_contents_8 : decode cL_contents 8 = .ok (.i2l, 1) := by decide +kernel
theorem dL_contents_9 : decode cL_contents 9 = .ok (.lastore, 1) := by decide +kernel
theorem dL_contents_10 : decode cL_contents 10 = .ok (.goto 7, 3) := by decide +kernel
theorem dL_contents_13 : decode cL_contents 13 = .ok (.astore 4, 2) := by decide +kernel
theorem dL_contents_15 : decode cL_contents 15 = .ok (.iconst 1, 1) := by decide +kernel
theorem dL_contents_16 : decode cL_contents 16 = .ok (.ireturn, 1) := by decide +kernel
theorem dL_contents_17 : decode cL_contents 17 = .ok (.iconst 0, 1) := by decide +kernel
theorem dL_contents_18 : decode cL_contents 18 = .ok (.ireturn, 1) := by decide +kernel
theorem dL_contentsAnew_0 : decode cL_contentsAnew 0 = .ok (.aload_n 3, 1) := by decide +kernel
theorem dL_contentsAnew_1 : decode cL_contentsAnew 1 = .ok (.iconst 0, 1) := by decide +kernel
theorem dL_contentsAnew_2 : decode cL_contentsAnew 2 = .ok (.aload_n 0, 1) := by decide +kernel
theorem dL_contentsAnew_3 : decode cL_contentsAnew 3 = .ok (.iload_n 1, 1) := by decide +kernel
theorem dL_contentsAnew_4 : decode cL_contentsAnew 4 = .ok (.iload_n 2, 1) := by decide +kernel
theorem dL_contentsAnew_5 : decode cL_contentsAnew 5 = .ok (.invokevirtual 61, 3) := by decide +kernel
theorem dL_contentsAnew_8 : decode cL_contentsAnew 8 = .ok (.i2l, 1) := by decide +kernel
theorem dL_contentsAnew_9 : decode cL_contentsAnew 9 = .ok (.lastore, 1) := by decide +kernel
theorem dL_contentsAnew_10 : decode cL_contentsAnew 10 = .ok (.goto 7, 3) := by decide +kernel
theorem dL_contentsAnew_13 : decode cL_contentsAnew 13 = .ok (.astore 4, 2) := by decide +kernel
theorem dL_contentsAnew_15 : decode cL_contentsAnew 15 = .ok (.iconst 1, 1) := by decide +kernel
theorem dL_contentsAnew_16 : decode cL_contentsAnew 16 = .ok (.ireturn, 1) := by decide +kernel
theorem dL_contentsAnew_17 : decode cL_contentsAnew 17 = .ok (.iconst 0, 1) := by decide +kernel
theorem dL_contentsAnew_18 : decode cL_contentsAnew 18 = .ok (.ireturn, 1) := by decide +kernel
theorem dL_declare_0 : decode cL_declare 0 = .ok (.aload 4, 2) := by decide +kernel
theorem dL_declare_2 : decode cL_declare 2 = .ok (.iconst 0, 1) := by decide +kernel
theorem dL_declare_3 : decode cL_declare 3 = .ok (.aload_n 0, 1) := by decide +kernel
theorem dL_declare_4 : decode cL_declare 4 = .ok (.iload_n 1, 1) := by decide +kernel
theorem dL_declare_5 : decode cL_declare 5 = .ok (.iload_n 2, 1) := by decide +kernel
theorem dL_declare_6 : decode cL_declare 6 = .ok (.iload_n 3, 1) := by decide +kernel
theorem dL_declare_7 : decode cL_declare 7 = .ok (.invokevirtual 64, 3) := by decide +kernel
theorem dL_declare_10 : decode cL_declare 10 = .ok (.i2l, 1) := by decide +kernel
theorem dL_declare_11 : decode cL_declare 11 = .ok (.lastore, 1) := by decide +kernel
theorem dL_declare_12 : decode cL_declare 12 = .ok (.goto 11, 3) := by decide +kernel
theorem dL_declare_15 : decode cL_declare 15 = .ok (.astore 5, 2) := by decide +kernel
theorem dL_declare_17 : decode cL_declare 17 = .ok (.iconst 1, 1) := by decide +kernel
theorem dL_declare_18 : decode cL_declare 18 = .ok (.ireturn, 1) := by decide +kernel
theorem dL_declare_19 : decode cL_declare 19 = .ok (.astore 5, 2) := by decide +kernel
theorem dL_declare_21 : decode cL_declare 21 = .ok (.iconst 2, 1) := by decide +kernel
theorem dL_declare_22 : decode cL_declare 22 = .ok (.ireturn, 1) := by decide +kernel
theorem dL_declare_23 : decode cL_declare 23 = .ok (.iconst 0, 1) := by decide +kernel
theorem dL_declare_24 : decode cL_declare 24 = .ok (.ireturn, 1) := by decide +kernel
theorem dL_mismatch_0 : decode cL_mismatch 0 = .ok (.aload_n 2, 1) := by decide +kernel
theorem dL_mismatch_1 : decode cL_mismatch 1 = .ok (.iconst 0, 1) := by decide +kernel
theorem dL_mismatch_2 : decode cL_mismatch 2 = .ok (.aload_n 0, 1) := by decide +kernel
theorem dL_mismatch_3 : decode cL_mismatch 3 = .ok (.iload_n 1, 1) := by decide +kernel
theorem dL_mismatch_4 : decode cL_mismatch 4 = .ok (.invokevirtual 67, 3) := by decide +kernel
theorem dL_mismatch_7 : decode cL_mismatch 7 = .ok (.i2l, 1) := by decide +kernel
theorem dL_mismatch_8 : decode cL_mismatch 8 = .ok (.lastore, 1) := by decide +kernel
theorem dL_mismatch_9 : decode cL_mismatch 9 = .ok (.goto 6, 3) := by decide +kernel
theorem dL_mismatch_12 : decode cL_mismatch 12 = .ok (.astore_n 3, 1) := by decide +kernel
theorem dL_mismatch_13 : decode cL_mismatch 13 = .ok (.iconst 1, 1) := by decide +kernel
theorem dL_mismatch_14 : decode cL_mismatch 14 = .ok (.ireturn, 1) := by decide +kernel
theorem dL_mismatch_15 : decode cL_mismatch 15 = .ok (.iconst 0, 1) := by decide +kernel
theorem dL_mismatch_16 : decode cL_mismatch 16 = .ok (.ireturn, 1) := by decide +kernel
theorem dL_fee_0 : decode cL_fee 0 = .ok (.aload_n 3, 1) := by decide +kernel
theorem dL_fee_1 : decode cL_fee 1 = .ok (.iconst 0, 1) := by decide +kernel
theorem dL_fee_2 : decode cL_fee 2 = .ok (.aload_n 0, 1) := by decide +kernel
theorem dL_fee_3 : decode cL_fee 3 = .ok (.iload_n 1, 1) := by decide +kernel
theorem dL_fee_4 : decode cL_fee 4 = .ok (.iload_n 2, 1) := by decide +kernel
theorem dL_fee_5 : decode cL_fee 5 = .ok (.invokevirtual 70, 3) := by decide +kernel
theorem dL_fee_8 : decode cL_fee 8 = .ok (.i2l, 1) := by decide +kernel
theorem dL_fee_9 : decode cL_fee 9 = .ok (.lastore, 1) := by decide +kernel
theorem dL_fee_10 : decode cL_fee 10 = .ok (.goto 7, 3) := by decide +kernel
theorem dL_fee_13 : decode cL_fee 13 = .ok (.astore 4, 2) := by decide +kernel
theorem dL_fee_15 : decode cL_fee 15 = .ok (.iconst 1, 1) := by decide +kernel
theorem dL_fee_16 : decode cL_fee 16 = .ok (.ireturn, 1) := by decide +kernel
theorem dL_fee_17 : decode cL_fee 17 = .ok (.iconst 0, 1) := by decide +kernel
theorem dL_fee_18 : decode cL_fee 18 = .ok (.ireturn, 1) := by decide +kernel
theorem dL_owed_0 : decode cL_owed 0 = .ok (.aload_n 2, 1) := by decide +kernel
theorem dL_owed_1 : decode cL_owed 1 = .ok (.iconst 0, 1) := by decide +kernel
theorem dL_owed_2 : decode cL_owed 2 = .ok (.aload_n 0, 1) := by decide +kernel
theorem dL_owed_3 : decode cL_owed 3 = .ok (.iload_n 1, 1) := by decide +kernel
theorem dL_owed_4 : decode cL_owed 4 = .ok (.invokevirtual 73, 3) := by decide +kernel
theorem dL_owed_7 : decode cL_owed 7 = .ok (.i2l, 1) := by decide +kernel
theorem dL_owed_8 : decode cL_owed 8 = .ok (.lastore, 1) := by decide +kernel
theorem dL_owed_9 : decode cL_owed 9 = .ok (.goto 6, 3) := by decide +kernel
theorem dL_owed_12 : decode cL_owed 12 = .ok (.astore_n 3, 1) := by decide +kernel
theorem dL_owed_13 : decode cL_owed 13 = .ok (.iconst 1, 1) := by decide +kernel
theorem dL_owed_14 : decode cL_owed 14 = .ok (.ireturn, 1) := by decide +kernel
theorem dL_owed_15 : decode cL_owed 15 = .ok (.iconst 0, 1) := by decide +kernel
theorem dL_owed_16 : decode cL_owed 16 = .ok (.ireturn, 1) := by decide +kernel
theorem dL_law_0 : decode cL_law 0 = .ok (.new 8, 3) := by decide +kernel
theorem dL_law_3 : decode cL_law 3 = .ok (.dup, 1) := by decide +kernel
theorem dL_law_4 : decode cL_law 4 = .ok (.invokespecial 76, 3) := by decide +kernel
theorem dL_law_7 : decode cL_law 7 = .ok (.astore_n 1, 1) := by decide +kernel
theorem dL_law_8 : decode cL_law 8 = .ok (.new 77, 3) := by decide +kernel
theorem dL_law_11 : decode cL_law 11 = .ok (.dup, 1) := by decide +kernel
theorem dL_law_12 : decode cL_law 12 = .ok (.invokespecial 79, 3) := by decide +kernel
theorem dL_law_15 : decode cL_law 15 = .ok (.astore_n 2, 1) := by decide +kernel
theorem dL_law_16 : decode cL_law 16 = .ok (.iconst 1, 1) := by decide +kernel
theorem dL_law_17 : decode cL_law 17 = .ok (.newarray .long, 2) := by decide +kernel
theorem dL_law_19 : decode cL_law 19 = .ok (.astore_n 3, 1) := by decide +kernel
theorem dL_law_20 : decode cL_law 20 = .ok (.iconst 0, 1) := by decide +kernel
theorem dL_law_21 : decode cL_law 21 = .ok (.istore 4, 2) := by decide +kernel
theorem dL_law_23 : decode cL_law 23 = .ok (.iload 4, 2) := by decide +kernel
theorem dL_law_25 : decode cL_law 25 = .ok (.aload_n 0, 1) := by decide +kernel
theorem dL_law_26 : decode cL_law 26 = .ok (.arraylength, 1) := by decide +kernel
theorem dL_law_27 : decode cL_law 27 = .ok (.iconst 4, 1) := by decide +kernel
theorem dL_law_28 : decode cL_law 28 = .ok (.isub, 1) := by decide +kernel
theorem dL_law_29 : decode cL_law 29 = .ok (.if_icmp .gt 1387, 3) := by decide +kernel
theorem dL_law_32 : decode cL_law 32 = .ok (.aload_n 0, 1) := by decide +kernel
theorem dL_law_33 : decode cL_law 33 = .ok (.iload 4, 2) := by decide +kernel
theorem dL_law_35 : decode cL_law 35 = .ok (.iaload, 1) := by decide +kernel
theorem dL_law_36 : decode cL_law 36 = .ok (.bipush 31, 2) := by decide +kernel
theorem dL_law_38 : decode cL_law 38 = .ok (.iand, 1) := by decide +kernel
theorem dL_law_39 : decode cL_law 39 = .ok (.tableswitch 1371 0 18 #[89, 145, 225, 305, 373, 441, 504, 584, 640, 708, 764, 827, 895, 975, 1043, 1111, 1191, 1247, 1315], 89) := by decide +kernel
theorem dL_law_128 : decode cL_law 128 = .ok (.aload_n 1, 1) := by decide +kernel
theorem dL_law_129 : decode cL_law 129 = .ok (.aload_n 0, 1) := by decide +kernel
theorem dL_law_130 : decode cL_law 130 = .ok (.iload 4, 2) := by decide +kernel
theorem dL_law_132 : decode cL_law 132 = .ok (.iconst 1, 1) := by decide +kernel
theorem dL_law_133 : decode cL_law 133 = .ok (.iadd, 1) := by decide +kernel
theorem dL_law_134 : decode cL_law 134 = .ok (.iaload, 1) := by decide +kernel
theorem dL_law_135 : decode cL_law 135 = .ok (.aload_n 3, 1) := by decide +kernel
theorem dL_law_136 : decode cL_law 136 = .ok (.invokestatic 80, 3) := by decide +kernel
theorem dL_law_139 : decode cL_law 139 = .ok (.istore 5, 2) := by decide +kernel
theorem dL_law_141 : decode cL_law 141 = .ok (.aload_n 2, 1) := by decide +kernel
theorem dL_law_142 : decode cL_law 142 = .ok (.aload_n 0, 1) := by decide +kernel
theorem dL_law_143 : decode cL_law 143 = .ok (.iload 4, 2) := by decide +kernel
theorem dL_law_145 : decode cL_law 145 = .ok (.iconst 1, 1) := by decide +kernel
theorem dL_law_146 : decode cL_law 146 = .ok (.iadd, 1) := by decide +kernel
theorem dL_law_147 : decode cL_law 147 = .ok (.iaload, 1) := by decide +kernel
theorem dL_law_148 : decode cL_law 148 = .ok (.invokevirtual 85, 3) := by decide +kernel
theorem dL_law_151 : decode cL_law 151 = .ok (.istore 6, 2) := by decide +kernel
theorem dL_law_153 : decode cL_law 153 = .ok (.aload_n 2, 1) := by decide +kernel
theorem dL_law_154 : decode cL_law 154 = .ok (.invokevirtual 86, 3) := by decide +kernel
theorem dL_law_157 : decode cL_law 157 = .ok (.iload 5, 2) := by decide +kernel
theorem dL_law_159 : decode cL_law 159 = .ok (.if_icmp .eq 5, 3) := by decide +kernel
theorem dL_law_162 : decode cL_law 162 = .ok (.iconst 0, 1) := by decide +kernel
theorem dL_law_163 : decode cL_law 163 = .ok (.ireturn, 1) := by decide +kernel
theorem dL_law_164 : decode cL_law 164 = .ok (.iload 5, 2) := by decide +kernel
theorem dL_law_166 : decode cL_law 166 = .ok (.ifCond .ne 15, 3) := by decide +kernel
theorem dL_law_169 : decode cL_law 169 = .ok (.aload_n 3, 1) := by decide +kernel
theorem dL_law_170 : decode cL_law 170 = .ok (.iconst 0, 1) := by decide +kernel
theorem dL_law_171 : decode cL_law 171 = .ok (.laload, 1) := by decide +kernel
theorem dL_law_172 : decode cL_law 172 = .ok (.iload 6, 2) := by decide +kernel
theorem dL_law_174 : decode cL_law 174 = .ok (.i2l, 1) := by decide +kernel
theorem dL_law_175 : decode cL_law 175 = .ok (.lcmp, 1) := by decide +kernel
theorem dL_law_176 : decode cL_law 176 = .ok (.ifCond .eq 5, 3) := by decide +kernel
theorem dL_law_179 : decode cL_law 179 = .ok (.iconst 0, 1) := by decide +kernel
theorem dL_law_180 : decode cL_law 180 = .ok (.ireturn, 1) := by decide +kernel
theorem dL_law_181 : decode cL_law 181 = .ok (.goto 1229, 3) := by decide +kernel
theorem dL_law_184 : decode cL_law 184 = .ok (.aload_n 1, 1) := by decide +kernel
theorem dL_law_185 : decode cL_law 185 = .ok (.aload_n 0, 1) := by decide +kernel
theorem dL_law_186 : decode cL_law 186 = .ok (.iload 4, 2) := by decide +kernel
theorem dL_law_188 : decode cL_law 188 = .ok (.iconst 1, 1) := by decide +kernel
theorem dL_law_189 : decode cL_law 189 = .ok (.iadd, 1) := by decide +kernel
theorem dL_law_190 : decode cL_law 190 = .ok (.iaload, 1) := by decide +kernel
theorem dL_law_191 : decode cL_law 191 = .ok (.aload_n 0, 1) := by decide +kernel
theorem dL_law_192 : decode cL_law 192 = .ok (.iload 4, 2) := by decide +kernel
theorem dL_law_194 : decode cL_law 194 = .ok (.iconst 2, 1) := by decide +kernel
theorem dL_law_195 : decode cL_law 195 = .ok (.iadd, 1) := by decide +kernel
theorem dL_law_196 : decode cL_law 196 = .ok (.iaload, 1) := by decide +kernel
theorem dL_law_197 : decode cL_law 197 = .ok (.aload_n 0, 1) := by decide +kernel
theorem dL_law_198 : decode cL_law 198 = .ok (.iload 4, 2) := by decide +kernel
theorem dL_law_200 : decode cL_law 200 = .ok (.iconst 3, 1) := by decide +kernel
theorem dL_law_201 : decode cL_law 201 = .ok (.iadd, 1) := by decide +kernel
theorem dL_law_202 : decode cL_law 202 = .ok (.iaload, 1) := by decide +kernel
theorem dL_law_203 : decode cL_law 203 = .ok (.aload_n 3, 1) := by decide +kernel
theorem dL_law_204 : decode cL_law 204 = .ok (.invokestatic 90, 3) := by decide +kernel
theorem dL_law_207 : decode cL_law 207 = .ok (.istore 5, 2) := by decide +kernel
theorem dL_law_209 : decode cL_law 209 = .ok (.aload_n 2, 1) := by decide +kernel
theorem dL_law_210 : decode cL_law 210 = .ok (.aload_n 0, 1) := by decide +kernel
theorem dL_law_211 : decode cL_law 211 = .ok (.iload 4, 2) := by decide +kernel
theorem dL_law_213 : decode cL_law 213 = .ok (.iconst 1, 1) := by decide +kernel
theorem dL_law_214 : decode cL_law 214 = .ok (.iadd, 1) := by decide +kernel
theorem dL_law_215 : decode cL_law 215 = .ok (.iaload, 1) := by decide +kernel
theorem dL_law_216 : decode cL_law 216 = .ok (.aload_n 0, 1) := by decide +kernel
theorem dL_law_217 : decode cL_law 217 = .ok (.iload 4, 2) := by decide +kernel
theorem dL_law_219 : decode cL_law 219 = .ok (.iconst 2, 1) := by decide +kernel
theorem dL_law_220 : decode cL_law 220 = .ok (.iadd, 1) := by decide +kernel
theorem dL_law_221 : decode cL_law 221 = .ok (.iaload, 1) := by decide +kernel
theorem dL_law_222 : decode cL_law 222 = .ok (.aload_n 0, 1) := by decide +kernel
theorem dL_law_223 : decode cL_law 223 = .ok (.iload 4, 2) := by decide +kernel
theorem dL_law_225 : decode cL_law 225 = .ok (.iconst 3, 1) := by decide +kernel
theorem dL_law_226 : decode cL_law 226 = .ok (.iadd, 1) := by decide +kernel
theorem dL_law_227 : decode cL_law 227 = .ok (.iaload, 1) := by decide +kernel
theorem dL_law_228 : decode cL_law 228 = .ok (.invokevirtual 93, 3) := by decide +kernel
theorem dL_law_231 : decode cL_law 231 = .ok (.istore 6, 2) := by decide +kernel
theorem dL_law_233 : decode cL_law 233 = .ok (.aload_n 2, 1) := by decide +kernel
theorem dL_law_234 : decode cL_law 234 = .ok (.invokevirtual 86, 3) := by decide +kernel
theorem dL_law_237 : decode cL_law 237 = .ok (.iload 5, 2) := by decide +kernel
theorem dL_law_239 : decode cL_law 239 = .ok (.if_icmp .eq 5, 3) := by decide +kernel
theorem dL_law_242 : decode cL_law 242 = .ok (.iconst 0, 1) := by decide +kernel
theorem dL_law_243 : decode cL_law 243 = .ok (.ireturn, 1) := by decide +kernel
theorem dL_law_244 : decode cL_law 244 = .ok (.iload 5, 2) := by decide +kernel
theorem dL_law_246 : decode cL_law 246 = .ok (.ifCond .ne 15, 3) := by decide +kernel
theorem dL_law_249 : decode cL_law 249 = .ok (.aload_n 3, 1) := by decide +kernel
theorem dL_law_250 : decode cL_law 250 = .ok (.iconst 0, 1) := by decide +kernel
theorem dL_law_251 : decode cL_law 251 = .ok (.laload, 1) := by decide +kernel
theorem dL_law_252 : decode cL_law 252 = .ok (.iload 6, 2) := by decide +kernel
theorem dL_law_254 : decode cL_law 254 = .ok (.i2l, 1) := by decide +kernel
theorem dL_law_255 : decode cL_law 255 = .ok (.lcmp, 1) := by decide +kernel
theorem dL_law_256 : decode cL_law 256 = .ok (.ifCond .eq 5, 3) := by decide +kernel
theorem dL_law_259 : decode cL_law 259 = .ok (.iconst 0, 1) := by decide +kernel
theorem dL_law_260 : decode cL_law 260 = .ok (.ireturn, 1) := by decide +kernel
theorem dL_law_261 : decode cL_law 261 = .ok (.goto 1149, 3) := by decide +kernel
theorem dL_law_264 : decode cL_law 264 = .ok (.aload_n 1, 1) := by decide +kernel
theorem dL_law_265 : decode cL_law 265 = .ok (.aload_n 0, 1) := by decide +kernel
theorem dL_law_266 : decode cL_law 266 = .ok (.iload 4, 2) := by decide +kernel
theorem dL_law_268 : decode cL_law 268 = .ok (.iconst 1, 1) := by decide +kernel
theorem dL_law_269 : decode cL_law 269 = .ok (.iadd, 1) := by decide +kernel
theorem dL_law_270 : decode cL_law 270 = .ok (.iaload, 1) := by decide +kernel
theorem dL_law_271 : decode cL_law 271 = .ok (.aload_n 0, 1) := by decide +kernel
theorem dL_law_272 : decode cL_law 272 = .ok (.iload 4, 2) := by decide +kernel
theorem dL_law_274 : decode cL_law 274 = .ok (.iconst 2, 1) := by decide +kernel
theorem dL_law_275 : decode cL_law 275 = .ok (.iadd, 1) := by decide +kernel
theorem dL_law_276 : decode cL_law 276 = .ok (.iaload, 1) := by decide +kernel
theorem dL_law_277 : decode cL_law 277 = .ok (.aload_n 0, 1) := by decide +kernel
theorem dL_law_278 : decode cL_law 278 = .ok (.iload 4, 2) := by decide +kernel
theorem dL_law_280 : decode cL_law 280 = .ok (.iconst 3, 1) := by decide +kernel
theorem dL_law_281 : decode cL_law 281 = .ok (.iadd, 1) := by decide +kernel
theorem dL_law_282 : decode cL_law 282 = .ok (.iaload, 1) := by decide +kernel
theorem dL_law_283 : decode cL_law 283 = .ok (.aload_n 3, 1) := by decide +kernel
theorem dL_law_284 : decode cL_law 284 = .ok (.invokestatic 94, 3) := by decide +kernel
theorem dL_law_287 : decode cL_law 287 = .ok (.istore 5, 2) := by decide +kernel
theorem dL_law_289 : decode cL_law 289 = .ok (.aload_n 2, 1) := by decide +kernel
theorem dL_law_290 : decode cL_law 290 = .ok (.aload_n 0, 1) := by decide +kernel
theorem dL_law_291 : decode cL_law 291 = .ok (.iload 4, 2) := by decide +kernel
theorem dL_law_293 : decode cL_law 293 = .ok (.iconst 1, 1) := by decide +kernel
theorem dL_law_294 : decode cL_law 294 = .ok (.iadd, 1) := by decide +kernel
theorem dL_law_295 : decode cL_law 295 = .ok (.iaload, 1) := by decide +kernel
theorem dL_law_296 : decode cL_law 296 = .ok (.aload_n 0, 1) := by decide +kernel
theorem dL_law_297 : decode cL_law 297 = .ok (.iload 4, 2) := by decide +kernel
theorem dL_law_299 : decode cL_law 299 = .ok (.iconst 2, 1) := by decide +kernel
theorem dL_law_300 : decode cL_law 300 = .ok (.iadd, 1) := by decide +kernel
theorem dL_law_301 : decode cL_law 301 = .ok (.iaload, 1) := by decide +kernel
theorem dL_law_302 : decode cL_law 302 = .ok (.aload_n 0, 1) := by decide +kernel
theorem dL_law_303 : decode cL_law 303 = .ok (.iload 4, 2) := by decide +kernel
theorem dL_law_305 : decode cL_law 305 = .ok (.iconst 3, 1) := by decide +kernel
theorem dL_law_306 : decode cL_law 306 = .ok (.iadd, 1) := by decide +kernel
theorem dL_law_307 : decode cL_law 307 = .ok (.iaload, 1) := by decide +kernel
theorem dL_law_308 : decode cL_law 308 = .ok (.invokevirtual 96, 3) := by decide +kernel
theorem dL_law_311 : decode cL_law 311 = .ok (.istore 6, 2) := by decide +kernel
theorem dL_law_313 : decode cL_law 313 = .ok (.aload_n 2, 1) := by decide +kernel
theorem dL_law_314 : decode cL_law 314 = .ok (.invokevirtual 86, 3) := by decide +kernel
theorem dL_law_317 : decode cL_law 317 = .ok (.iload 5, 2) := by decide +kernel
theorem dL_law_319 : decode cL_law 319 = .ok (.if_icmp .eq 5, 3) := by decide +kernel
theorem dL_law_322 : decode cL_law 322 = .ok (.iconst 0, 1) := by decide +kernel
theorem dL_law_323 : decode cL_law 323 = .ok (.ireturn, 1) := by decide +kernel
theorem dL_law_324 : decode cL_law 324 = .ok (.iload 5, 2) := by decide +kernel
theorem dL_law_326 : decode cL_law 326 = .ok (.ifCond .ne 15, 3) := by decide +kernel
theorem dL_law_329 : decode cL_law 329 = .ok (.aload_n 3, 1) := by decide +kernel
theorem dL_law_330 : decode cL_law 330 = .ok (.iconst 0, 1) := by decide +kernel
theorem dL_law_331 : decode cL_law 331 = .ok (.laload, 1) := by decide +kernel
theorem dL_law_332 : decode cL_law 332 = .ok (.iload 6, 2) := by decide +kernel
theorem dL_law_334 : decode cL_law 334 = .ok (.i2l, 1) := by decide +kernel
theorem dL_law_335 : decode cL_law 335 = .ok (.lcmp, 1) := by decide +kernel
theorem dL_law_336 : decode cL_law 336 = .ok (.ifCond .eq 5, 3) := by decide +kernel
theorem dL_law_339 : decode cL_law 339 = .ok (.iconst 0, 1) := by decide +kernel
theorem dL_law_340 : decode cL_law 340 = .ok (.ireturn, 1) := by decide +kernel
theorem dL_law_341 : decode cL_law 341 = .ok (.goto 1069, 3) := by decide +kernel
theorem dL_law_344 : decode cL_law 344 = .ok (.aload_n 1, 1) := by decide +kernel
theorem dL_law_345 : decode cL_law 345 = .ok (.aload_n 0, 1) := by decide +kernel
theorem dL_law_346 : decode cL_law 346 = .ok (.iload 4, 2) := by decide +kernel
theorem dL_law_348 : decode cL_law 348 = .ok (.iconst 1, 1) := by decide +kernel
theorem dL_law_349 : decode cL_law 349 = .ok (.iadd, 1) := by decide +kernel
theorem dL_law_350 : decode cL_law 350 = .ok (.iaload, 1) := by decide +kernel
theorem dL_law_351 : decode cL_law 351 = .ok (.aload_n 0, 1) := by decide +kernel
theorem dL_law_352 : decode cL_law 352 = .ok (.iload 4, 2) := by decide +kernel
theorem dL_law_354 : decode cL_law 354 = .ok (.iconst 2, 1) := by decide +kernel
theorem dL_law_355 : decode cL_law 355 = .ok (.iadd, 1) := by decide +kernel
theorem dL_law_356 : decode cL_law 356 = .ok (.iaload, 1) := by decide +kernel
theorem dL_law_357 : decode cL_law 357 = .ok (.aload_n 3, 1) := by decide +kernel
theorem dL_law_358 : decode cL_law 358 = .ok (.invokestatic 97, 3) := by decide +kernel
theorem dL_law_361 : decode cL_law 361 = .ok (.istore 5, 2) := by decide +kernel
theorem dL_law_363 : decode cL_law 363 = .ok (.aload_n 2, 1) := by decide +kernel
theorem dL_law_364 : decode cL_law 364 = .ok (.aload_n 0, 1) := by decide +kernel
theorem dL_law_365 : decode cL_law 365 = .ok (.iload 4, 2) := by decide +kernel
theorem dL_law_367 : decode cL_law 367 = .ok (.iconst 1, 1) := by decide +kernel
theorem dL_law_368 : decode cL_law 368 = .ok (.iadd, 1) := by decide +kernel
theorem dL_law_369 : decode cL_law 369 = .ok (.iaload, 1) := by decide +kernel
theorem dL_law_370 : decode cL_law 370 = .ok (.aload_n 0, 1) := by decide +kernel
theorem dL_law_371 : decode cL_law 371 = .ok (.iload 4, 2) := by decide +kernel
theorem dL_law_373 : decode cL_law 373 = .ok (.iconst 2, 1) := by decide +kernel
theorem dL_law_374 : decode cL_law 374 = .ok (.iadd, 1) := by decide +kernel
theorem dL_law_375 : decode cL_law 375 = .ok (.iaload, 1) := by decide +kernel
theorem dL_law_376 : decode cL_law 376 = .ok (.invokevirtual 100, 3) := by decide +kernel
theorem dL_law_379 : decode cL_law 379 = .ok (.istore 6, 2) := by decide +kernel
theorem dL_law_381 : decode cL_law 381 = .ok (.aload_n 2, 1) := by decide +kernel
theorem dL_law_382 : decode cL_law 382 = .ok (.invokevirtual 86, 3) := by decide +kernel
theorem dL_law_385 : decode cL_law 385 = .ok (.iload 5, 2) := by decide +kernel
theorem dL_law_387 : decode cL_law 387 = .ok (.if_icmp .eq 5, 3) := by decide +kernel
theorem dL_law_390 : decode cL_law 390 = .ok (.iconst 0, 1) := by decide +kernel
theorem dL_law_391 : decode cL_law 391 = .ok (.ireturn, 1) := by decide +kernel
theorem dL_law_392 : decode cL_law 392 = .ok (.iload 5, 2) := by decide +kernel
theorem dL_law_394 : decode cL_law 394 = .ok (.ifCond .ne 15, 3) := by decide +kernel
theorem dL_law_397 : decode cL_law 397 = .ok (.aload_n 3, 1) := by decide +kernel
theorem dL_law_398 : decode cL_law 398 = .ok (.iconst 0, 1) := by decide +kernel
theorem dL_law_399 : decode cL_law 399 = .ok (.laload, 1) := by decide +kernel
theorem dL_law_400 : decode cL_law 400 = .ok (.iload 6, 2) := by decide +kernel
theorem dL_law_402 : decode cL_law 402 = .ok (.i2l, 1) := by decide +kernel
theorem dL_law_403 : decode cL_law 403 = .ok (.lcmp, 1) := by decide +kernel
theorem dL_law_404 : decode cL_law 404 = .ok (.ifCond .eq 5, 3) := by decide +kernel
theorem dL_law_407 : decode cL_law 407 = .ok (.iconst 0, 1) := by decide +kernel
theorem dL_law_408 : decode cL_law 408 = .ok (.ireturn, 1) := by decide +kernel
theorem dL_law_409 : decode cL_law 409 = .ok (.goto 1001, 3) := by decide +kernel
theorem dL_law_412 : decode cL_law 412 = .ok (.aload_n 1, 1) := by decide +kernel
theorem dL_law_413 : decode cL_law 413 = .ok (.aload_n 0, 1) := by decide +kernel
theorem dL_law_414 : decode cL_law 414 = .ok (.iload 4, 2) := by decide +kernel
theorem dL_law_416 : decode cL_law 416 = .ok (.iconst 1, 1) := by decide +kernel
theorem dL_law_417 : decode cL_law 417 = .ok (.iadd, 1) := by decide +kernel
theorem dL_law_418 : decode cL_law 418 = .ok (.iaload, 1) := by decide +kernel
theorem dL_law_419 : decode cL_law 419 = .ok (.aload_n 0, 1) := by decide +kernel
theorem dL_law_420 : decode cL_law 420 = .ok (.iload 4, 2) := by decide +kernel
theorem dL_law_422 : decode cL_law 422 = .ok (.iconst 2, 1) := by decide +kernel
theorem dL_law_423 : decode cL_law 423 = .ok (.iadd, 1) := by decide +kernel
theorem dL_law_424 : decode cL_law 424 = .ok (.iaload, 1) := by decide +kernel
theorem dL_law_425 : decode cL_law 425 = .ok (.aload_n 3, 1) := by decide +kernel
theorem dL_law_426 : decode cL_law 426 = .ok (.invokestatic 101, 3) := by decide +kernel
theorem dL_law_429 : decode cL_law 429 = .ok (.istore 5, 2) := by decide +kernel
theorem dL_law_431 : decode cL_law 431 = .ok (.aload_n 2, 1) := by decide +kernel
theorem dL_law_432 : decode cL_law 432 = .ok (.aload_n 0, 1) := by decide +kernel
theorem dL_law_433 : decode cL_law 433 = .ok (.iload 4, 2) := by decide +kernel
theorem dL_law_435 : decode cL_law 435 = .ok (.iconst 1, 1) := by decide +kernel
theorem dL_law_436 : decode cL_law 436 = .ok (.iadd, 1) := by decide +kernel
theorem dL_law_437 : decode cL_law 437 = .ok (.iaload, 1) := by decide +kernel
theorem dL_law_438 : decode cL_law 438 = .ok (.aload_n 0, 1) := by decide +kernel
theorem dL_law_439 : decode cL_law 439 = .ok (.iload 4, 2) := by decide +kernel
theorem dL_law_441 : decode cL_law 441 = .ok (.iconst 2, 1) := by decide +kernel
theorem dL_law_442 : decode cL_law 442 = .ok (.iadd, 1) := by decide +kernel
theorem dL_law_443 : decode cL_law 443 = .ok (.iaload, 1) := by decide +kernel
theorem dL_law_444 : decode cL_law 444 = .ok (.invokevirtual 103, 3) := by decide +kernel
theorem dL_law_447 : decode cL_law 447 = .ok (.istore 6, 2) := by decide +kernel
theorem dL_law_449 : decode cL_law 449 = .ok (.aload_n 2, 1) := by decide +kernel
theorem dL_law_450 : decode cL_law 450 = .ok (.invokevirtual 86, 3) := by decide +kernel
theorem dL_law_453 : decode cL_law 453 = .ok (.iload 5, 2) := by decide +kernel
theorem dL_law_455 : decode cL_law 455 = .ok (.if_icmp .eq 5, 3) := by decide +kernel
theorem dL_law_458 : decode cL_law 458 = .ok (.iconst 0, 1) := by decide +kernel
theorem dL_law_459 : decode cL_law 459 = .ok (.ireturn, 1) := by decide +kernel
theorem dL_law_460 : decode cL_law 460 = .ok (.iload 5, 2) := by decide +kernel
theorem dL_law_462 : decode cL_law 462 = .ok (.ifCond .ne 15, 3) := by decide +kernel
theorem dL_law_465 : decode cL_law 465 = .ok (.aload_n 3, 1) := by decide +kernel
theorem dL_law_466 : decode cL_law 466 = .ok (.iconst 0, 1) := by decide +kernel
theorem dL_law_467 : decode cL_law 467 = .ok (.laload, 1) := by decide +kernel
theorem dL_law_468 : decode cL_law 468 = .ok (.iload 6, 2) := by decide +kernel
theorem dL_law_470 : decode cL_law 470 = .ok (.i2l, 1) := by decide +kernel
theorem dL_law_471 : decode cL_law 471 = .ok (.lcmp, 1) := by decide +kernel
theorem dL_law_472 : decode cL_law 472 = .ok (.ifCond .eq 5, 3) := by decide +kernel
theorem dL_law_475 : decode cL_law 475 = .ok (.iconst 0, 1) := by decide +kernel
theorem dL_law_476 : decode cL_law 476 = .ok (.ireturn, 1) := by decide +kernel
theorem dL_law_477 : decode cL_law 477 = .ok (.goto 933, 3) := by decide +kernel
theorem dL_law_480 : decode cL_law 480 = .ok (.aload_n 1, 1) := by decide +kernel
theorem dL_law_481 : decode cL_law 481 = .ok (.aload_n 0, 1) := by decide +kernel
theorem dL_law_482 : decode cL_law 482 = .ok (.iload 4, 2) := by decide +kernel
theorem dL_law_484 : decode cL_law 484 = .ok (.iconst 1, 1) := by decide +kernel
theorem dL_law_485 : decode cL_law 485 = .ok (.iadd, 1) := by decide +kernel
theorem dL_law_486 : decode cL_law 486 = .ok (.iaload, 1) := by decide +kernel
theorem dL_law_487 : decode cL_law 487 = .ok (.aload_n 3, 1) := by decide +kernel
theorem dL_law_488 : decode cL_law 488 = .ok (.invokestatic 104, 3) := by decide +kernel
theorem dL_law_491 : decode cL_law 491 = .ok (.istore 5, 2) := by decide +kernel
theorem dL_law_493 : decode cL_law 493 = .ok (.aload_n 2, 1) := by decide +kernel
theorem dL_law_494 : decode cL_law 494 = .ok (.aload_n 0, 1) := by decide +kernel
theorem dL_law_495 : decode cL_law 495 = .ok (.iload 4, 2) := by decide +kernel
theorem dL_law_497 : decode cL_law 497 = .ok (.iconst 1, 1) := by decide +kernel
theorem dL_law_498 : decode cL_law 498 = .ok (.iadd, 1) := by decide +kernel
theorem dL_law_499 : decode cL_law 499 = .ok (.iaload, 1) := by decide +kernel
theorem dL_law_500 : decode cL_law 500 = .ok (.invokevirtual 106, 3) := by decide +kernel
theorem dL_law_503 : decode cL_law 503 = .ok (.istore 6, 2) := by decide +kernel
theorem dL_law_505 : decode cL_law 505 = .ok (.aload_n 2, 1) := by decide +kernel
theorem dL_law_506 : decode cL_law 506 = .ok (.invokevirtual 86, 3) := by decide +kernel
theorem dL_law_509 : decode cL_law 509 = .ok (.iload 5, 2) := by decide +kernel
theorem dL_law_511 : decode cL_law 511 = .ok (.if_icmp .eq 5, 3) := by decide +kernel
theorem dL_law_514 : decode cL_law 514 = .ok (.iconst 0, 1) := by decide +kernel
theorem dL_law_515 : decode cL_law 515 = .ok (.ireturn, 1) := by decide +kernel
theorem dL_law_516 : decode cL_law 516 = .ok (.iload 5, 2) := by decide +kernel
theorem dL_law_518 : decode cL_law 518 = .ok (.ifCond .ne 22, 3) := by decide +kernel
theorem dL_law_521 : decode cL_law 521 = .ok (.aload_n 3, 1) := by decide +kernel
theorem dL_law_522 : decode cL_law 522 = .ok (.iconst 0, 1) := by decide +kernel
theorem dL_law_523 : decode cL_law 523 = .ok (.laload, 1) := by decide +kernel
theorem dL_law_524 : decode cL_law 524 = .ok (.iload 6, 2) := by decide +kernel
theorem dL_law_526 : decode cL_law 526 = .ok (.ifCond .eq 7, 3) := by decide +kernel
theorem dL_law_529 : decode cL_law 529 = .ok (.lconst 1, 1) := by decide +kernel
theorem dL_law_530 : decode cL_law 530 = .ok (.goto 4, 3) := by decide +kernel
theorem dL_law_533 : decode cL_law 533 = .ok (.lconst 0, 1) := by decide +kernel
theorem dL_law_534 : decode cL_law 534 = .ok (.lcmp, 1) := by decide +kernel
theorem dL_law_535 : decode cL_law 535 = .ok (.ifCond .eq 5, 3) := by decide +kernel
theorem dL_law_538 : decode cL_law 538 = .ok (.iconst 0, 1) := by decide +kernel
theorem dL_law_539 : decode cL_law 539 = .ok (.ireturn, 1) := by decide +kernel
theorem dL_law_540 : decode cL_law 540 = .ok (.goto 870, 3) := by decide +kernel
theorem dL_law_543 : decode cL_law 543 = .ok (.aload_n 1, 1) := by decide +kernel
theorem dL_law_544 : decode cL_law 544 = .ok (.aload_n 0, 1) := by decide +kernel
theorem dL_law_545 : decode cL_law 545 = .ok (.iload 4, 2) := by decide +kernel
theorem dL_law_547 : decode cL_law 547 = .ok (.iconst 1, 1) := by decide +kernel
theorem dL_law_548 : decode cL_law 548 = .ok (.iadd, 1) := by decide +kernel
theorem dL_law_549 : decode cL_law 549 = .ok (.iaload, 1) := by decide +kernel
theorem dL_law_550 : decode cL_law 550 = .ok (.aload_n 0, 1) := by decide +kernel
theorem dL_law_551 : decode cL_law 551 = .ok (.iload 4, 2) := by decide +kernel
theorem dL_law_553 : decode cL_law 553 = .ok (.iconst 2, 1) := by decide +kernel
theorem dL_law_554 : decode cL_law 554 = .ok (.iadd, 1) := by decide +kernel
theorem dL_law_555 : decode cL_law 555 = .ok (.iaload, 1) := by decide +kernel
theorem dL_law_556 : decode cL_law 556 = .ok (.aload_n 0, 1) := by decide +kernel
theorem dL_law_557 : decode cL_law 557 = .ok (.iload 4, 2) := by decide +kernel
theorem dL_law_559 : decode cL_law 559 = .ok (.iconst 3, 1) := by decide +kernel
theorem dL_law_560 : decode cL_law 560 = .ok (.iadd, 1) := by decide +kernel
theorem dL_law_561 : decode cL_law 561 = .ok (.iaload, 1) := by decide +kernel
theorem dL_law_562 : decode cL_law 562 = .ok (.aload_n 3, 1) := by decide +kernel
theorem dL_law_563 : decode cL_law 563 = .ok (.invokestatic 107, 3) := by decide +kernel
theorem dL_law_566 : decode cL_law 566 = .ok (.istore 5, 2) := by decide +kernel
theorem dL_law_568 : decode cL_law 568 = .ok (.aload_n 2, 1) := by decide +kernel
theorem dL_law_569 : decode cL_law 569 = .ok (.aload_n 0, 1) := by decide +kernel
theorem dL_law_570 : decode cL_law 570 = .ok (.iload 4, 2) := by decide +kernel
theorem dL_law_572 : decode cL_law 572 = .ok (.iconst 1, 1) := by decide +kernel
theorem dL_law_573 : decode cL_law 573 = .ok (.iadd, 1) := by decide +kernel
theorem dL_law_574 : decode cL_law 574 = .ok (.iaload, 1) := by decide +kernel
theorem dL_law_575 : decode cL_law 575 = .ok (.aload_n 0, 1) := by decide +kernel
theorem dL_law_576 : decode cL_law 576 = .ok (.iload 4, 2) := by decide +kernel
theorem dL_law_578 : decode cL_law 578 = .ok (.iconst 2, 1) := by decide +kernel
theorem dL_law_579 : decode cL_law 579 = .ok (.iadd, 1) := by decide +kernel
theorem dL_law_580 : decode cL_law 580 = .ok (.iaload, 1) := by decide +kernel
theorem dL_law_581 : decode cL_law 581 = .ok (.aload_n 0, 1) := by decide +kernel
theorem dL_law_582 : decode cL_law 582 = .ok (.iload 4, 2) := by decide +kernel
theorem dL_law_584 : decode cL_law 584 = .ok (.iconst 3, 1) := by decide +kernel
theorem dL_law_585 : decode cL_law 585 = .ok (.iadd, 1) := by decide +kernel
theorem dL_law_586 : decode cL_law 586 = .ok (.iaload, 1) := by decide +kernel
theorem dL_law_587 : decode cL_law 587 = .ok (.invokevirtual 109, 3) := by decide +kernel
theorem dL_law_590 : decode cL_law 590 = .ok (.istore 6, 2) := by decide +kernel
theorem dL_law_592 : decode cL_law 592 = .ok (.aload_n 2, 1) := by decide +kernel
theorem dL_law_593 : decode cL_law 593 = .ok (.invokevirtual 86, 3) := by decide +kernel
theorem dL_law_596 : decode cL_law 596 = .ok (.iload 5, 2) := by decide +kernel
theorem dL_law_598 : decode cL_law 598 = .ok (.if_icmp .eq 5, 3) := by decide +kernel
theorem dL_law_601 : decode cL_law 601 = .ok (.iconst 0, 1) := by decide +kernel
theorem dL_law_602 : decode cL_law 602 = .ok (.ireturn, 1) := by decide +kernel
theorem dL_law_603 : decode cL_law 603 = .ok (.iload 5, 2) := by decide +kernel
theorem dL_law_605 : decode cL_law 605 = .ok (.ifCond .ne 15, 3) := by decide +kernel
theorem dL_law_608 : decode cL_law 608 = .ok (.aload_n 3, 1) := by decide +kernel
theorem dL_law_609 : decode cL_law 609 = .ok (.iconst 0, 1) := by decide +kernel
theorem dL_law_610 : decode cL_law 610 = .ok (.laload, 1) := by decide +kernel
theorem dL_law_611 : decode cL_law 611 = .ok (.iload 6, 2) := by decide +kernel
theorem dL_law_613 : decode cL_law 613 = .ok (.i2l, 1) := by decide +kernel
theorem dL_law_614 : decode cL_law 614 = .ok (.lcmp, 1) := by decide +kernel
theorem dL_law_615 : decode cL_law 615 = .ok (.ifCond .eq 5, 3) := by decide +kernel
theorem dL_law_618 : decode cL_law 618 = .ok (.iconst 0, 1) := by decide +kernel
theorem dL_law_619 : decode cL_law 619 = .ok (.ireturn, 1) := by decide +kernel
theorem dL_law_620 : decode cL_law 620 = .ok (.goto 790, 3) := by decide +kernel
theorem dL_law_623 : decode cL_law 623 = .ok (.aload_n 1, 1) := by decide +kernel
theorem dL_law_624 : decode cL_law 624 = .ok (.aload_n 0, 1) := by decide +kernel
theorem dL_law_625 : decode cL_law 625 = .ok (.iload 4, 2) := by decide +kernel
theorem dL_law_627 : decode cL_law 627 = .ok (.iconst 1, 1) := by decide +kernel
theorem dL_law_628 : decode cL_law 628 = .ok (.iadd, 1) := by decide +kernel
theorem dL_law_629 : decode cL_law 629 = .ok (.iaload, 1) := by decide +kernel
theorem dL_law_630 : decode cL_law 630 = .ok (.aload_n 3, 1) := by decide +kernel
theorem dL_law_631 : decode cL_law 631 = .ok (.invokestatic 110, 3) := by decide +kernel
theorem dL_law_634 : decode cL_law 634 = .ok (.istore 5, 2) := by decide +kernel
theorem dL_law_636 : decode cL_law 636 = .ok (.aload_n 2, 1) := by decide +kernel
theorem dL_law_637 : decode cL_law 637 = .ok (.aload_n 0, 1) := by decide +kernel
theorem dL_law_638 : decode cL_law 638 = .ok (.iload 4, 2) := by decide +kernel
theorem dL_law_640 : decode cL_law 640 = .ok (.iconst 1, 1) := by decide +kernel
theorem dL_law_641 : decode cL_law 641 = .ok (.iadd, 1) := by decide +kernel
theorem dL_law_642 : decode cL_law 642 = .ok (.iaload, 1) := by decide +kernel
theorem dL_law_643 : decode cL_law 643 = .ok (.invokevirtual 112, 3) := by decide +kernel
theorem dL_law_646 : decode cL_law 646 = .ok (.istore 6, 2) := by decide +kernel
theorem dL_law_648 : decode cL_law 648 = .ok (.aload_n 2, 1) := by decide +kernel
theorem dL_law_649 : decode cL_law 649 = .ok (.invokevirtual 86, 3) := by decide +kernel
theorem dL_law_652 : decode cL_law 652 = .ok (.iload 5, 2) := by decide +kernel
theorem dL_law_654 : decode cL_law 654 = .ok (.if_icmp .eq 5, 3) := by decide +kernel
theorem dL_law_657 : decode cL_law 657 = .ok (.iconst 0, 1) := by decide +kernel
theorem dL_law_658 : decode cL_law 658 = .ok (.ireturn, 1) := by decide +kernel
theorem dL_law_659 : decode cL_law 659 = .ok (.iload 5, 2) := by decide +kernel
theorem dL_law_661 : decode cL_law 661 = .ok (.ifCond .ne 15, 3) := by decide +kernel
theorem dL_law_664 : decode cL_law 664 = .ok (.aload_n 3, 1) := by decide +kernel
theorem dL_law_665 : decode cL_law 665 = .ok (.iconst 0, 1) := by decide +kernel
theorem dL_law_666 : decode cL_law 666 = .ok (.laload, 1) := by decide +kernel
theorem dL_law_667 : decode cL_law 667 = .ok (.iload 6, 2) := by decide +kernel
theorem dL_law_669 : decode cL_law 669 = .ok (.i2l, 1) := by decide +kernel
theorem dL_law_670 : decode cL_law 670 = .ok (.lcmp, 1) := by decide +kernel
theorem dL_law_671 : decode cL_law 671 = .ok (.ifCond .eq 5, 3) := by decide +kernel
theorem dL_law_674 : decode cL_law 674 = .ok (.iconst 0, 1) := by decide +kernel
theorem dL_law_675 : decode cL_law 675 = .ok (.ireturn, 1) := by decide +kernel
theorem dL_law_676 : decode cL_law 676 = .ok (.goto 734, 3) := by decide +kernel
theorem dL_law_679 : decode cL_law 679 = .ok (.aload_n 1, 1) := by decide +kernel
theorem dL_law_680 : decode cL_law 680 = .ok (.aload_n 0, 1) := by decide +kernel
theorem dL_law_681 : decode cL_law 681 = .ok (.iload 4, 2) := by decide +kernel
theorem dL_law_683 : decode cL_law 683 = .ok (.iconst 1, 1) := by decide +kernel
theorem dL_law_684 : decode cL_law 684 = .ok (.iadd, 1) := by decide +kernel
theorem dL_law_685 : decode cL_law 685 = .ok (.iaload, 1) := by decide +kernel
theorem dL_law_686 : decode cL_law 686 = .ok (.aload_n 0, 1) := by decide +kernel
theorem dL_law_687 : decode cL_law 687 = .ok (.iload 4, 2) := by decide +kernel
theorem dL_law_689 : decode cL_law 689 = .ok (.iconst 2, 1) := by decide +kernel
theorem dL_law_690 : decode cL_law 690 = .ok (.iadd, 1) := by decide +kernel
theorem dL_law_691 : decode cL_law 691 = .ok (.iaload, 1) := by decide +kernel
theorem dL_law_692 : decode cL_law 692 = .ok (.aload_n 3, 1) := by decide +kernel
theorem dL_law_693 : decode cL_law 693 = .ok (.invokestatic 113, 3) := by decide +kernel
theorem dL_law_696 : decode cL_law 696 = .ok (.istore 5, 2) := by decide +kernel
theorem dL_law_698 : decode cL_law 698 = .ok (.aload_n 2, 1) := by decide +kernel
theorem dL_law_699 : decode cL_law 699 = .ok (.aload_n 0, 1) := by decide +kernel
theorem dL_law_700 : decode cL_law 700 = .ok (.iload 4, 2) := by decide +kernel
theorem dL_law_702 : decode cL_law 702 = .ok (.iconst 1, 1) := by decide +kernel
theorem dL_law_703 : decode cL_law 703 = .ok (.iadd, 1) := by decide +kernel
theorem dL_law_704 : decode cL_law 704 = .ok (.iaload, 1) := by decide +kernel
theorem dL_law_705 : decode cL_law 705 = .ok (.aload_n 0, 1) := by decide +kernel
theorem dL_law_706 : decode cL_law 706 = .ok (.iload 4, 2) := by decide +kernel
theorem dL_law_708 : decode cL_law 708 = .ok (.iconst 2, 1) := by decide +kernel
theorem dL_law_709 : decode cL_law 709 = .ok (.iadd, 1) := by decide +kernel
theorem dL_law_710 : decode cL_law 710 = .ok (.iaload, 1) := by decide +kernel
theorem dL_law_711 : decode cL_law 711 = .ok (.invokevirtual 115, 3) := by decide +kernel
theorem dL_law_714 : decode cL_law 714 = .ok (.istore 6, 2) := by decide +kernel
theorem dL_law_716 : decode cL_law 716 = .ok (.aload_n 2, 1) := by decide +kernel
theorem dL_law_717 : decode cL_law 717 = .ok (.invokevirtual 86, 3) := by decide +kernel
theorem dL_law_720 : decode cL_law 720 = .ok (.iload 5, 2) := by decide +kernel
theorem dL_law_722 : decode cL_law 722 = .ok (.if_icmp .eq 5, 3) := by decide +kernel
theorem dL_law_725 : decode cL_law 725 = .ok (.iconst 0, 1) := by decide +kernel
theorem dL_law_726 : decode cL_law 726 = .ok (.ireturn, 1) := by decide +kernel
theorem dL_law_727 : decode cL_law 727 = .ok (.iload 5, 2) := by decide +kernel
theorem dL_law_729 : decode cL_law 729 = .ok (.ifCond .ne 15, 3) := by decide +kernel
theorem dL_law_732 : decode cL_law 732 = .ok (.aload_n 3, 1) := by decide +kernel
theorem dL_law_733 : decode cL_law 733 = .ok (.iconst 0, 1) := by decide +kernel
theorem dL_law_734 : decode cL_law 734 = .ok (.laload, 1) := by decide +kernel
theorem dL_law_735 : decode cL_law 735 = .ok (.iload 6, 2) := by decide +kernel
theorem dL_law_737 : decode cL_law 737 = .ok (.i2l, 1) := by decide +kernel
theorem dL_law_738 : decode cL_law 738 = .ok (.lcmp, 1) := by decide +kernel
theorem dL_law_739 : decode cL_law 739 = .ok (.ifCond .eq 5, 3) := by decide +kernel
theorem dL_law_742 : decode cL_law 742 = .ok (.iconst 0, 1) := by decide +kernel
theorem dL_law_743 : decode cL_law 743 = .ok (.ireturn, 1) := by decide +kernel
theorem dL_law_744 : decode cL_law 744 = .ok (.goto 666, 3) := by decide +kernel
theorem dL_law_747 : decode cL_law 747 = .ok (.aload_n 1, 1) := by decide +kernel
theorem dL_law_748 : decode cL_law 748 = .ok (.aload_n 0, 1) := by decide +kernel
theorem dL_law_749 : decode cL_law 749 = .ok (.iload 4, 2) := by decide +kernel
theorem dL_law_751 : decode cL_law 751 = .ok (.iconst 1, 1) := by decide +kernel
theorem dL_law_752 : decode cL_law 752 = .ok (.iadd, 1) := by decide +kernel
theorem dL_law_753 : decode cL_law 753 = .ok (.iaload, 1) := by decide +kernel
theorem dL_law_754 : decode cL_law 754 = .ok (.aload_n 3, 1) := by decide +kernel
theorem dL_law_755 : decode cL_law 755 = .ok (.invokestatic 116, 3) := by decide +kernel
theorem dL_law_758 : decode cL_law 758 = .ok (.istore 5, 2) := by decide +kernel
theorem dL_law_760 : decode cL_law 760 = .ok (.aload_n 2, 1) := by decide +kernel
theorem dL_law_761 : decode cL_law 761 = .ok (.aload_n 0, 1) := by decide +kernel
theorem dL_law_762 : decode cL_law 762 = .ok (.iload 4, 2) := by decide +kernel
theorem dL_law_764 : decode cL_law 764 = .ok (.iconst 1, 1) := by decide +kernel
theorem dL_law_765 : decode cL_law 765 = .ok (.iadd, 1) := by decide +kernel
theorem dL_law_766 : decode cL_law 766 = .ok (.iaload, 1) := by decide +kernel
theorem dL_law_767 : decode cL_law 767 = .ok (.invokevirtual 118, 3) := by decide +kernel
theorem dL_law_770 : decode cL_law 770 = .ok (.istore 6, 2) := by decide +kernel
theorem dL_law_772 : decode cL_law 772 = .ok (.aload_n 2, 1) := by decide +kernel
theorem dL_law_773 : decode cL_law 773 = .ok (.invokevirtual 86, 3) := by decide +kernel
theorem dL_law_776 : decode cL_law 776 = .ok (.iload 5, 2) := by decide +kernel
theorem dL_law_778 : decode cL_law 778 = .ok (.if_icmp .eq 5, 3) := by decide +kernel
theorem dL_law_781 : decode cL_law 781 = .ok (.iconst 0, 1) := by decide +kernel
theorem dL_law_782 : decode cL_law 782 = .ok (.ireturn, 1) := by decide +kernel
theorem dL_law_783 : decode cL_law 783 = .ok (.iload 5, 2) := by decide +kernel
theorem dL_law_785 : decode cL_law 785 = .ok (.ifCond .ne 15, 3) := by decide +kernel
theorem dL_law_788 : decode cL_law 788 = .ok (.aload_n 3, 1) := by decide +kernel
theorem dL_law_789 : decode cL_law 789 = .ok (.iconst 0, 1) := by decide +kernel
theorem dL_law_790 : decode cL_law 790 = .ok (.laload, 1) := by decide +kernel
theorem dL_law_791 : decode cL_law 791 = .ok (.iload 6, 2) := by decide +kernel
theorem dL_law_793 : decode cL_law 793 = .ok (.i2l, 1) := by decide +kernel
theorem dL_law_794 : decode cL_law 794 = .ok (.lcmp, 1) := by decide +kernel
theorem dL_law_795 : decode cL_law 795 = .ok (.ifCond .eq 5, 3) := by decide +kernel
theorem dL_law_798 : decode cL_law 798 = .ok (.iconst 0, 1) := by decide +kernel
theorem dL_law_799 : decode cL_law 799 = .ok (.ireturn, 1) := by decide +kernel
theorem dL_law_800 : decode cL_law 800 = .ok (.goto 610, 3) := by decide +kernel
theorem dL_law_803 : decode cL_law 803 = .ok (.aload_n 1, 1) := by decide +kernel
theorem dL_law_804 : decode cL_law 804 = .ok (.aload_n 0, 1) := by decide +kernel
theorem dL_law_805 : decode cL_law 805 = .ok (.iload 4, 2) := by decide +kernel
theorem dL_law_807 : decode cL_law 807 = .ok (.iconst 1, 1) := by decide +kernel
theorem dL_law_808 : decode cL_law 808 = .ok (.iadd, 1) := by decide +kernel
theorem dL_law_809 : decode cL_law 809 = .ok (.iaload, 1) := by decide +kernel
theorem dL_law_810 : decode cL_law 810 = .ok (.aload_n 3, 1) := by decide +kernel
theorem dL_law_811 : decode cL_law 811 = .ok (.invokestatic 119, 3) := by decide +kernel
theorem dL_law_814 : decode cL_law 814 = .ok (.istore 5, 2) := by decide +kernel
theorem dL_law_816 : decode cL_law 816 = .ok (.aload_n 2, 1) := by decide +kernel
theorem dL_law_817 : decode cL_law 817 = .ok (.aload_n 0, 1) := by decide +kernel
theorem dL_law_818 : decode cL_law 818 = .ok (.iload 4, 2) := by decide +kernel
theorem dL_law_820 : decode cL_law 820 = .ok (.iconst 1, 1) := by decide +kernel
theorem dL_law_821 : decode cL_law 821 = .ok (.iadd, 1) := by decide +kernel
theorem dL_law_822 : decode cL_law 822 = .ok (.iaload, 1) := by decide +kernel
theorem dL_law_823 : decode cL_law 823 = .ok (.invokevirtual 121, 3) := by decide +kernel
theorem dL_law_826 : decode cL_law 826 = .ok (.istore 6, 2) := by decide +kernel
theorem dL_law_828 : decode cL_law 828 = .ok (.aload_n 2, 1) := by decide +kernel
theorem dL_law_829 : decode cL_law 829 = .ok (.invokevirtual 86, 3) := by decide +kernel
theorem dL_law_832 : decode cL_law 832 = .ok (.iload 5, 2) := by decide +kernel
theorem dL_law_834 : decode cL_law 834 = .ok (.if_icmp .eq 5, 3) := by decide +kernel
theorem dL_law_837 : decode cL_law 837 = .ok (.iconst 0, 1) := by decide +kernel
theorem dL_law_838 : decode cL_law 838 = .ok (.ireturn, 1) := by decide +kernel
theorem dL_law_839 : decode cL_law 839 = .ok (.iload 5, 2) := by decide +kernel
theorem dL_law_841 : decode cL_law 841 = .ok (.ifCond .ne 22, 3) := by decide +kernel
theorem dL_law_844 : decode cL_law 844 = .ok (.aload_n 3, 1) := by decide +kernel
theorem dL_law_845 : decode cL_law 845 = .ok (.iconst 0, 1) := by decide +kernel
theorem dL_law_846 : decode cL_law 846 = .ok (.laload, 1) := by decide +kernel
theorem dL_law_847 : decode cL_law 847 = .ok (.iload 6, 2) := by decide +kernel
theorem dL_law_849 : decode cL_law 849 = .ok (.ifCond .eq 7, 3) := by decide +kernel
theorem dL_law_852 : decode cL_law 852 = .ok (.lconst 1, 1) := by decide +kernel
theorem dL_law_853 : decode cL_law 853 = .ok (.goto 4, 3) := by decide +kernel
theorem dL_law_856 : decode cL_law 856 = .ok (.lconst 0, 1) := by decide +kernel
theorem dL_law_857 : decode cL_law 857 = .ok (.lcmp, 1) := by decide +kernel
theorem dL_law_858 : decode cL_law 858 = .ok (.ifCond .eq 5, 3) := by decide +kernel
theorem dL_law_861 : decode cL_law 861 = .ok (.iconst 0, 1) := by decide +kernel
theorem dL_law_862 : decode cL_law 862 = .ok (.ireturn, 1) := by decide +kernel
theorem dL_law_863 : decode cL_law 863 = .ok (.goto 547, 3) := by decide +kernel
theorem dL_law_866 : decode cL_law 866 = .ok (.aload_n 1, 1) := by decide +kernel
theorem dL_law_867 : decode cL_law 867 = .ok (.aload_n 0, 1) := by decide +kernel
theorem dL_law_868 : decode cL_law 868 = .ok (.iload 4, 2) := by decide +kernel
theorem dL_law_870 : decode cL_law 870 = .ok (.iconst 1, 1) := by decide +kernel
theorem dL_law_871 : decode cL_law 871 = .ok (.iadd, 1) := by decide +kernel
theorem dL_law_872 : decode cL_law 872 = .ok (.iaload, 1) := by decide +kernel
theorem dL_law_873 : decode cL_law 873 = .ok (.aload_n 0, 1) := by decide +kernel
theorem dL_law_874 : decode cL_law 874 = .ok (.iload 4, 2) := by decide +kernel
theorem dL_law_876 : decode cL_law 876 = .ok (.iconst 2, 1) := by decide +kernel
theorem dL_law_877 : decode cL_law 877 = .ok (.iadd, 1) := by decide +kernel
theorem dL_law_878 : decode cL_law 878 = .ok (.iaload, 1) := by decide +kernel
theorem dL_law_879 : decode cL_law 879 = .ok (.aload_n 3, 1) := by decide +kernel
theorem dL_law_880 : decode cL_law 880 = .ok (.invokestatic 122, 3) := by decide +kernel
theorem dL_law_883 : decode cL_law 883 = .ok (.istore 5, 2) := by decide +kernel
theorem dL_law_885 : decode cL_law 885 = .ok (.aload_n 2, 1) := by decide +kernel
theorem dL_law_886 : decode cL_law 886 = .ok (.aload_n 0, 1) := by decide +kernel
theorem dL_law_887 : decode cL_law 887 = .ok (.iload 4, 2) := by decide +kernel
theorem dL_law_889 : decode cL_law 889 = .ok (.iconst 1, 1) := by decide +kernel
theorem dL_law_890 : decode cL_law 890 = .ok (.iadd, 1) := by decide +kernel
theorem dL_law_891 : decode cL_law 891 = .ok (.iaload, 1) := by decide +kernel
theorem dL_law_892 : decode cL_law 892 = .ok (.aload_n 0, 1) := by decide +kernel
theorem dL_law_893 : decode cL_law 893 = .ok (.iload 4, 2) := by decide +kernel
theorem dL_law_895 : decode cL_law 895 = .ok (.iconst 2, 1) := by decide +kernel
theorem dL_law_896 : decode cL_law 896 = .ok (.iadd, 1) := by decide +kernel
theorem dL_law_897 : decode cL_law 897 = .ok (.iaload, 1) := by decide +kernel
theorem dL_law_898 : decode cL_law 898 = .ok (.invokevirtual 124, 3) := by decide +kernel
theorem dL_law_901 : decode cL_law 901 = .ok (.istore 6, 2) := by decide +kernel
theorem dL_law_903 : decode cL_law 903 = .ok (.aload_n 2, 1) := by decide +kernel
theorem dL_law_904 : decode cL_law 904 = .ok (.invokevirtual 86, 3) := by decide +kernel
theorem dL_law_907 : decode cL_law 907 = .ok (.iload 5, 2) := by decide +kernel
theorem dL_law_909 : decode cL_law 909 = .ok (.if_icmp .eq 5, 3) := by decide +kernel
theorem dL_law_912 : decode cL_law 912 = .ok (.iconst 0, 1) := by decide +kernel
theorem dL_law_913 : decode cL_law 913 = .ok (.ireturn, 1) := by decide +kernel
theorem dL_law_914 : decode cL_law 914 = .ok (.iload 5, 2) := by decide +kernel
theorem dL_law_916 : decode cL_law 916 = .ok (.ifCond .ne 15, 3) := by decide +kernel
theorem dL_law_919 : decode cL_law 919 = .ok (.aload_n 3, 1) := by decide +kernel
theorem dL_law_920 : decode cL_law 920 = .ok (.iconst 0, 1) := by decide +kernel
theorem dL_law_921 : decode cL_law 921 = .ok (.laload, 1) := by decide +kernel
theorem dL_law_922 : decode cL_law 922 = .ok (.iload 6, 2) := by decide +kernel
theorem dL_law_924 : decode cL_law 924 = .ok (.i2l, 1) := by decide +kernel
theorem dL_law_925 : decode cL_law 925 = .ok (.lcmp, 1) := by decide +kernel
theorem dL_law_926 : decode cL_law 926 = .ok (.ifCond .eq 5, 3) := by decide +kernel
theorem dL_law_929 : decode cL_law 929 = .ok (.iconst 0, 1) := by decide +kernel
theorem dL_law_930 : decode cL_law 930 = .ok (.ireturn, 1) := by decide +kernel
theorem dL_law_931 : decode cL_law 931 = .ok (.goto 479, 3) := by decide +kernel
theorem dL_law_934 : decode cL_law 934 = .ok (.aload_n 1, 1) := by decide +kernel
theorem dL_law_935 : decode cL_law 935 = .ok (.aload_n 0, 1) := by decide +kernel
theorem dL_law_936 : decode cL_law 936 = .ok (.iload 4, 2) := by decide +kernel
theorem dL_law_938 : decode cL_law 938 = .ok (.iconst 1, 1) := by decide +kernel
theorem dL_law_939 : decode cL_law 939 = .ok (.iadd, 1) := by decide +kernel
theorem dL_law_940 : decode cL_law 940 = .ok (.iaload, 1) := by decide +kernel
theorem dL_law_941 : decode cL_law 941 = .ok (.aload_n 0, 1) := by decide +kernel
theorem dL_law_942 : decode cL_law 942 = .ok (.iload 4, 2) := by decide +kernel
theorem dL_law_944 : decode cL_law 944 = .ok (.iconst 2, 1) := by decide +kernel
theorem dL_law_945 : decode cL_law 945 = .ok (.iadd, 1) := by decide +kernel
theorem dL_law_946 : decode cL_law 946 = .ok (.iaload, 1) := by decide +kernel
theorem dL_law_947 : decode cL_law 947 = .ok (.aload_n 0, 1) := by decide +kernel
theorem dL_law_948 : decode cL_law 948 = .ok (.iload 4, 2) := by decide +kernel
theorem dL_law_950 : decode cL_law 950 = .ok (.iconst 3, 1) := by decide +kernel
theorem dL_law_951 : decode cL_law 951 = .ok (.iadd, 1) := by decide +kernel
theorem dL_law_952 : decode cL_law 952 = .ok (.iaload, 1) := by decide +kernel
theorem dL_law_953 : decode cL_law 953 = .ok (.aload_n 3, 1) := by decide +kernel
theorem dL_law_954 : decode cL_law 954 = .ok (.invokestatic 125, 3) := by decide +kernel
theorem dL_law_957 : decode cL_law 957 = .ok (.istore 5, 2) := by decide +kernel
theorem dL_law_959 : decode cL_law 959 = .ok (.aload_n 2, 1) := by decide +kernel
theorem dL_law_960 : decode cL_law 960 = .ok (.aload_n 0, 1) := by decide +kernel
theorem dL_law_961 : decode cL_law 961 = .ok (.iload 4, 2) := by decide +kernel
theorem dL_law_963 : decode cL_law 963 = .ok (.iconst 1, 1) := by decide +kernel
theorem dL_law_964 : decode cL_law 964 = .ok (.iadd, 1) := by decide +kernel
theorem dL_law_965 : decode cL_law 965 = .ok (.iaload, 1) := by decide +kernel
theorem dL_law_966 : decode cL_law 966 = .ok (.aload_n 0, 1) := by decide +kernel
theorem dL_law_967 : decode cL_law 967 = .ok (.iload 4, 2) := by decide +kernel
theorem dL_law_969 : decode cL_law 969 = .ok (.iconst 2, 1) := by decide +kernel
theorem dL_law_970 : decode cL_law 970 = .ok (.iadd, 1) := by decide +kernel
theorem dL_law_971 : decode cL_law 971 = .ok (.iaload, 1) := by decide +kernel
theorem dL_law_972 : decode cL_law 972 = .ok (.aload_n 0, 1) := by decide +kernel
theorem dL_law_973 : decode cL_law 973 = .ok (.iload 4, 2) := by decide +kernel
theorem dL_law_975 : decode cL_law 975 = .ok (.iconst 3, 1) := by decide +kernel
theorem dL_law_976 : decode cL_law 976 = .ok (.iadd, 1) := by decide +kernel
theorem dL_law_977 : decode cL_law 977 = .ok (.iaload, 1) := by decide +kernel
theorem dL_law_978 : decode cL_law 978 = .ok (.invokevirtual 127, 3) := by decide +kernel
theorem dL_law_981 : decode cL_law 981 = .ok (.istore 6, 2) := by decide +kernel
theorem dL_law_983 : decode cL_law 983 = .ok (.aload_n 2, 1) := by decide +kernel
theorem dL_law_984 : decode cL_law 984 = .ok (.invokevirtual 86, 3) := by decide +kernel
theorem dL_law_987 : decode cL_law 987 = .ok (.iload 5, 2) := by decide +kernel
theorem dL_law_989 : decode cL_law 989 = .ok (.if_icmp .eq 5, 3) := by decide +kernel
theorem dL_law_992 : decode cL_law 992 = .ok (.iconst 0, 1) := by decide +kernel
theorem dL_law_993 : decode cL_law 993 = .ok (.ireturn, 1) := by decide +kernel
theorem dL_law_994 : decode cL_law 994 = .ok (.iload 5, 2) := by decide +kernel
theorem dL_law_996 : decode cL_law 996 = .ok (.ifCond .ne 15, 3) := by decide +kernel
theorem dL_law_999 : decode cL_law 999 = .ok (.aload_n 3, 1) := by decide +kernel
theorem dL_law_1000 : decode cL_law 1000 = .ok (.iconst 0, 1) := by decide +kernel
theorem dL_law_1001 : decode cL_law 1001 = .ok (.laload, 1) := by decide +kernel
theorem dL_law_1002 : decode cL_law 1002 = .ok (.iload 6, 2) := by decide +kernel
theorem dL_law_1004 : decode cL_law 1004 = .ok (.i2l, 1) := by decide +kernel
theorem dL_law_1005 : decode cL_law 1005 = .ok (.lcmp, 1) := by decide +kernel
theorem dL_law_1006 : decode cL_law 1006 = .ok (.ifCond .eq 5, 3) := by decide +kernel
theorem dL_law_1009 : decode cL_law 1009 = .ok (.iconst 0, 1) := by decide +kernel
theorem dL_law_1010 : decode cL_law 1010 = .ok (.ireturn, 1) := by decide +kernel
theorem dL_law_1011 : decode cL_law 1011 = .ok (.goto 399, 3) := by decide +kernel
theorem dL_law_1014 : decode cL_law 1014 = .ok (.aload_n 1, 1) := by decide +kernel
theorem dL_law_1015 : decode cL_law 1015 = .ok (.aload_n 0, 1) := by decide +kernel
theorem dL_law_1016 : decode cL_law 1016 = .ok (.iload 4, 2) := by decide +kernel
theorem dL_law_1018 : decode cL_law 1018 = .ok (.iconst 1, 1) := by decide +kernel
theorem dL_law_1019 : decode cL_law 1019 = .ok (.iadd, 1) := by decide +kernel
theorem dL_law_1020 : decode cL_law 1020 = .ok (.iaload, 1) := by decide +kernel
theorem dL_law_1021 : decode cL_law 1021 = .ok (.aload_n 0, 1) := by decide +kernel
theorem dL_law_1022 : decode cL_law 1022 = .ok (.iload 4, 2) := by decide +kernel
theorem dL_law_1024 : decode cL_law 1024 = .ok (.iconst 2, 1) := by decide +kernel
theorem dL_law_1025 : decode cL_law 1025 = .ok (.iadd, 1) := by decide +kernel
theorem dL_law_1026 : decode cL_law 1026 = .ok (.iaload, 1) := by decide +kernel
theorem dL_law_1027 : decode cL_law 1027 = .ok (.aload_n 3, 1) := by decide +kernel
theorem dL_law_1028 : decode cL_law 1028 = .ok (.invokestatic 128, 3) := by decide +kernel
theorem dL_law_1031 : decode cL_law 1031 = .ok (.istore 5, 2) := by decide +kernel
theorem dL_law_1033 : decode cL_law 1033 = .ok (.aload_n 2, 1) := by decide +kernel
theorem dL_law_1034 : decode cL_law 1034 = .ok (.aload_n 0, 1) := by decide +kernel
theorem dL_law_1035 : decode cL_law 1035 = .ok (.iload 4, 2) := by decide +kernel
theorem dL_law_1037 : decode cL_law 1037 = .ok (.iconst 1, 1) := by decide +kernel
theorem dL_law_1038 : decode cL_law 1038 = .ok (.iadd, 1) := by decide +kernel
theorem dL_law_1039 : decode cL_law 1039 = .ok (.iaload, 1) := by decide +kernel
theorem dL_law_1040 : decode cL_law 1040 = .ok (.aload_n 0, 1) := by decide +kernel
theorem dL_law_1041 : decode cL_law 1041 = .ok (.iload 4, 2) := by decide +kernel
theorem dL_law_1043 : decode cL_law 1043 = .ok (.iconst 2, 1) := by decide +kernel
theorem dL_law_1044 : decode cL_law 1044 = .ok (.iadd, 1) := by decide +kernel
theorem dL_law_1045 : decode cL_law 1045 = .ok (.iaload, 1) := by decide +kernel
theorem dL_law_1046 : decode cL_law 1046 = .ok (.invokevirtual 130, 3) := by decide +kernel
theorem dL_law_1049 : decode cL_law 1049 = .ok (.istore 6, 2) := by decide +kernel
theorem dL_law_1051 : decode cL_law 1051 = .ok (.aload_n 2, 1) := by decide +kernel
theorem dL_law_1052 : decode cL_law 1052 = .ok (.invokevirtual 86, 3) := by decide +kernel
theorem dL_law_1055 : decode cL_law 1055 = .ok (.iload 5, 2) := by decide +kernel
theorem dL_law_1057 : decode cL_law 1057 = .ok (.if_icmp .eq 5, 3) := by decide +kernel
theorem dL_law_1060 : decode cL_law 1060 = .ok (.iconst 0, 1) := by decide +kernel
theorem dL_law_1061 : decode cL_law 1061 = .ok (.ireturn, 1) := by decide +kernel
theorem dL_law_1062 : decode cL_law 1062 = .ok (.iload 5, 2) := by decide +kernel
theorem dL_law_1064 : decode cL_law 1064 = .ok (.ifCond .ne 15, 3) := by decide +kernel
theorem dL_law_1067 : decode cL_law 1067 = .ok (.aload_n 3, 1) := by decide +kernel
theorem dL_law_1068 : decode cL_law 1068 = .ok (.iconst 0, 1) := by decide +kernel
theorem dL_law_1069 : decode cL_law 1069 = .ok (.laload, 1) := by decide +kernel
theorem dL_law_1070 : decode cL_law 1070 = .ok (.iload 6, 2) := by decide +kernel
theorem dL_law_1072 : decode cL_law 1072 = .ok (.i2l, 1) := by decide +kernel
theorem dL_law_1073 : decode cL_law 1073 = .ok (.lcmp, 1) := by decide +kernel
theorem dL_law_1074 : decode cL_law 1074 = .ok (.ifCond .eq 5, 3) := by decide +kernel
theorem dL_law_1077 : decode cL_law 1077 = .ok (.iconst 0, 1) := by decide +kernel
theorem dL_law_1078 : decode cL_law 1078 = .ok (.ireturn, 1) := by decide +kernel
theorem dL_law_1079 : decode cL_law 1079 = .ok (.goto 331, 3) := by decide +kernel
theorem dL_law_1082 : decode cL_law 1082 = .ok (.aload_n 1, 1) := by decide +kernel
theorem dL_law_1083 : decode cL_law 1083 = .ok (.aload_n 0, 1) := by decide +kernel
theorem dL_law_1084 : decode cL_law 1084 = .ok (.iload 4, 2) := by decide +kernel
theorem dL_law_1086 : decode cL_law 1086 = .ok (.iconst 1, 1) := by decide +kernel
theorem dL_law_1087 : decode cL_law 1087 = .ok (.iadd, 1) := by decide +kernel
theorem dL_law_1088 : decode cL_law 1088 = .ok (.iaload, 1) := by decide +kernel
theorem dL_law_1089 : decode cL_law 1089 = .ok (.aload_n 0, 1) := by decide +kernel
theorem dL_law_1090 : decode cL_law 1090 = .ok (.iload 4, 2) := by decide +kernel
theorem dL_law_1092 : decode cL_law 1092 = .ok (.iconst 2, 1) := by decide +kernel
theorem dL_law_1093 : decode cL_law 1093 = .ok (.iadd, 1) := by decide +kernel
theorem dL_law_1094 : decode cL_law 1094 = .ok (.iaload, 1) := by decide +kernel
theorem dL_law_1095 : decode cL_law 1095 = .ok (.aload_n 3, 1) := by decide +kernel
theorem dL_law_1096 : decode cL_law 1096 = .ok (.invokestatic 131, 3) := by decide +kernel
theorem dL_law_1099 : decode cL_law 1099 = .ok (.istore 5, 2) := by decide +kernel
theorem dL_law_1101 : decode cL_law 1101 = .ok (.aload_n 2, 1) := by decide +kernel
theorem dL_law_1102 : decode cL_law 1102 = .ok (.aload_n 0, 1) := by decide +kernel
theorem dL_law_1103 : decode cL_law 1103 = .ok (.iload 4, 2) := by decide +kernel
theorem dL_law_1105 : decode cL_law 1105 = .ok (.iconst 1, 1) := by decide +kernel
theorem dL_law_1106 : decode cL_law 1106 = .ok (.iadd, 1) := by decide +kernel
theorem dL_law_1107 : decode cL_law 1107 = .ok (.iaload, 1) := by decide +kernel
theorem dL_law_1108 : decode cL_law 1108 = .ok (.aload_n 0, 1) := by decide +kernel
theorem dL_law_1109 : decode cL_law 1109 = .ok (.iload 4, 2) := by decide +kernel
theorem dL_law_1111 : decode cL_law 1111 = .ok (.iconst 2, 1) := by decide +kernel
theorem dL_law_1112 : decode cL_law 1112 = .ok (.iadd, 1) := by decide +kernel
theorem dL_law_1113 : decode cL_law 1113 = .ok (.iaload, 1) := by decide +kernel
theorem dL_law_1114 : decode cL_law 1114 = .ok (.invokevirtual 133, 3) := by decide +kernel
theorem dL_law_1117 : decode cL_law 1117 = .ok (.istore 6, 2) := by decide +kernel
theorem dL_law_1119 : decode cL_law 1119 = .ok (.aload_n 2, 1) := by decide +kernel
theorem dL_law_1120 : decode cL_law 1120 = .ok (.invokevirtual 86, 3) := by decide +kernel
theorem dL_law_1123 : decode cL_law 1123 = .ok (.iload 5, 2) := by decide +kernel
theorem dL_law_1125 : decode cL_law 1125 = .ok (.if_icmp .eq 5, 3) := by decide +kernel
theorem dL_law_1128 : decode cL_law 1128 = .ok (.iconst 0, 1) := by decide +kernel
theorem dL_law_1129 : decode cL_law 1129 = .ok (.ireturn, 1) := by decide +kernel
theorem dL_law_1130 : decode cL_law 1130 = .ok (.iload 5, 2) := by decide +kernel
theorem dL_law_1132 : decode cL_law 1132 = .ok (.ifCond .ne 15, 3) := by decide +kernel
theorem dL_law_1135 : decode cL_law 1135 = .ok (.aload_n 3, 1) := by decide +kernel
theorem dL_law_1136 : decode cL_law 1136 = .ok (.iconst 0, 1) := by decide +kernel
theorem dL_law_1137 : decode cL_law 1137 = .ok (.laload, 1) := by decide +kernel
theorem dL_law_1138 : decode cL_law 1138 = .ok (.iload 6, 2) := by decide +kernel
theorem dL_law_1140 : decode cL_law 1140 = .ok (.i2l, 1) := by decide +kernel
theorem dL_law_1141 : decode cL_law 1141 = .ok (.lcmp, 1) := by decide +kernel
theorem dL_law_1142 : decode cL_law 1142 = .ok (.ifCond .eq 5, 3) := by decide +kernel
theorem dL_law_1145 : decode cL_law 1145 = .ok (.iconst 0, 1) := by decide +kernel
theorem dL_law_1146 : decode cL_law 1146 = .ok (.ireturn, 1) := by decide +kernel
theorem dL_law_1147 : decode cL_law 1147 = .ok (.goto 263, 3) := by decide +kernel
theorem dL_law_1150 : decode cL_law 1150 = .ok (.aload_n 1, 1) := by decide +kernel
theorem dL_law_1151 : decode cL_law 1151 = .ok (.aload_n 0, 1) := by decide +kernel
theorem dL_law_1152 : decode cL_law 1152 = .ok (.iload 4, 2) := by decide +kernel
theorem dL_law_1154 : decode cL_law 1154 = .ok (.iconst 1, 1) := by decide +kernel
theorem dL_law_1155 : decode cL_law 1155 = .ok (.iadd, 1) := by decide +kernel
theorem dL_law_1156 : decode cL_law 1156 = .ok (.iaload, 1) := by decide +kernel
theorem dL_law_1157 : decode cL_law 1157 = .ok (.aload_n 0, 1) := by decide +kernel
theorem dL_law_1158 : decode cL_law 1158 = .ok (.iload 4, 2) := by decide +kernel
theorem dL_law_1160 : decode cL_law 1160 = .ok (.iconst 2, 1) := by decide +kernel
theorem dL_law_1161 : decode cL_law 1161 = .ok (.iadd, 1) := by decide +kernel
theorem dL_law_1162 : decode cL_law 1162 = .ok (.iaload, 1) := by decide +kernel
theorem dL_law_1163 : decode cL_law 1163 = .ok (.aload_n 0, 1) := by decide +kernel
theorem dL_law_1164 : decode cL_law 1164 = .ok (.iload 4, 2) := by decide +kernel
theorem dL_law_1166 : decode cL_law 1166 = .ok (.iconst 3, 1) := by decide +kernel
theorem dL_law_1167 : decode cL_law 1167 = .ok (.iadd, 1) := by decide +kernel
theorem dL_law_1168 : decode cL_law 1168 = .ok (.iaload, 1) := by decide +kernel
theorem dL_law_1169 : decode cL_law 1169 = .ok (.aload_n 3, 1) := by decide +kernel
theorem dL_law_1170 : decode cL_law 1170 = .ok (.invokestatic 134, 3) := by decide +kernel
theorem dL_law_1173 : decode cL_law 1173 = .ok (.istore 5, 2) := by decide +kernel
theorem dL_law_1175 : decode cL_law 1175 = .ok (.aload_n 2, 1) := by decide +kernel
theorem dL_law_1176 : decode cL_law 1176 = .ok (.aload_n 0, 1) := by decide +kernel
theorem dL_law_1177 : decode cL_law 1177 = .ok (.iload 4, 2) := by decide +kernel
theorem dL_law_1179 : decode cL_law 1179 = .ok (.iconst 1, 1) := by decide +kernel
theorem dL_law_1180 : decode cL_law 1180 = .ok (.iadd, 1) := by decide +kernel
theorem dL_law_1181 : decode cL_law 1181 = .ok (.iaload, 1) := by decide +kernel
theorem dL_law_1182 : decode cL_law 1182 = .ok (.aload_n 0, 1) := by decide +kernel
theorem dL_law_1183 : decode cL_law 1183 = .ok (.iload 4, 2) := by decide +kernel
theorem dL_law_1185 : decode cL_law 1185 = .ok (.iconst 2, 1) := by decide +kernel
theorem dL_law_1186 : decode cL_law 1186 = .ok (.iadd, 1) := by decide +kernel
theorem dL_law_1187 : decode cL_law 1187 = .ok (.iaload, 1) := by decide +kernel
theorem dL_law_1188 : decode cL_law 1188 = .ok (.aload_n 0, 1) := by decide +kernel
theorem dL_law_1189 : decode cL_law 1189 = .ok (.iload 4, 2) := by decide +kernel
theorem dL_law_1191 : decode cL_law 1191 = .ok (.iconst 3, 1) := by decide +kernel
theorem dL_law_1192 : decode cL_law 1192 = .ok (.iadd, 1) := by decide +kernel
theorem dL_law_1193 : decode cL_law 1193 = .ok (.iaload, 1) := by decide +kernel
theorem dL_law_1194 : decode cL_law 1194 = .ok (.invokevirtual 136, 3) := by decide +kernel
theorem dL_law_1197 : decode cL_law 1197 = .ok (.istore 6, 2) := by decide +kernel
theorem dL_law_1199 : decode cL_law 1199 = .ok (.aload_n 2, 1) := by decide +kernel
theorem dL_law_1200 : decode cL_law 1200 = .ok (.invokevirtual 86, 3) := by decide +kernel
theorem dL_law_1203 : decode cL_law 1203 = .ok (.iload 5, 2) := by decide +kernel
theorem dL_law_1205 : decode cL_law 1205 = .ok (.if_icmp .eq 5, 3) := by decide +kernel
theorem dL_law_1208 : decode cL_law 1208 = .ok (.iconst 0, 1) := by decide +kernel
theorem dL_law_1209 : decode cL_law 1209 = .ok (.ireturn, 1) := by decide +kernel
theorem dL_law_1210 : decode cL_law 1210 = .ok (.iload 5, 2) := by decide +kernel
theorem dL_law_1212 : decode cL_law 1212 = .ok (.ifCond .ne 15, 3) := by decide +kernel
theorem dL_law_1215 : decode cL_law 1215 = .ok (.aload_n 3, 1) := by decide +kernel
theorem dL_law_1216 : decode cL_law 1216 = .ok (.iconst 0, 1) := by decide +kernel
theorem dL_law_1217 : decode cL_law 1217 = .ok (.laload, 1) := by decide +kernel
theorem dL_law_1218 : decode cL_law 1218 = .ok (.iload 6, 2) := by decide +kernel
theorem dL_law_1220 : decode cL_law 1220 = .ok (.i2l, 1) := by decide +kernel
theorem dL_law_1221 : decode cL_law 1221 = .ok (.lcmp, 1) := by decide +kernel
theorem dL_law_1222 : decode cL_law 1222 = .ok (.ifCond .eq 5, 3) := by decide +kernel
theorem dL_law_1225 : decode cL_law 1225 = .ok (.iconst 0, 1) := by decide +kernel
theorem dL_law_1226 : decode cL_law 1226 = .ok (.ireturn, 1) := by decide +kernel
theorem dL_law_1227 : decode cL_law 1227 = .ok (.goto 183, 3) := by decide +kernel
theorem dL_law_1230 : decode cL_law 1230 = .ok (.aload_n 1, 1) := by decide +kernel
theorem dL_law_1231 : decode cL_law 1231 = .ok (.aload_n 0, 1) := by decide +kernel
theorem dL_law_1232 : decode cL_law 1232 = .ok (.iload 4, 2) := by decide +kernel
theorem dL_law_1234 : decode cL_law 1234 = .ok (.iconst 1, 1) := by decide +kernel
theorem dL_law_1235 : decode cL_law 1235 = .ok (.iadd, 1) := by decide +kernel
theorem dL_law_1236 : decode cL_law 1236 = .ok (.iaload, 1) := by decide +kernel
theorem dL_law_1237 : decode cL_law 1237 = .ok (.aload_n 3, 1) := by decide +kernel
theorem dL_law_1238 : decode cL_law 1238 = .ok (.invokestatic 137, 3) := by decide +kernel
theorem dL_law_1241 : decode cL_law 1241 = .ok (.istore 5, 2) := by decide +kernel
theorem dL_law_1243 : decode cL_law 1243 = .ok (.aload_n 2, 1) := by decide +kernel
theorem dL_law_1244 : decode cL_law 1244 = .ok (.aload_n 0, 1) := by decide +kernel
theorem dL_law_1245 : decode cL_law 1245 = .ok (.iload 4, 2) := by decide +kernel
theorem dL_law_1247 : decode cL_law 1247 = .ok (.iconst 1, 1) := by decide +kernel
theorem dL_law_1248 : decode cL_law 1248 = .ok (.iadd, 1) := by decide +kernel
theorem dL_law_1249 : decode cL_law 1249 = .ok (.iaload, 1) := by decide +kernel
theorem dL_law_1250 : decode cL_law 1250 = .ok (.invokevirtual 139, 3) := by decide +kernel
theorem dL_law_1253 : decode cL_law 1253 = .ok (.istore 6, 2) := by decide +kernel
theorem dL_law_1255 : decode cL_law 1255 = .ok (.aload_n 2, 1) := by decide +kernel
theorem dL_law_1256 : decode cL_law 1256 = .ok (.invokevirtual 86, 3) := by decide +kernel
theorem dL_law_1259 : decode cL_law 1259 = .ok (.iload 5, 2) := by decide +kernel
theorem dL_law_1261 : decode cL_law 1261 = .ok (.if_icmp .eq 5, 3) := by decide +kernel
theorem dL_law_1264 : decode cL_law 1264 = .ok (.iconst 0, 1) := by decide +kernel
theorem dL_law_1265 : decode cL_law 1265 = .ok (.ireturn, 1) := by decide +kernel
theorem dL_law_1266 : decode cL_law 1266 = .ok (.iload 5, 2) := by decide +kernel
theorem dL_law_1268 : decode cL_law 1268 = .ok (.ifCond .ne 15, 3) := by decide +kernel
theorem dL_law_1271 : decode cL_law 1271 = .ok (.aload_n 3, 1) := by decide +kernel
theorem dL_law_1272 : decode cL_law 1272 = .ok (.iconst 0, 1) := by decide +kernel
theorem dL_law_1273 : decode cL_law 1273 = .ok (.laload, 1) := by decide +kernel
theorem dL_law_1274 : decode cL_law 1274 = .ok (.iload 6, 2) := by decide +kernel
theorem dL_law_1276 : decode cL_law 1276 = .ok (.i2l, 1) := by decide +kernel
theorem dL_law_1277 : decode cL_law 1277 = .ok (.lcmp, 1) := by decide +kernel
theorem dL_law_1278 : decode cL_law 1278 = .ok (.ifCond .eq 5, 3) := by decide +kernel
theorem dL_law_1281 : decode cL_law 1281 = .ok (.iconst 0, 1) := by decide +kernel
theorem dL_law_1282 : decode cL_law 1282 = .ok (.ireturn, 1) := by decide +kernel
theorem dL_law_1283 : decode cL_law 1283 = .ok (.goto 127, 3) := by decide +kernel
theorem dL_law_1286 : decode cL_law 1286 = .ok (.aload_n 1, 1) := by decide +kernel
theorem dL_law_1287 : decode cL_law 1287 = .ok (.aload_n 0, 1) := by decide +kernel
theorem dL_law_1288 : decode cL_law 1288 = .ok (.iload 4, 2) := by decide +kernel
theorem dL_law_1290 : decode cL_law 1290 = .ok (.iconst 1, 1) := by decide +kernel
theorem dL_law_1291 : decode cL_law 1291 = .ok (.iadd, 1) := by decide +kernel
theorem dL_law_1292 : decode cL_law 1292 = .ok (.iaload, 1) := by decide +kernel
theorem dL_law_1293 : decode cL_law 1293 = .ok (.aload_n 0, 1) := by decide +kernel
theorem dL_law_1294 : decode cL_law 1294 = .ok (.iload 4, 2) := by decide +kernel
theorem dL_law_1296 : decode cL_law 1296 = .ok (.iconst 2, 1) := by decide +kernel
theorem dL_law_1297 : decode cL_law 1297 = .ok (.iadd, 1) := by decide +kernel
theorem dL_law_1298 : decode cL_law 1298 = .ok (.iaload, 1) := by decide +kernel
theorem dL_law_1299 : decode cL_law 1299 = .ok (.aload_n 3, 1) := by decide +kernel
theorem dL_law_1300 : decode cL_law 1300 = .ok (.invokestatic 140, 3) := by decide +kernel
theorem dL_law_1303 : decode cL_law 1303 = .ok (.istore 5, 2) := by decide +kernel
theorem dL_law_1305 : decode cL_law 1305 = .ok (.aload_n 2, 1) := by decide +kernel
theorem dL_law_1306 : decode cL_law 1306 = .ok (.aload_n 0, 1) := by decide +kernel
theorem dL_law_1307 : decode cL_law 1307 = .ok (.iload 4, 2) := by decide +kernel
theorem dL_law_1309 : decode cL_law 1309 = .ok (.iconst 1, 1) := by decide +kernel
theorem dL_law_1310 : decode cL_law 1310 = .ok (.iadd, 1) := by decide +kernel
theorem dL_law_1311 : decode cL_law 1311 = .ok (.iaload, 1) := by decide +kernel
theorem dL_law_1312 : decode cL_law 1312 = .ok (.aload_n 0, 1) := by decide +kernel
theorem dL_law_1313 : decode cL_law 1313 = .ok (.iload 4, 2) := by decide +kernel
theorem dL_law_1315 : decode cL_law 1315 = .ok (.iconst 2, 1) := by decide +kernel
theorem dL_law_1316 : decode cL_law 1316 = .ok (.iadd, 1) := by decide +kernel
theorem dL_law_1317 : decode cL_law 1317 = .ok (.iaload, 1) := by decide +kernel
theorem dL_law_1318 : decode cL_law 1318 = .ok (.invokevirtual 142, 3) := by decide +kernel
theorem dL_law_1321 : decode cL_law 1321 = .ok (.istore 6, 2) := by decide +kernel
theorem dL_law_1323 : decode cL_law 1323 = .ok (.aload_n 2, 1) := by decide +kernel
theorem dL_law_1324 : decode cL_law 1324 = .ok (.invokevirtual 86, 3) := by decide +kernel
theorem dL_law_1327 : decode cL_law 1327 = .ok (.iload 5, 2) := by decide +kernel
theorem dL_law_1329 : decode cL_law 1329 = .ok (.if_icmp .eq 5, 3) := by decide +kernel
theorem dL_law_1332 : decode cL_law 1332 = .ok (.iconst 0, 1) := by decide +kernel
theorem dL_law_1333 : decode cL_law 1333 = .ok (.ireturn, 1) := by decide +kernel
theorem dL_law_1334 : decode cL_law 1334 = .ok (.iload 5, 2) := by decide +kernel
theorem dL_law_1336 : decode cL_law 1336 = .ok (.ifCond .ne 15, 3) := by decide +kernel
theorem dL_law_1339 : decode cL_law 1339 = .ok (.aload_n 3, 1) := by decide +kernel
theorem dL_law_1340 : decode cL_law 1340 = .ok (.iconst 0, 1) := by decide +kernel
theorem dL_law_1341 : decode cL_law 1341 = .ok (.laload, 1) := by decide +kernel
theorem dL_law_1342 : decode cL_law 1342 = .ok (.iload 6, 2) := by decide +kernel
theorem dL_law_1344 : decode cL_law 1344 = .ok (.i2l, 1) := by decide +kernel
theorem dL_law_1345 : decode cL_law 1345 = .ok (.lcmp, 1) := by decide +kernel
theorem dL_law_1346 : decode cL_law 1346 = .ok (.ifCond .eq 5, 3) := by decide +kernel
theorem dL_law_1349 : decode cL_law 1349 = .ok (.iconst 0, 1) := by decide +kernel
theorem dL_law_1350 : decode cL_law 1350 = .ok (.ireturn, 1) := by decide +kernel
theorem dL_law_1351 : decode cL_law 1351 = .ok (.goto 59, 3) := by decide +kernel
theorem dL_law_1354 : decode cL_law 1354 = .ok (.aload_n 1, 1) := by decide +kernel
theorem dL_law_1355 : decode cL_law 1355 = .ok (.aload_n 0, 1) := by decide +kernel
theorem dL_law_1356 : decode cL_law 1356 = .ok (.iload 4, 2) := by decide +kernel
theorem dL_law_1358 : decode cL_law 1358 = .ok (.iconst 1, 1) := by decide +kernel
theorem dL_law_1359 : decode cL_law 1359 = .ok (.iadd, 1) := by decide +kernel
theorem dL_law_1360 : decode cL_law 1360 = .ok (.iaload, 1) := by decide +kernel
theorem dL_law_1361 : decode cL_law 1361 = .ok (.aload_n 3, 1) := by decide +kernel
theorem dL_law_1362 : decode cL_law 1362 = .ok (.invokestatic 143, 3) := by decide +kernel
theorem dL_law_1365 : decode cL_law 1365 = .ok (.istore 5, 2) := by decide +kernel
theorem dL_law_1367 : decode cL_law 1367 = .ok (.aload_n 2, 1) := by decide +kernel
theorem dL_law_1368 : decode cL_law 1368 = .ok (.aload_n 0, 1) := by decide +kernel
theorem dL_law_1369 : decode cL_law 1369 = .ok (.iload 4, 2) := by decide +kernel
theorem dL_law_1371 : decode cL_law 1371 = .ok (.iconst 1, 1) := by decide +kernel
theorem dL_law_1372 : decode cL_law 1372 = .ok (.iadd, 1) := by decide +kernel
theorem dL_law_1373 : decode cL_law 1373 = .ok (.iaload, 1) := by decide +kernel
theorem dL_law_1374 : decode cL_law 1374 = .ok (.invokevirtual 145, 3) := by decide +kernel
theorem dL_law_1377 : decode cL_law 1377 = .ok (.istore 6, 2) := by decide +kernel
theorem dL_law_1379 : decode cL_law 1379 = .ok (.aload_n 2, 1) := by decide +kernel
theorem dL_law_1380 : decode cL_law 1380 = .ok (.invokevirtual 86, 3) := by decide +kernel
theorem dL_law_1383 : decode cL_law 1383 = .ok (.iload 5, 2) := by decide +kernel
theorem dL_law_1385 : decode cL_law 1385 = .ok (.if_icmp .eq 5, 3) := by decide +kernel
theorem dL_law_1388 : decode cL_law 1388 = .ok (.iconst 0, 1) := by decide +kernel
theorem dL_law_1389 : decode cL_law 1389 = .ok (.ireturn, 1) := by decide +kernel
theorem dL_law_1390 : decode cL_law 1390 = .ok (.iload 5, 2) := by decide +kernel
theorem dL_law_1392 : decode cL_law 1392 = .ok (.ifCond .ne 15, 3) := by decide +kernel
theorem dL_law_1395 : decode cL_law 1395 = .ok (.aload_n 3, 1) := by decide +kernel
theorem dL_law_1396 : decode cL_law 1396 = .ok (.iconst 0, 1) := by decide +kernel
theorem dL_law_1397 : decode cL_law 1397 = .ok (.laload, 1) := by decide +kernel
theorem dL_law_1398 : decode cL_law 1398 = .ok (.iload 6, 2) := by decide +kernel
theorem dL_law_1400 : decode cL_law 1400 = .ok (.i2l, 1) := by decide +kernel
theorem dL_law_1401 : decode cL_law 1401 = .ok (.lcmp, 1) := by decide +kernel
theorem dL_law_1402 : decode cL_law 1402 = .ok (.ifCond .eq 5, 3) := by decide +kernel
theorem dL_law_1405 : decode cL_law 1405 = .ok (.iconst 0, 1) := by decide +kernel
theorem dL_law_1406 : decode cL_law 1406 = .ok (.ireturn, 1) := by decide +kernel
theorem dL_law_1407 : decode cL_law 1407 = .ok (.goto 3, 3) := by decide +kernel
theorem dL_law_1410 : decode cL_law 1410 = .ok (.iinc 4 4, 3) := by decide +kernel
theorem dL_law_1413 : decode cL_law 1413 = .ok (.goto (-1390), 3) := by decide +kernel
theorem dL_law_1416 : decode cL_law 1416 = .ok (.iconst 1, 1) := by decide +kernel
theorem dL_law_1417 : decode cL_law 1417 = .ok (.ireturn, 1) := by decide +kernel
end
