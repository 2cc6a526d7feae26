-- ===== PART A: goes FIRST, ahead of the names: the tables' words, and 'selects' of the private methods out of them =====
/-- a private method of a class that the tables say can be made, by its rows of tables_1 -/
def lw_okq (q : MethodName × Nat) : Prop := (q.1.cls ≠ "java/lang/invoke/MethodHandle" ∧ q.1.cls ≠ "java/lang/invoke/VarHandle") ∧ Cond.instantiable q.1.cls q.2 ∈ tables_1 ∧ Cond.privateMethod q.1 ∈ tables_1 ∧ Cond.instanceMethod q.1 ∈ tables_1
theorem lw_p0 : lw_okq (⟨"VeilSearch", "appendSegment", "(J)V"⟩, 10) := ⟨⟨by decide +kernel, by decide +kernel⟩, List.mem_of_getElem? (i := 22) (by decide +kernel), List.mem_of_getElem? (i := 238) (by decide +kernel), List.mem_of_getElem? (i := 239) (by decide +kernel)⟩
theorem lw_p1 : lw_okq (⟨"VeilSearch$Filters", "drop", "(I)V"⟩, 6) := ⟨⟨by decide +kernel, by decide +kernel⟩, List.mem_of_getElem? (i := 59) (by decide +kernel), List.mem_of_getElem? (i := 287) (by decide +kernel), List.mem_of_getElem? (i := 288) (by decide +kernel)⟩
theorem lw_p2 : lw_okq (⟨"java/lang/Throwable", "fillInStackTrace", "(I)Ljava/lang/Throwable;"⟩, 6) := ⟨⟨by decide +kernel, by decide +kernel⟩, List.mem_of_getElem? (i := 352) (by decide +kernel), List.mem_of_getElem? (i := 350) (by decide +kernel), List.mem_of_getElem? (i := 351) (by decide +kernel)⟩
theorem lw_p3 : lw_okq (⟨"VeilSearch$Query", "comesLater", "(III)Z"⟩, 7) := ⟨⟨by decide +kernel, by decide +kernel⟩, List.mem_of_getElem? (i := 88) (by decide +kernel), List.mem_of_getElem? (i := 497) (by decide +kernel), List.mem_of_getElem? (i := 498) (by decide +kernel)⟩
theorem lw_p4 : lw_okq (⟨"VeilSearch$Query", "move", "(II)V"⟩, 7) := ⟨⟨by decide +kernel, by decide +kernel⟩, List.mem_of_getElem? (i := 88) (by decide +kernel), List.mem_of_getElem? (i := 501) (by decide +kernel), List.mem_of_getElem? (i := 502) (by decide +kernel)⟩
theorem lw_p5 : lw_okq (⟨"VeilSearch", "filterOf", "(IJI)J"⟩, 10) := ⟨⟨by decide +kernel, by decide +kernel⟩, List.mem_of_getElem? (i := 22) (by decide +kernel), List.mem_of_getElem? (i := 524) (by decide +kernel), List.mem_of_getElem? (i := 525) (by decide +kernel)⟩
theorem lw_p6 : lw_okq (⟨"VeilSearch$Filters", "append", "(IIJ)V"⟩, 6) := ⟨⟨by decide +kernel, by decide +kernel⟩, List.mem_of_getElem? (i := 59) (by decide +kernel), List.mem_of_getElem? (i := 536) (by decide +kernel), List.mem_of_getElem? (i := 537) (by decide +kernel)⟩
theorem lw_p7 : lw_okq (⟨"VeilSearch", "passThrough", "(JJ)V"⟩, 10) := ⟨⟨by decide +kernel, by decide +kernel⟩, List.mem_of_getElem? (i := 22) (by decide +kernel), List.mem_of_getElem? (i := 557) (by decide +kernel), List.mem_of_getElem? (i := 558) (by decide +kernel)⟩
theorem lw_p8 : lw_okq (⟨"VeilSearch", "lookAt", "(J)V"⟩, 10) := ⟨⟨by decide +kernel, by decide +kernel⟩, List.mem_of_getElem? (i := 22) (by decide +kernel), List.mem_of_getElem? (i := 584) (by decide +kernel), List.mem_of_getElem? (i := 585) (by decide +kernel)⟩
theorem lw_p9 : lw_okq (⟨"VeilSearchModel", "fail", "(I)I"⟩, 40) := ⟨⟨by decide +kernel, by decide +kernel⟩, List.mem_of_getElem? (i := 664) (by decide +kernel), List.mem_of_getElem? (i := 807) (by decide +kernel), List.mem_of_getElem? (i := 808) (by decide +kernel)⟩
theorem lw_p10 : lw_okq (⟨"VeilSearchModel", "sizeOf", "(I)I"⟩, 40) := ⟨⟨by decide +kernel, by decide +kernel⟩, List.mem_of_getElem? (i := 664) (by decide +kernel), List.mem_of_getElem? (i := 842) (by decide +kernel), List.mem_of_getElem? (i := 843) (by decide +kernel)⟩
theorem lw_p11 : lw_okq (⟨"VeilSearchModel", "isOther", "()Z"⟩, 40) := ⟨⟨by decide +kernel, by decide +kernel⟩, List.mem_of_getElem? (i := 664) (by decide +kernel), List.mem_of_getElem? (i := 854) (by decide +kernel), List.mem_of_getElem? (i := 855) (by decide +kernel)⟩
theorem lw_p12 : lw_okq (⟨"VeilSearchModel", "isShown", "(I)Z"⟩, 40) := ⟨⟨by decide +kernel, by decide +kernel⟩, List.mem_of_getElem? (i := 664) (by decide +kernel), List.mem_of_getElem? (i := 858) (by decide +kernel), List.mem_of_getElem? (i := 859) (by decide +kernel)⟩
theorem lw_p13 : lw_okq (⟨"VeilSearchModel", "drop", "(I)V"⟩, 40) := ⟨⟨by decide +kernel, by decide +kernel⟩, List.mem_of_getElem? (i := 664) (by decide +kernel), List.mem_of_getElem? (i := 862) (by decide +kernel), List.mem_of_getElem? (i := 863) (by decide +kernel)⟩
theorem lw_p14 : lw_okq (⟨"VeilSearchModel", "arrange", "()V"⟩, 40) := ⟨⟨by decide +kernel, by decide +kernel⟩, List.mem_of_getElem? (i := 664) (by decide +kernel), List.mem_of_getElem? (i := 878) (by decide +kernel), List.mem_of_getElem? (i := 879) (by decide +kernel)⟩
theorem lw_p15 : lw_okq (⟨"VeilSearchModel", "useFilter", "(II)V"⟩, 40) := ⟨⟨by decide +kernel, by decide +kernel⟩, List.mem_of_getElem? (i := 664) (by decide +kernel), List.mem_of_getElem? (i := 882) (by decide +kernel), List.mem_of_getElem? (i := 883) (by decide +kernel)⟩
def lw_privs_1 : List (MethodName × Nat) := [(⟨"VeilSearch", "appendSegment", "(J)V"⟩, 10), (⟨"VeilSearch$Filters", "drop", "(I)V"⟩, 6), (⟨"java/lang/Throwable", "fillInStackTrace", "(I)Ljava/lang/Throwable;"⟩, 6), (⟨"VeilSearch$Query", "comesLater", "(III)Z"⟩, 7), (⟨"VeilSearch$Query", "move", "(II)V"⟩, 7), (⟨"VeilSearch", "filterOf", "(IJI)J"⟩, 10), (⟨"VeilSearch$Filters", "append", "(IIJ)V"⟩, 6), (⟨"VeilSearch", "passThrough", "(JJ)V"⟩, 10), (⟨"VeilSearch", "lookAt", "(J)V"⟩, 10), (⟨"VeilSearchModel", "fail", "(I)I"⟩, 40), (⟨"VeilSearchModel", "sizeOf", "(I)I"⟩, 40), (⟨"VeilSearchModel", "isOther", "()Z"⟩, 40), (⟨"VeilSearchModel", "isShown", "(I)Z"⟩, 40), (⟨"VeilSearchModel", "drop", "(I)V"⟩, 40), (⟨"VeilSearchModel", "arrange", "()V"⟩, 40), (⟨"VeilSearchModel", "useFilter", "(II)V"⟩, 40)]
theorem lw_r1 : ∀ q ∈ lw_privs_1, lw_okq q := List.forall_mem_cons.mpr ⟨lw_p0, List.forall_mem_cons.mpr ⟨lw_p1, List.forall_mem_cons.mpr ⟨lw_p2, List.forall_mem_cons.mpr ⟨lw_p3, List.forall_mem_cons.mpr ⟨lw_p4, List.forall_mem_cons.mpr ⟨lw_p5, List.forall_mem_cons.mpr ⟨lw_p6, List.forall_mem_cons.mpr ⟨lw_p7, List.forall_mem_cons.mpr ⟨lw_p8, List.forall_mem_cons.mpr ⟨lw_p9, List.forall_mem_cons.mpr ⟨lw_p10, List.forall_mem_cons.mpr ⟨lw_p11, List.forall_mem_cons.mpr ⟨lw_p12, List.forall_mem_cons.mpr ⟨lw_p13, List.forall_mem_cons.mpr ⟨lw_p14, List.forall_mem_cons.mpr ⟨lw_p15, fun _ h => absurd h List.not_mem_nil⟩⟩⟩⟩⟩⟩⟩⟩⟩⟩⟩⟩⟩⟩⟩⟩
theorem lw_p16 : lw_okq (⟨"VeilSearchModel", "isLeft", "(II)Z"⟩, 40) := ⟨⟨by decide +kernel, by decide +kernel⟩, List.mem_of_getElem? (i := 664) (by decide +kernel), List.mem_of_getElem? (i := 886) (by decide +kernel), List.mem_of_getElem? (i := 887) (by decide +kernel)⟩
theorem lw_p17 : lw_okq (⟨"VeilSearchModel", "behindBlock", "(II)I"⟩, 40) := ⟨⟨by decide +kernel, by decide +kernel⟩, List.mem_of_getElem? (i := 664) (by decide +kernel), List.mem_of_getElem? (i := 890) (by decide +kernel), List.mem_of_getElem? (i := 891) (by decide +kernel)⟩
theorem lw_p18 : lw_okq (⟨"VeilSearchModel", "scoreOf", "(IIII)F"⟩, 40) := ⟨⟨by decide +kernel, by decide +kernel⟩, List.mem_of_getElem? (i := 664) (by decide +kernel), List.mem_of_getElem? (i := 894) (by decide +kernel), List.mem_of_getElem? (i := 895) (by decide +kernel)⟩
theorem lw_p19 : lw_okq (⟨"VeilSearchModel", "isOpen", "(II)Z"⟩, 40) := ⟨⟨by decide +kernel, by decide +kernel⟩, List.mem_of_getElem? (i := 664) (by decide +kernel), List.mem_of_getElem? (i := 898) (by decide +kernel), List.mem_of_getElem? (i := 899) (by decide +kernel)⟩
theorem lw_p20 : lw_okq (⟨"VeilSearchModel", "lookAt", "(IIIII)V"⟩, 40) := ⟨⟨by decide +kernel, by decide +kernel⟩, List.mem_of_getElem? (i := 664) (by decide +kernel), List.mem_of_getElem? (i := 902) (by decide +kernel), List.mem_of_getElem? (i := 903) (by decide +kernel)⟩
theorem lw_p21 : lw_okq (⟨"VeilSearchModel", "isFound", "(II)Z"⟩, 40) := ⟨⟨by decide +kernel, by decide +kernel⟩, List.mem_of_getElem? (i := 664) (by decide +kernel), List.mem_of_getElem? (i := 906) (by decide +kernel), List.mem_of_getElem? (i := 907) (by decide +kernel)⟩
theorem lw_p22 : lw_okq (⟨"VeilSearchModel", "mayRead", "(II)Z"⟩, 40) := ⟨⟨by decide +kernel, by decide +kernel⟩, List.mem_of_getElem? (i := 664) (by decide +kernel), List.mem_of_getElem? (i := 910) (by decide +kernel), List.mem_of_getElem? (i := 911) (by decide +kernel)⟩
theorem lw_p23 : lw_okq (⟨"VeilSearchModel", "tokens", "(IZ)I"⟩, 40) := ⟨⟨by decide +kernel, by decide +kernel⟩, List.mem_of_getElem? (i := 664) (by decide +kernel), List.mem_of_getElem? (i := 914) (by decide +kernel), List.mem_of_getElem? (i := 915) (by decide +kernel)⟩
theorem lw_p24 : lw_okq (⟨"VeilSearchModel", "enter", "(IFI)V"⟩, 40) := ⟨⟨by decide +kernel, by decide +kernel⟩, List.mem_of_getElem? (i := 664) (by decide +kernel), List.mem_of_getElem? (i := 918) (by decide +kernel), List.mem_of_getElem? (i := 919) (by decide +kernel)⟩
def lw_privs_2 : List (MethodName × Nat) := [(⟨"VeilSearchModel", "isLeft", "(II)Z"⟩, 40), (⟨"VeilSearchModel", "behindBlock", "(II)I"⟩, 40), (⟨"VeilSearchModel", "scoreOf", "(IIII)F"⟩, 40), (⟨"VeilSearchModel", "isOpen", "(II)Z"⟩, 40), (⟨"VeilSearchModel", "lookAt", "(IIIII)V"⟩, 40), (⟨"VeilSearchModel", "isFound", "(II)Z"⟩, 40), (⟨"VeilSearchModel", "mayRead", "(II)Z"⟩, 40), (⟨"VeilSearchModel", "tokens", "(IZ)I"⟩, 40), (⟨"VeilSearchModel", "enter", "(IFI)V"⟩, 40)]
theorem lw_r2 : ∀ q ∈ lw_privs_2, lw_okq q := List.forall_mem_cons.mpr ⟨lw_p16, List.forall_mem_cons.mpr ⟨lw_p17, List.forall_mem_cons.mpr ⟨lw_p18, List.forall_mem_cons.mpr ⟨lw_p19, List.forall_mem_cons.mpr ⟨lw_p20, List.forall_mem_cons.mpr ⟨lw_p21, List.forall_mem_cons.mpr ⟨lw_p22, List.forall_mem_cons.mpr ⟨lw_p23, List.forall_mem_cons.mpr ⟨lw_p24, fun _ h => absurd h List.not_mem_nil⟩⟩⟩⟩⟩⟩⟩⟩⟩
def lw_privs : List (MethodName × Nat) := lw_privs_1 ++ (lw_privs_2)
def lw_tbl : List Cond := k2_sels lw_privs ++ tables_1
theorem lw_privs_ok : ∀ q ∈ lw_privs, lw_okq q := by
  show ∀ q ∈ lw_privs_1 ++ (lw_privs_2), lw_okq q
  exact List.forall_mem_append.mpr ⟨lw_r1, lw_r2⟩

/-- the words that stay true in every warmer state: all of them that a callee may be given -/
def gT : List Cond := lw_tbl.filter goodWord
theorem gT_in (i : Nat) {w : Cond} (h : tables_1[i]? = some w) (hg : goodWord w = true) : w ∈ gT := List.mem_filter.mpr ⟨List.mem_append_right _ (List.mem_of_getElem? h), hg⟩
theorem gT_i1 {w : Cond} : w ∈ tables_1_1 → w ∈ tables_1 := List.mem_append_left _
theorem gT_in1 (i : Nat) {w : Cond} (h : tables_1_1[i]? = some w) (hg : goodWord w = true) : w ∈ gT := List.mem_filter.mpr ⟨List.mem_append_right _ (gT_i1 (List.mem_of_getElem? h)), hg⟩
theorem gT_i2 {w : Cond} : w ∈ tables_1_2 → w ∈ tables_1 := fun h => List.mem_append_right _ (List.mem_append_left _ h)
theorem gT_in2 (i : Nat) {w : Cond} (h : tables_1_2[i]? = some w) (hg : goodWord w = true) : w ∈ gT := List.mem_filter.mpr ⟨List.mem_append_right _ (gT_i2 (List.mem_of_getElem? h)), hg⟩
theorem gT_i3 {w : Cond} : w ∈ tables_1_3 → w ∈ tables_1 := fun h => List.mem_append_right _ (List.mem_append_right _ (List.mem_append_left _ h))
theorem gT_in3 (i : Nat) {w : Cond} (h : tables_1_3[i]? = some w) (hg : goodWord w = true) : w ∈ gT := List.mem_filter.mpr ⟨List.mem_append_right _ (gT_i3 (List.mem_of_getElem? h)), hg⟩
theorem gT_i4 {w : Cond} : w ∈ tables_1_4 → w ∈ tables_1 := fun h => List.mem_append_right _ (List.mem_append_right _ (List.mem_append_right _ h))
theorem gT_in4 (i : Nat) {w : Cond} (h : tables_1_4[i]? = some w) (hg : goodWord w = true) : w ∈ gT := List.mem_filter.mpr ⟨List.mem_append_right _ (gT_i4 (List.mem_of_getElem? h)), hg⟩
theorem gS_in (i : Nat) {q : MethodName × Nat} (h : lw_privs[i]? = some q) : Cond.selects q.1.cls q.1 q.1 ∈ gT := List.mem_filter.mpr ⟨List.mem_append_left _ (List.mem_map.mpr ⟨q, List.mem_of_getElem? h, rfl⟩), rfl⟩
theorem gT_tbl {w : Cond} (h : w ∈ gT) : w ∈ lw_tbl := (List.mem_filter.mp h).1
/-- words that stay true too, but by rows of their own -/
def gN_is : Cond → Bool
  | .fieldLinkNest .. | .methodLinkNest .. | .declares _ | .castable .. => true
  | _ => false
def gN : List Cond := lw_tbl.filter gN_is
theorem gN_in1 (i : Nat) {w : Cond} (h : tables_1_1[i]? = some w) (hg : gN_is w = true) : w ∈ gN := List.mem_filter.mpr ⟨List.mem_append_right _ (gT_i1 (List.mem_of_getElem? h)), hg⟩
theorem gN_in2 (i : Nat) {w : Cond} (h : tables_1_2[i]? = some w) (hg : gN_is w = true) : w ∈ gN := List.mem_filter.mpr ⟨List.mem_append_right _ (gT_i2 (List.mem_of_getElem? h)), hg⟩
theorem gN_in3 (i : Nat) {w : Cond} (h : tables_1_3[i]? = some w) (hg : gN_is w = true) : w ∈ gN := List.mem_filter.mpr ⟨List.mem_append_right _ (gT_i3 (List.mem_of_getElem? h)), hg⟩
theorem gN_in4 (i : Nat) {w : Cond} (h : tables_1_4[i]? = some w) (hg : gN_is w = true) : w ∈ gN := List.mem_filter.mpr ⟨List.mem_append_right _ (gT_i4 (List.mem_of_getElem? h)), hg⟩
theorem gN_tab {w : Cond} (h : w ∈ gN) : w.onTables = true := by
  have := (List.mem_filter.mp h).2
  cases w <;> first | rfl | simp [gN_is] at this
theorem gN_warm {w : Cond} (h : w ∈ gN) {s U : State} (hW : s.WarmedH U.vm) (hz : va_Nw w s) : va_Nw w U := by
  have := (List.mem_filter.mp h).2
  cases w <;> first | exact va_Nw.warmF hW hz | exact va_Nw.warmM hW hz | exact va_Nw.warmD hW hz | exact va_Nw.warmC hW hz | simp [gN_is] at this
theorem gT_good : GoodIn gT gT := fun w h => ⟨h, good_of_word (List.mem_filter.mp h).2⟩
