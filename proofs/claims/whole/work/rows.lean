section
-- ===== PART A: goes FIRST, ahead of the names: the tables' words, and 'selects' of the private methods out of them =====
/-- a private method of a class that the tables say can be made, by its rows of tables_1 -/
def lw_okq (q : MethodName × Nat) : Prop := (q.1.cls ≠ "java/lang/invoke/MethodHandle" ∧ q.1.cls ≠ "java/lang/invoke/VarHandle") ∧ Cond.instantiable q.1.cls q.2 ∈ tables_1 ∧ Cond.privateMethod q.1 ∈ tables_1 ∧ Cond.instanceMethod q.1 ∈ tables_1
theorem lw_p0 : lw_okq (⟨"VeilSearch", "appendSegment", "(J)V"⟩, 10) := ⟨⟨by decide +kernel, by decide +kernel⟩, List.mem_of_getElem? (i := 22) (by decide +kernel), List.mem_of_getElem? (i := 238) (by decide +kernel), List.mem_of_getElem? (i := 239) (by decide +kernel)⟩
theorem lw_p1 : lw_okq (⟨"VeilSearch$Filters", "drop", "(I)V"⟩, 6) := ⟨⟨by decide +kernel, by decide +kernel⟩, List.mem_of_getElem? (i := 59) (by decide +kernel), List.mem_of_getElem? (i := 287) (by decide +kernel), List.mem_of_getElem? (i := 288) (by decide +kernel)⟩
theorem lw_p2 : lw_okq (⟨"java/lang/Throwable", "fillInStackTrace", "(I)Ljava/lang/Throwable;"⟩, 6) := ⟨⟨by decide +kernel, by decide +kernel⟩, List.mem_of_getElem? (i := 352) (by decide +kernel), List.mem_of_getElem? (i := 350) (by decide +kernel), List.mem_of_getElem? (i := 351) (by decide +kernel)⟩
theorem lw_p3 : lw_okq (⟨"VeilSearch$Query", "comesLater", "(III)Z"⟩, 7) := ⟨⟨by decide +kernel, by decide +kernel⟩, List.mem_of_getElem? (i := 88) (by decide +kernel), List.mem_of_getElem? (i := 497) (by decide +kernel), List.mem_of_getElem? (i := 498) (by decide +kernel)⟩
theorem lw_p4 : lw_okq (⟨"VeilSearch$Query", "move", "(II)V"⟩, 7) := ⟨⟨by decide +kernel, by decide +kernel⟩, List.mem_of_getElem? (i := 88) (by decide +kernel), List.mem_of_getElem? (i := 501) (by decide +kernel), List.mem_of_getElem? (i := 502) (by decide +kernel)⟩
theorem lw_p5 : lw_okq (⟨"VeilSearch", "filterOf", "(IJI)J"⟩, 10) := ⟨⟨by decide +kernel, by decide +kernel⟩, List.mem_of_getElem? (i := 22) (by decide +kernel), List.mem_of_getElem? (i := 524) (by decide +kernel), List.mem_of_getElem? (i := 525) (by decide +kernel)⟩
theorem lw_p6 : lw_okq (⟨"VeilSearch$Filters", "append", "(IIJ)V"⟩, 6) := ⟨⟨by decide +kernel, by decide +kernel⟩, List.mem_of_getElem? (i := 59) (by decide +kernel), List.mem_of_getElem? (i := 536) (by decide +kernel), List.mem_of_getElem? (i := 537) (by decide +kernel)⟩
theorem lw_p7 : lw_okq (⟨"VeilSearch", "passThrough", "(JJ)V"⟩, 10) := ⟨⟨by decide +kernel, by decide +kernel⟩, List.mem_of_getElem? (i := 22) (by decide +kernel), List.mem_of_getElem? (i := 557) (by decide +kernel), List.mem_of_getElem? (i := 558) (by decide +kernel)⟩
theorem lw_p8 : lw_okq (⟨"VeilSearch", "lookAt", "(J)V"⟩, 10) := ⟨⟨by decide +kernel, by decide +kernel⟩, List.mem_of_getElem? (i := 22) (by decide +kernel), List.mem_of_getElem? (i := 584) (by decide +kernel), List.mem_of_getElem? (i := 585) (by decide +kernel)⟩
theorem lw_p9 : lw_okq (⟨"VeilSearchModel", "fail", "(I)I"⟩, 40) := ⟨⟨by decide +kernel, by decide +kernel⟩, List.mem_of_getElem? (i := 664) (by decide +kernel), List.mem_of_getElem? (i := 807) (by decide +kernel), List.mem_of_getElem? (i := 808) (by decide +kernel)⟩
theorem lw_p10 : lw_okq (⟨"VeilSearchModel", "sizeOf", "(I)I"⟩, 40) := ⟨⟨by decide +kernel, by decide +kernel⟩, List.mem_of_getElem? (i := 664) (by decide +kernel), List.mem_of_getElem? (i := 842) (by decide +kernel), List.mem_of_getElem? (i := 843) (by decide +kernel)⟩
theorem lw_p11 : lw_okq (⟨"VeilSearchModel", "isOther", "()Z"⟩, 40) := ⟨⟨by decide +kernel, by decide +kernel⟩, List.mem_of_getElem? (i := 664) (by decide +kernel), List.mem_of_getElem? (i := 854) (by decide +kernel), List.mem_of_getElem? (i := 855) (by decide +kernel)⟩
theorem lw_p12 : lw_okq (⟨"VeilSearchModel", "isShown", "(I)Z"⟩, 40) := ⟨⟨by decide +kernel, by decide +kernel⟩, List.mem_of_getElem? (i := 664) (by decide +kernel), List.mem_of_getElem? (i := 858) (by decide +kernel), List.mem_of_getElem? (i := 859) (by decide +kernel)⟩
theorem lw_p13 : lw_okq (⟨"VeilSearchModel", "drop", "(I)V"⟩, 40) := ⟨⟨by decide +kernel, by decide +kernel⟩, List.mem_of_getElem? (i := 664) (by decide +kernel), List.mem_of_getElem? (i := 862) (by decide +kernel), List.mem_of_getElem? (i := 863) (by decide +kernel)⟩
theorem lw_p14 : lw_okq (⟨"VeilSearchModel", "arrange", "()V"⟩, 40) := ⟨⟨by decide +kernel, by decide +kernel⟩, List.mem_of_getElem? (i := 664) (by decide +kernel), List.mem_of_getElem? (i := 878) (by decide +kernel), List.mem_of_getElem? (i := 879) (by decide +kernel)⟩
theorem lw_p15 : lw_okq (⟨"VeilSearchModel", "useFilter", "(II)V"⟩, 40) := ⟨⟨by decide +kernel, by decide +kernel⟩, List.mem_of_getElem? (i := 664) (by decide +kernel), List.mem_of_getElem? (i := 882) (by decide +kernel), List.mem_of_getElem? (i := 883) (by decide +kernel)⟩
def lw_privs_1 : List (MethodName × Nat) := [(⟨"VeilSearch", "appendSegment", "(J)V"⟩, 10), (⟨"VeilSearch$Filters", "drop", "(I)V"⟩, 6), (⟨"java/lang/Throwable", "fillInStackTrace", "(I)Ljava/lang/Throwable;"⟩, 6), (⟨"VeilSearch$Query", "comesLater", "(III)Z"⟩, 7), (⟨"VeilSearch$Query", "move", "(II)V"⟩, 7), (⟨"VeilSearch", "filterOf", "(IJI)J"⟩, 10), (⟨"VeilSearch$Filters", "append", "(IIJ)V"⟩, 6), (⟨"VeilSearch", "passThrough", "(JJ)V"⟩, 10), (⟨"VeilSearch", "lookAt", "(J)V"⟩, 10), (⟨"VeilSearchModel", "fail", "(I)I"⟩, 40), (⟨"VeilSearchModel", "sizeOf", "(I)I"⟩, 40), (⟨"VeilSearchModel", "isOther", "()Z"⟩, 40), (⟨"VeilSearchModel", "isShown", "(I)Z"⟩, 40), (⟨"VeilSearchModel", "drop", "(I)V"⟩, 40), (⟨"VeilSearchModel", "arrange", "()V"⟩, 40), (⟨"VeilSearchModel", "useFilter", "(II)V"⟩, 40)]
theorem lw_r1 : ∀ q ∈ lw_privs_1, lw_okq q := List.forall_mem_cons.mpr ⟨lw_p0, List.forall_mem_cons.mpr ⟨lw_p1, List.forall_mem_cons.mpr ⟨lw_p2, List.forall_mem_cons.mpr ⟨lw_p3, List.forall_mem_cons.mpr ⟨lw_p4, List.forall_mem_cons.mpr ⟨lw_p5, List.forall_mem_cons.mpr ⟨lw_p6, List.forall_mem_cons.mpr ⟨lw_p7, List.forall_mem_cons.mpr ⟨lw_p8, List.forall_mem_cons.mpr ⟨lw_p9, List.forall_mem_cons.mpr ⟨lw_p10, List.forall_mem_cons.mpr ⟨lw_p11, List.forall_mem_cons.mpr ⟨lw_p12, List.forall_mem_cons.mpr ⟨lw_p13, List.forall_mem_cons.mpr ⟨lw_p14, List.forall_mem_cons.mpr ⟨lw_p15, fun _ h => absurd h List.not_mem_nil⟩⟩⟩⟩⟩⟩⟩⟩⟩⟩⟩⟩⟩⟩⟩⟩
theorem lw_p16 : lw_okq (⟨"VeilSearchModel", "isLeft", "(II)Z"⟩, 40) := ⟨⟨by decide +kernel, by decide +kernel⟩, List.mem_of_getElem? (i := 664) (by decide +kernel), List.mem_of_getElem? (i := 886) (by decide +kernel), List.mem_of_getElem? (i := 887) (by decide +kernel)⟩
theorem lw_p17 : lw_okq (⟨"VeilSearchModel", "behindBlock", "(II)I"⟩, 40) := ⟨⟨by decide +kernel, by decide +kernel⟩, List.mem_of_getElem? (i := 664) (by decide +kernel), List.mem_of_getElem? (i := 890) (by decide +kernel), List.mem_of_getElem? (i := 891) (by decide +kernel)⟩
theorem lw_p18 : lw_okq (⟨"VeilSearchModel", "scoreOf", "(IIII)F"⟩, 40) := ⟨⟨by decide +kernel, by decide +kernel⟩, List.mem_of_getElem? (i := 664) (by decide +kernel), List.mem_of_getElem? (i := 894) (by decide +kernel), List.mem_of_getElem? (i := 895) (by decide +kernel)⟩
theorem lw_p19 : lw_okq (⟨"VeilSearchModel", "isOpen", "(II)Z"⟩, 40) := ⟨⟨by decide +kernel, by decide +kernel⟩, List.mem_of_getElem? (i := 664) (by decide +kernel), List.mem_of_getElem? (i := 898) (by decide +kernel), List.mem_of_getElem? (i := 899) (by decide +kernel)⟩
theorem lw_p20 : lw_okq (⟨"VeilSearchModel", "lookAt", "(IIIII)V"⟩, 40) := ⟨⟨by decide +kernel, by decide +kernel⟩, List.mem_of_getElem? (i := 664) (by decide +kernel), List.mem_of_getElem? (i := 902) (by decide +kernel), List.mem_of_getElem? (i := 903) (by decide +kernel)⟩
theorem lw_p21 : lw_okq (⟨"VeilSearchModel", "isFound", "(II)Z"⟩, 40) := ⟨⟨by decide +kernel, by decide +kernel⟩, List.mem_of_getElem? (i := 664) (by decide +kernel), List.mem_of_getElem? (i := 906) (by decide +kernel), List.mem_of_getElem? (i := 907) (by decide +kernel)⟩
theorem lw_p22 : lw_okq (⟨"VeilSearchModel", "mayRead", "(II)Z"⟩, 40) := ⟨⟨by decide +kernel, by decide +kernel⟩, List.mem_of_getElem? (i := 664) (by decide +kernel), List.mem_of_getElem? (i := 910) (by decide +kernel), List.mem_of_getElem? (i := 911) (by decide +kernel)⟩
theorem lw_p23 : lw_okq (⟨"VeilSearchModel", "tokens", "(IZ)I"⟩, 40) := ⟨⟨by decide +kernel, by decide +kernel⟩, List.mem_of_getElem? (i := 664) (by decide +kernel), List.mem_of_getElem? (i := 914) (by decide +kernel), List.mem_of_getElem? (i := 915) (by decide +kernel)⟩
theorem lw_p24 : lw_okq (⟨"VeilSearchModel", "enter", "(IFI)V"⟩, 40) := ⟨⟨by decide +kernel, by decide +kernel⟩, List.mem_of_getElem? (i := 664) (by decide +kernel), List.mem_of_getElem? (i := 918) (by decide +kernel), List.mem_of_getElem? (i := 919) (by decide +kernel)⟩
def lw_privs_2 : List (MethodName × Nat) := [(⟨"VeilSearchModel", "isLeft", "(II)Z"⟩, 40), (⟨"VeilSearchModel", "behindBlock", "(II)I"⟩, 40), (⟨"VeilSearchModel", "scoreOf", "(IIII)F"⟩, 40), (⟨"VeilSearchModel", "isOpen", "(II)Z"⟩, 40), (⟨"VeilSearchModel", "lookAt", "(IIIII)V"⟩, 40), (⟨"VeilSearchModel", "isFound", "(II)Z"⟩, 40), (⟨"VeilSearchModel", "mayRead", "(II)Z"⟩, 40), (⟨"VeilSearchModel", "tokens", "(IZ)I"⟩, 40), (⟨"VeilSearchModel", "enter", "(IFI)V"⟩, 40)]
theorem lw_r2 : ∀ q ∈ lw_privs_2, lw_okq q := List.forall_mem_cons.mpr ⟨lw_p16, List.forall_mem_cons.mpr ⟨lw_p17, List.forall_mem_cons.mpr ⟨lw_p18, List.forall_mem_cons.mpr ⟨lw_p19, List.forall_mem_cons.mpr ⟨lw_p20, List.forall_mem_cons.mpr ⟨lw_p21, List.forall_mem_cons.mpr ⟨lw_p22, List.forall_mem_cons.mpr ⟨lw_p23, List.forall_mem_cons.mpr ⟨lw_p24, fun _ h => absurd h List.not_mem_nil⟩⟩⟩⟩⟩⟩⟩⟩⟩
def lw_privs : List (MethodName × Nat) := lw_privs_1 ++ (lw_privs_2)
def lw_tbl : List Cond := k2_sels lw_privs ++ tables_1
theorem lw_privs_ok : ∀ q ∈ lw_privs, lw_okq q := by
  show ∀ q ∈ lw_privs_1 ++ (lw_privs_2), lw_okq q
  exact List.forall_mem_append.mpr ⟨lw_r1, lw_r2⟩

/-- the words that stay true in every warmer state: all of them that a callee may be given -/
def gT : List Cond := lw_tbl.filter goodWord
theorem gT_in (i : Nat) {w : Cond} (h : tables_1[i]? = some w) (hg : goodWord w = true) : w ∈ gT := List.mem_filter.mpr ⟨List.mem_append_right _ (List.mem_of_getElem? h), hg⟩
theorem gT_i1 {w : Cond} : w ∈ tables_1_1 → w ∈ tables_1 := List.mem_append_left _
theorem gT_in1 (i : Nat) {w : Cond} (h : tables_1_1[i]? = some w) (hg : goodWord w = true) : w ∈ gT := List.mem_filter.mpr ⟨List.mem_append_right _ (gT_i1 (List.mem_of_getElem? h)), hg⟩
theorem gT_i2 {w : Cond} : w ∈ tables_1_2 → w ∈ tables_1 := fun h => List.mem_append_right _ (List.mem_append_left _ h)
theorem gT_in2 (i : Nat) {w : Cond} (h : tables_1_2[i]? = some w) (hg : goodWord w = true) : w ∈ gT := List.mem_filter.mpr ⟨List.mem_append_right _ (gT_i2 (List.mem_of_getElem? h)), hg⟩
theorem gT_i3 {w : Cond} : w ∈ tables_1_3 → w ∈ tables_1 := fun h => List.mem_append_right _ (List.mem_append_right _ (List.mem_append_left _ h))
theorem gT_in3 (i : Nat) {w : Cond} (h : tables_1_3[i]? = some w) (hg : goodWord w = true) : w ∈ gT := List.mem_filter.mpr ⟨List.mem_append_right _ (gT_i3 (List.mem_of_getElem? h)), hg⟩
theorem gT_i4 {w : Cond} : w ∈ tables_1_4 → w ∈ tables_1 := fun h => List.mem_append_right _ (List.mem_append_right _ (List.mem_append_right _ h))
theorem gT_in4 (i : Nat) {w : Cond} (h : tables_1_4[i]? = some w) (hg : goodWord w = true) : w ∈ gT := List.mem_filter.mpr ⟨List.mem_append_right _ (gT_i4 (List.mem_of_getElem? h)), hg⟩
theorem gS_in (i : Nat) {q : MethodName × Nat} (h : lw_privs[i]? = some q) : Cond.selects q.1.cls q.1 q.1 ∈ gT := List.mem_filter.mpr ⟨List.mem_append_left _ (List.mem_map.mpr ⟨q, List.mem_of_getElem? h, rfl⟩), rfl⟩
theorem gT_tbl {w : Cond} (h : w ∈ gT) : w ∈ lw_tbl := (List.mem_filter.mp h).1
/-- words that stay true too, but by rows of their own -/
def gN_is : Cond → Bool
  | .fieldLinkNest .. | .methodLinkNest .. | .declares _ | .castable .. => true
  | _ => false
def gN : List Cond := lw_tbl.filter gN_is
theorem gN_in1 (i : Nat) {w : Cond} (h : tables_1_1[i]? = some w) (hg : gN_is w = true) : w ∈ gN := List.mem_filter.mpr ⟨List.mem_append_right _ (gT_i1 (List.mem_of_getElem? h)), hg⟩
theorem gN_in2 (i : Nat) {w : Cond} (h : tables_1_2[i]? = some w) (hg : gN_is w = true) : w ∈ gN := List.mem_filter.mpr ⟨List.mem_append_right _ (gT_i2 (List.mem_of_getElem? h)), hg⟩
theorem gN_in3 (i : Nat) {w : Cond} (h : tables_1_3[i]? = some w) (hg : gN_is w = true) : w ∈ gN := List.mem_filter.mpr ⟨List.mem_append_right _ (gT_i3 (List.mem_of_getElem? h)), hg⟩
theorem gN_in4 (i : Nat) {w : Cond} (h : tables_1_4[i]? = some w) (hg : gN_is w = true) : w ∈ gN := List.mem_filter.mpr ⟨List.mem_append_right _ (gT_i4 (List.mem_of_getElem? h)), hg⟩
theorem gN_tab {w : Cond} (h : w ∈ gN) : w.onTables = true := by
  have := (List.mem_filter.mp h).2
  cases w <;> first | rfl | simp [gN_is] at this
theorem gN_warm {w : Cond} (h : w ∈ gN) {s U : State} (hW : s.WarmedH U.vm) (hz : va_Nw w s) : va_Nw w U := by
  have := (List.mem_filter.mp h).2
  cases w <;> first | exact va_Nw.warmF hW hz | exact va_Nw.warmM hW hz | exact va_Nw.warmD hW hz | exact va_Nw.warmC hW hz | simp [gN_is] at this
theorem gT_good : GoodIn gT gT := fun w h => ⟨h, good_of_word (List.mem_filter.mp h).2⟩
end
section
theorem w_0 : (Jvm.Cond.initialized "VeilSearchLaw") ∈ gT := gT_in1 0 rfl rfl
theorem w_1 : (Jvm.Cond.initialized "VeilSearch") ∈ gT := gT_in1 1 rfl rfl
theorem w_2 : (Jvm.Cond.initialized "VeilSearch$Documents") ∈ gT := gT_in1 2 rfl rfl
theorem w_3 : (Jvm.Cond.initialized "VeilSearch$Filters") ∈ gT := gT_in1 3 rfl rfl
theorem w_4 : (Jvm.Cond.initialized "VeilSearch$Query") ∈ gT := gT_in1 4 rfl rfl
theorem w_5 : (Jvm.Cond.initialized "VeilSearch$Hits") ∈ gT := gT_in1 5 rfl rfl
theorem w_6 : (Jvm.Cond.initialized "VeilSearch$View") ∈ gT := gT_in1 6 rfl rfl
theorem w_7 : (Jvm.Cond.initialized "VeilSearch$Rights") ∈ gT := gT_in1 7 rfl rfl
theorem w_8 : (Jvm.Cond.initialized "VeilSearch$Segments") ∈ gT := gT_in1 8 rfl rfl
theorem w_9 : (Jvm.Cond.initialized "VeilSearchModel") ∈ gT := gT_in1 9 rfl rfl
theorem w_10 : (Jvm.Cond.initialized "java/lang/Throwable") ∈ gT := gT_in1 10 rfl rfl
theorem w_11 : (Jvm.Cond.initialized "java/lang/Exception") ∈ gT := gT_in1 11 rfl rfl
theorem w_12 : (Jvm.Cond.initialized "java/lang/RuntimeException") ∈ gT := gT_in1 12 rfl rfl
theorem w_13 : (Jvm.Cond.initialized "java/lang/IllegalArgumentException") ∈ gT := gT_in1 13 rfl rfl
theorem w_14 : (Jvm.Cond.initialized "java/lang/IllegalStateException") ∈ gT := gT_in1 14 rfl rfl
theorem w_15 : (Jvm.Cond.initialized "java/util/NoSuchElementException") ∈ gT := gT_in1 15 rfl rfl
theorem w_16 : (Jvm.Cond.initialized "java/lang/Long") ∈ gT := gT_in1 16 rfl rfl
theorem w_17 : (Jvm.Cond.initialized "java/lang/System") ∈ gT := gT_in1 17 rfl rfl
theorem w_18 : (Jvm.Cond.initialized "java/lang/Math") ∈ gT := gT_in1 18 rfl rfl
theorem w_19 : (Jvm.Cond.initialized "java/lang/IndexOutOfBoundsException") ∈ gT := gT_in1 19 rfl rfl
theorem w_20 : (Jvm.Cond.initialized "java/lang/UnsupportedOperationException") ∈ gT := gT_in1 20 rfl rfl
theorem w_21 : (Jvm.Cond.classLink "VeilSearchLaw" (8 : Nat) "VeilSearch") ∈ gT := gT_in1 21 rfl rfl
theorem w_22 : (Jvm.Cond.instantiable "VeilSearch" (10 : Nat)) ∈ gT := gT_in1 22 rfl rfl
theorem w_23 : (Jvm.Cond.methodLink "VeilSearchLaw" (71 : Nat) ({ cls := "VeilSearch", name := "<init>", desc := "()V" } : Jvm.MethodName)) ∈ gT := gT_in1 23 rfl rfl
theorem w_24 : (Jvm.Cond.instanceMethod ({ cls := "VeilSearch", name := "<init>", desc := "()V" } : Jvm.MethodName)) ∈ gT := gT_in1 24 rfl rfl
theorem w_25 : (Jvm.Cond.code ({ cls := "VeilSearch", name := "<init>", desc := "()V" } : Jvm.MethodName) prog_1_method_1_code (1 : Nat) (Option.none : Option Jvm.ClassFile.FieldType)) ∈ gT := gT_in1 25 rfl rfl
theorem w_26 : (Jvm.Cond.methodLink "VeilSearch" (3 : Nat) ({ cls := "java/lang/Object", name := "<init>", desc := "()V" } : Jvm.MethodName)) ∈ gT := gT_in1 26 rfl rfl
theorem w_27 : (Jvm.Cond.instanceMethod ({ cls := "java/lang/Object", name := "<init>", desc := "()V" } : Jvm.MethodName)) ∈ gT := gT_in1 27 rfl rfl
theorem w_28 : (Jvm.Cond.code ({ cls := "java/lang/Object", name := "<init>", desc := "()V" } : Jvm.MethodName) object_method_1_code (1 : Nat) (Option.none : Option Jvm.ClassFile.FieldType)) ∈ gT := gT_in1 28 rfl rfl
theorem w_29 : (Jvm.Cond.classLink "VeilSearch" (9 : Nat) "VeilSearch$Documents") ∈ gT := gT_in1 29 rfl rfl
theorem w_30 : (Jvm.Cond.instantiable "VeilSearch$Documents" (5 : Nat)) ∈ gT := gT_in1 30 rfl rfl
theorem w_31 : (Jvm.Cond.methodLinkNest "VeilSearch" (11 : Nat) ({ cls := "VeilSearch$Documents", name := "<init>", desc := "()V" } : Jvm.MethodName) "VeilSearch") ∈ gN := gN_in1 31 rfl rfl
theorem w_32 : (Jvm.Cond.instanceMethod ({ cls := "VeilSearch$Documents", name := "<init>", desc := "()V" } : Jvm.MethodName)) ∈ gT := gT_in1 32 rfl rfl
theorem w_33 : (Jvm.Cond.code ({ cls := "VeilSearch$Documents", name := "<init>", desc := "()V" } : Jvm.MethodName) prog_2_method_1_code (1 : Nat) (Option.none : Option Jvm.ClassFile.FieldType)) ∈ gT := gT_in1 33 rfl rfl
theorem w_34 : (Jvm.Cond.methodLink "VeilSearch$Documents" (3 : Nat) ({ cls := "java/lang/Object", name := "<init>", desc := "()V" } : Jvm.MethodName)) ∈ gT := gT_in1 34 rfl rfl
theorem w_35 : (Jvm.Cond.fieldLink "VeilSearch$Documents" (9 : Nat) "VeilSearch$Documents" "codes" "[I") ∈ gT := gT_in1 35 rfl rfl
theorem w_36 : (Jvm.Cond.fieldLinkNest "VeilSearch" (93 : Nat) "VeilSearch$Documents" "codes" "[I" "VeilSearch") ∈ gN := gN_in1 36 rfl rfl
theorem w_37 : (Jvm.Cond.fieldLinkNest "VeilSearch$Query" (51 : Nat) "VeilSearch$Documents" "codes" "[I" "VeilSearch") ∈ gN := gN_in1 37 rfl rfl
theorem w_38 : (Jvm.Cond.fieldLink "VeilSearch$Documents" (15 : Nat) "VeilSearch$Documents" "values" "[I") ∈ gT := gT_in1 38 rfl rfl
theorem w_39 : (Jvm.Cond.fieldLinkNest "VeilSearch" (107 : Nat) "VeilSearch$Documents" "values" "[I" "VeilSearch") ∈ gN := gN_in1 39 rfl rfl
theorem w_40 : (Jvm.Cond.fieldLink "VeilSearch$Documents" (18 : Nat) "VeilSearch$Documents" "allowed" "[I") ∈ gT := gT_in1 40 rfl rfl
theorem w_41 : (Jvm.Cond.fieldLinkNest "VeilSearch" (110 : Nat) "VeilSearch$Documents" "allowed" "[I" "VeilSearch") ∈ gN := gN_in1 41 rfl rfl
theorem w_42 : (Jvm.Cond.fieldLink "VeilSearch$Documents" (21 : Nat) "VeilSearch$Documents" "denied" "[I") ∈ gT := gT_in1 42 rfl rfl
theorem w_43 : (Jvm.Cond.fieldLinkNest "VeilSearch" (113 : Nat) "VeilSearch$Documents" "denied" "[I" "VeilSearch") ∈ gN := gN_in1 43 rfl rfl
theorem w_44 : (Jvm.Cond.fieldLink "VeilSearch$Documents" (24 : Nat) "VeilSearch$Documents" "ids" "I") ∈ gT := gT_in1 44 rfl rfl
theorem w_45 : (Jvm.Cond.fieldLinkNest "VeilSearch" (96 : Nat) "VeilSearch$Documents" "ids" "I" "VeilSearch") ∈ gN := gN_in1 45 rfl rfl
theorem w_46 : (Jvm.Cond.laysFinal "VeilSearch$Documents" "VeilSearch$Documents" "codes" "[I") ∈ gT := gT_in1 46 rfl rfl
theorem w_48 : (Jvm.Cond.laysFinal "VeilSearch$Documents" "VeilSearch$Documents" "values" "[I") ∈ gT := gT_in1 48 rfl rfl
theorem w_50 : (Jvm.Cond.laysFinal "VeilSearch$Documents" "VeilSearch$Documents" "allowed" "[I") ∈ gT := gT_in1 50 rfl rfl
theorem w_52 : (Jvm.Cond.laysFinal "VeilSearch$Documents" "VeilSearch$Documents" "denied" "[I") ∈ gT := gT_in1 52 rfl rfl
theorem w_54 : (Jvm.Cond.lays "VeilSearch$Documents" "VeilSearch$Documents" "ids" "I") ∈ gT := gT_in1 54 rfl rfl
theorem w_56 : (Jvm.Cond.superclass "VeilSearch$Documents" "java/lang/Object") ∈ gT := gT_in1 56 rfl rfl
theorem w_57 : (Jvm.Cond.arrayClass Jvm.ClassFile.FieldType.int) ∈ gT := gT_in1 57 rfl rfl
theorem w_58 : (Jvm.Cond.classLink "VeilSearch" (16 : Nat) "VeilSearch$Filters") ∈ gT := gT_in1 58 rfl rfl
theorem w_59 : (Jvm.Cond.instantiable "VeilSearch$Filters" (6 : Nat)) ∈ gT := gT_in1 59 rfl rfl
theorem w_60 : (Jvm.Cond.methodLinkNest "VeilSearch" (18 : Nat) ({ cls := "VeilSearch$Filters", name := "<init>", desc := "()V" } : Jvm.MethodName) "VeilSearch") ∈ gN := gN_in1 60 rfl rfl
theorem w_61 : (Jvm.Cond.instanceMethod ({ cls := "VeilSearch$Filters", name := "<init>", desc := "()V" } : Jvm.MethodName)) ∈ gT := gT_in1 61 rfl rfl
theorem w_62 : (Jvm.Cond.code ({ cls := "VeilSearch$Filters", name := "<init>", desc := "()V" } : Jvm.MethodName) prog_3_method_1_code (1 : Nat) (Option.none : Option Jvm.ClassFile.FieldType)) ∈ gT := gT_in1 62 rfl rfl
theorem w_63 : (Jvm.Cond.methodLink "VeilSearch$Filters" (3 : Nat) ({ cls := "java/lang/Object", name := "<init>", desc := "()V" } : Jvm.MethodName)) ∈ gT := gT_in1 63 rfl rfl
theorem w_64 : (Jvm.Cond.fieldLink "VeilSearch$Filters" (9 : Nat) "VeilSearch$Filters" "segments" "[I") ∈ gT := gT_in1 64 rfl rfl
theorem w_65 : (Jvm.Cond.fieldLink "VeilSearch$Filters" (15 : Nat) "VeilSearch$Filters" "users" "[I") ∈ gT := gT_in1 65 rfl rfl
theorem w_66 : (Jvm.Cond.fieldLink "VeilSearch$Filters" (18 : Nat) "VeilSearch$Filters" "readable" "[J") ∈ gT := gT_in1 66 rfl rfl
theorem w_67 : (Jvm.Cond.fieldLink "VeilSearch$Filters" (22 : Nat) "VeilSearch$Filters" "kept" "I") ∈ gT := gT_in1 67 rfl rfl
theorem w_68 : (Jvm.Cond.fieldLinkNest "VeilSearch" (170 : Nat) "VeilSearch$Filters" "kept" "I" "VeilSearch") ∈ gN := gN_in1 68 rfl rfl
theorem w_69 : (Jvm.Cond.fieldLink "VeilSearch$Filters" (26 : Nat) "VeilSearch$Filters" "made" "I") ∈ gT := gT_in1 69 rfl rfl
theorem w_70 : (Jvm.Cond.fieldLinkNest "VeilSearch" (225 : Nat) "VeilSearch$Filters" "made" "I" "VeilSearch") ∈ gN := gN_in1 70 rfl rfl
theorem w_71 : (Jvm.Cond.fieldLink "VeilSearch$Filters" (29 : Nat) "VeilSearch$Filters" "reused" "I") ∈ gT := gT_in1 71 rfl rfl
theorem w_72 : (Jvm.Cond.fieldLinkNest "VeilSearch" (228 : Nat) "VeilSearch$Filters" "reused" "I" "VeilSearch") ∈ gN := gN_in1 72 rfl rfl
theorem w_73 : (Jvm.Cond.laysFinal "VeilSearch$Filters" "VeilSearch$Filters" "segments" "[I") ∈ gT := gT_in1 73 rfl rfl
theorem w_75 : (Jvm.Cond.laysFinal "VeilSearch$Filters" "VeilSearch$Filters" "users" "[I") ∈ gT := gT_in1 75 rfl rfl
theorem w_77 : (Jvm.Cond.laysFinal "VeilSearch$Filters" "VeilSearch$Filters" "readable" "[J") ∈ gT := gT_in1 77 rfl rfl
theorem w_79 : (Jvm.Cond.lays "VeilSearch$Filters" "VeilSearch$Filters" "kept" "I") ∈ gT := gT_in1 79 rfl rfl
theorem w_81 : (Jvm.Cond.lays "VeilSearch$Filters" "VeilSearch$Filters" "made" "I") ∈ gT := gT_in1 81 rfl rfl
theorem w_83 : (Jvm.Cond.lays "VeilSearch$Filters" "VeilSearch$Filters" "reused" "I") ∈ gT := gT_in1 83 rfl rfl
theorem w_85 : (Jvm.Cond.superclass "VeilSearch$Filters" "java/lang/Object") ∈ gT := gT_in1 85 rfl rfl
theorem w_86 : (Jvm.Cond.arrayClass Jvm.ClassFile.FieldType.long) ∈ gT := gT_in1 86 rfl rfl
theorem w_87 : (Jvm.Cond.classLink "VeilSearch" (23 : Nat) "VeilSearch$Query") ∈ gT := gT_in1 87 rfl rfl
theorem w_88 : (Jvm.Cond.instantiable "VeilSearch$Query" (7 : Nat)) ∈ gT := gT_in1 88 rfl rfl
theorem w_89 : (Jvm.Cond.methodLinkNest "VeilSearch" (25 : Nat) ({ cls := "VeilSearch$Query", name := "<init>", desc := "()V" } : Jvm.MethodName) "VeilSearch") ∈ gN := gN_in1 89 rfl rfl
theorem w_90 : (Jvm.Cond.instanceMethod ({ cls := "VeilSearch$Query", name := "<init>", desc := "()V" } : Jvm.MethodName)) ∈ gT := gT_in1 90 rfl rfl
theorem w_91 : (Jvm.Cond.code ({ cls := "VeilSearch$Query", name := "<init>", desc := "()V" } : Jvm.MethodName) prog_5_method_1_code (1 : Nat) (Option.none : Option Jvm.ClassFile.FieldType)) ∈ gT := gT_in1 91 rfl rfl
theorem w_92 : (Jvm.Cond.methodLink "VeilSearch$Query" (3 : Nat) ({ cls := "java/lang/Object", name := "<init>", desc := "()V" } : Jvm.MethodName)) ∈ gT := gT_in1 92 rfl rfl
theorem w_93 : (Jvm.Cond.fieldLink "VeilSearch$Query" (9 : Nat) "VeilSearch$Query" "sorts" "[I") ∈ gT := gT_in1 93 rfl rfl
theorem w_94 : (Jvm.Cond.fieldLink "VeilSearch$Query" (15 : Nat) "VeilSearch$Query" "terms" "[I") ∈ gT := gT_in1 94 rfl rfl
theorem w_95 : (Jvm.Cond.fieldLink "VeilSearch$Query" (18 : Nat) "VeilSearch$Query" "fields" "[I") ∈ gT := gT_in1 95 rfl rfl
theorem w_96 : (Jvm.Cond.fieldLink "VeilSearch$Query" (21 : Nat) "VeilSearch$Query" "weights" "[F") ∈ gT := gT_in1 96 rfl rfl
theorem w_97 : (Jvm.Cond.fieldLink "VeilSearch$Query" (25 : Nat) "VeilSearch$Query" "open" "[Z") ∈ gT := gT_in1 97 rfl rfl
theorem w_98 : (Jvm.Cond.fieldLink "VeilSearch$Query" (29 : Nat) "VeilSearch$Query" "veiledMust" "Z") ∈ gT := gT_in1 98 rfl rfl
theorem w_99 : (Jvm.Cond.fieldLink "VeilSearch$Query" (33 : Nat) "VeilSearch$Query" "size" "I") ∈ gT := gT_in1 99 rfl rfl
theorem w_100 : (Jvm.Cond.fieldLinkNest "VeilSearch" (176 : Nat) "VeilSearch$Query" "size" "I" "VeilSearch") ∈ gN := gN_in1 100 rfl rfl
theorem w_101 : (Jvm.Cond.laysFinal "VeilSearch$Query" "VeilSearch$Query" "sorts" "[I") ∈ gT := gT_in1 101 rfl rfl
theorem w_103 : (Jvm.Cond.laysFinal "VeilSearch$Query" "VeilSearch$Query" "terms" "[I") ∈ gT := gT_in1 103 rfl rfl
theorem w_105 : (Jvm.Cond.laysFinal "VeilSearch$Query" "VeilSearch$Query" "fields" "[I") ∈ gT := gT_in1 105 rfl rfl
theorem w_107 : (Jvm.Cond.laysFinal "VeilSearch$Query" "VeilSearch$Query" "weights" "[F") ∈ gT := gT_in1 107 rfl rfl
theorem w_109 : (Jvm.Cond.laysFinal "VeilSearch$Query" "VeilSearch$Query" "open" "[Z") ∈ gT := gT_in1 109 rfl rfl
theorem w_111 : (Jvm.Cond.lays "VeilSearch$Query" "VeilSearch$Query" "veiledMust" "Z") ∈ gT := gT_in1 111 rfl rfl
theorem w_113 : (Jvm.Cond.lays "VeilSearch$Query" "VeilSearch$Query" "size" "I") ∈ gT := gT_in1 113 rfl rfl
theorem w_115 : (Jvm.Cond.superclass "VeilSearch$Query" "java/lang/Object") ∈ gT := gT_in1 115 rfl rfl
theorem w_116 : (Jvm.Cond.arrayClass Jvm.ClassFile.FieldType.float) ∈ gT := gT_in1 116 rfl rfl
theorem w_117 : (Jvm.Cond.arrayClass Jvm.ClassFile.FieldType.boolean) ∈ gT := gT_in1 117 rfl rfl
theorem w_118 : (Jvm.Cond.classLink "VeilSearch" (30 : Nat) "VeilSearch$Hits") ∈ gT := gT_in1 118 rfl rfl
theorem w_119 : (Jvm.Cond.instantiable "VeilSearch$Hits" (4 : Nat)) ∈ gT := gT_in1 119 rfl rfl
theorem w_120 : (Jvm.Cond.methodLinkNest "VeilSearch" (32 : Nat) ({ cls := "VeilSearch$Hits", name := "<init>", desc := "()V" } : Jvm.MethodName) "VeilSearch") ∈ gN := gN_in1 120 rfl rfl
theorem w_121 : (Jvm.Cond.instanceMethod ({ cls := "VeilSearch$Hits", name := "<init>", desc := "()V" } : Jvm.MethodName)) ∈ gT := gT_in1 121 rfl rfl
theorem w_122 : (Jvm.Cond.code ({ cls := "VeilSearch$Hits", name := "<init>", desc := "()V" } : Jvm.MethodName) prog_4_method_1_code (1 : Nat) (Option.none : Option Jvm.ClassFile.FieldType)) ∈ gT := gT_in1 122 rfl rfl
theorem w_123 : (Jvm.Cond.methodLink "VeilSearch$Hits" (3 : Nat) ({ cls := "java/lang/Object", name := "<init>", desc := "()V" } : Jvm.MethodName)) ∈ gT := gT_in1 123 rfl rfl
theorem w_124 : (Jvm.Cond.fieldLink "VeilSearch$Hits" (9 : Nat) "VeilSearch$Hits" "ids" "[I") ∈ gT := gT_in1 124 rfl rfl
theorem w_125 : (Jvm.Cond.fieldLinkNest "VeilSearch" (207 : Nat) "VeilSearch$Hits" "ids" "[I" "VeilSearch") ∈ gN := gN_in1 125 rfl rfl
theorem w_126 : (Jvm.Cond.fieldLink "VeilSearch$Hits" (15 : Nat) "VeilSearch$Hits" "scores" "[F") ∈ gT := gT_in1 126 rfl rfl
theorem w_127 : (Jvm.Cond.fieldLinkNest "VeilSearch" (209 : Nat) "VeilSearch$Hits" "scores" "[F" "VeilSearch") ∈ gN := gN_in1 127 rfl rfl
theorem w_128 : (Jvm.Cond.fieldLink "VeilSearch$Hits" (19 : Nat) "VeilSearch$Hits" "size" "I") ∈ gT := gT_in1 128 rfl rfl
theorem w_129 : (Jvm.Cond.fieldLinkNest "VeilSearch" (203 : Nat) "VeilSearch$Hits" "size" "I" "VeilSearch") ∈ gN := gN_in1 129 rfl rfl
theorem w_130 : (Jvm.Cond.fieldLink "VeilSearch$Hits" (23 : Nat) "VeilSearch$Hits" "most" "I") ∈ gT := gT_in1 130 rfl rfl
theorem w_131 : (Jvm.Cond.fieldLinkNest "VeilSearch" (260 : Nat) "VeilSearch$Hits" "most" "I" "VeilSearch") ∈ gN := gN_in1 131 rfl rfl
theorem w_132 : (Jvm.Cond.laysFinal "VeilSearch$Hits" "VeilSearch$Hits" "ids" "[I") ∈ gT := gT_in1 132 rfl rfl
theorem w_134 : (Jvm.Cond.laysFinal "VeilSearch$Hits" "VeilSearch$Hits" "scores" "[F") ∈ gT := gT_in1 134 rfl rfl
theorem w_136 : (Jvm.Cond.lays "VeilSearch$Hits" "VeilSearch$Hits" "size" "I") ∈ gT := gT_in1 136 rfl rfl
theorem w_138 : (Jvm.Cond.lays "VeilSearch$Hits" "VeilSearch$Hits" "most" "I") ∈ gT := gT_in1 138 rfl rfl
theorem w_140 : (Jvm.Cond.superclass "VeilSearch$Hits" "java/lang/Object") ∈ gT := gT_in1 140 rfl rfl
theorem w_141 : (Jvm.Cond.classLink "VeilSearch" (37 : Nat) "VeilSearch$View") ∈ gT := gT_in1 141 rfl rfl
theorem w_142 : (Jvm.Cond.instantiable "VeilSearch$View" (3 : Nat)) ∈ gT := gT_in1 142 rfl rfl
theorem w_143 : (Jvm.Cond.methodLinkNest "VeilSearch" (39 : Nat) ({ cls := "VeilSearch$View", name := "<init>", desc := "()V" } : Jvm.MethodName) "VeilSearch") ∈ gN := gN_in1 143 rfl rfl
theorem w_144 : (Jvm.Cond.instanceMethod ({ cls := "VeilSearch$View", name := "<init>", desc := "()V" } : Jvm.MethodName)) ∈ gT := gT_in1 144 rfl rfl
theorem w_145 : (Jvm.Cond.code ({ cls := "VeilSearch$View", name := "<init>", desc := "()V" } : Jvm.MethodName) prog_8_method_1_code (1 : Nat) (Option.none : Option Jvm.ClassFile.FieldType)) ∈ gT := gT_in1 145 rfl rfl
theorem w_146 : (Jvm.Cond.methodLink "VeilSearch$View" (1 : Nat) ({ cls := "java/lang/Object", name := "<init>", desc := "()V" } : Jvm.MethodName)) ∈ gT := gT_in1 146 rfl rfl
theorem w_147 : (Jvm.Cond.classLink "VeilSearch$View" (7 : Nat) "VeilSearch$Rights") ∈ gT := gT_in1 147 rfl rfl
theorem w_148 : (Jvm.Cond.instantiable "VeilSearch$Rights" (3 : Nat)) ∈ gT := gT_in1 148 rfl rfl
theorem w_149 : (Jvm.Cond.methodLinkNest "VeilSearch$View" (9 : Nat) ({ cls := "VeilSearch$Rights", name := "<init>", desc := "()V" } : Jvm.MethodName) "VeilSearch") ∈ gN := gN_in1 149 rfl rfl
theorem w_150 : (Jvm.Cond.instanceMethod ({ cls := "VeilSearch$Rights", name := "<init>", desc := "()V" } : Jvm.MethodName)) ∈ gT := gT_in1 150 rfl rfl
theorem w_151 : (Jvm.Cond.code ({ cls := "VeilSearch$Rights", name := "<init>", desc := "()V" } : Jvm.MethodName) prog_6_method_1_code (1 : Nat) (Option.none : Option Jvm.ClassFile.FieldType)) ∈ gT := gT_in1 151 rfl rfl
theorem w_152 : (Jvm.Cond.methodLink "VeilSearch$Rights" (3 : Nat) ({ cls := "java/lang/Object", name := "<init>", desc := "()V" } : Jvm.MethodName)) ∈ gT := gT_in1 152 rfl rfl
theorem w_153 : (Jvm.Cond.fieldLink "VeilSearch$Rights" (9 : Nat) "VeilSearch$Rights" "groupsOf" "[I") ∈ gT := gT_in1 153 rfl rfl
theorem w_154 : (Jvm.Cond.fieldLink "VeilSearch$Rights" (15 : Nat) "VeilSearch$Rights" "levels" "[I") ∈ gT := gT_in1 154 rfl rfl
theorem w_155 : (Jvm.Cond.fieldLinkNest "VeilSearch" (78 : Nat) "VeilSearch$Rights" "levels" "[I" "VeilSearch") ∈ gN := gN_in1 155 rfl rfl
theorem w_156 : (Jvm.Cond.fieldLink "VeilSearch$Rights" (18 : Nat) "VeilSearch$Rights" "clearances" "[I") ∈ gT := gT_in1 156 rfl rfl
theorem w_157 : (Jvm.Cond.fieldLinkNest "VeilSearch" (82 : Nat) "VeilSearch$Rights" "clearances" "[I" "VeilSearch") ∈ gN := gN_in1 157 rfl rfl
theorem w_158 : (Jvm.Cond.laysFinal "VeilSearch$Rights" "VeilSearch$Rights" "groupsOf" "[I") ∈ gT := gT_in1 158 rfl rfl
theorem w_160 : (Jvm.Cond.laysFinal "VeilSearch$Rights" "VeilSearch$Rights" "levels" "[I") ∈ gT := gT_in1 160 rfl rfl
theorem w_162 : (Jvm.Cond.laysFinal "VeilSearch$Rights" "VeilSearch$Rights" "clearances" "[I") ∈ gT := gT_in1 162 rfl rfl
theorem w_164 : (Jvm.Cond.superclass "VeilSearch$Rights" "java/lang/Object") ∈ gT := gT_in1 164 rfl rfl
theorem w_165 : (Jvm.Cond.classLink "VeilSearch$View" (16 : Nat) "VeilSearch$Segments") ∈ gT := gT_in1 165 rfl rfl
theorem w_166 : (Jvm.Cond.instantiable "VeilSearch$Segments" (3 : Nat)) ∈ gT := gT_in1 166 rfl rfl
theorem w_167 : (Jvm.Cond.methodLinkNest "VeilSearch$View" (18 : Nat) ({ cls := "VeilSearch$Segments", name := "<init>", desc := "()V" } : Jvm.MethodName) "VeilSearch") ∈ gN := gN_in1 167 rfl rfl
theorem w_168 : (Jvm.Cond.instanceMethod ({ cls := "VeilSearch$Segments", name := "<init>", desc := "()V" } : Jvm.MethodName)) ∈ gT := gT_in1 168 rfl rfl
theorem w_169 : (Jvm.Cond.code ({ cls := "VeilSearch$Segments", name := "<init>", desc := "()V" } : Jvm.MethodName) prog_7_method_1_code (1 : Nat) (Option.none : Option Jvm.ClassFile.FieldType)) ∈ gT := gT_in1 169 rfl rfl
theorem w_170 : (Jvm.Cond.methodLink "VeilSearch$Segments" (3 : Nat) ({ cls := "java/lang/Object", name := "<init>", desc := "()V" } : Jvm.MethodName)) ∈ gT := gT_in1 170 rfl rfl
theorem w_171 : (Jvm.Cond.fieldLink "VeilSearch$Segments" (9 : Nat) "VeilSearch$Segments" "numbers" "[I") ∈ gT := gT_in1 171 rfl rfl
theorem w_172 : (Jvm.Cond.fieldLinkNest "VeilSearch" (189 : Nat) "VeilSearch$Segments" "numbers" "[I" "VeilSearch") ∈ gN := gN_in1 172 rfl rfl
theorem w_173 : (Jvm.Cond.fieldLink "VeilSearch$Segments" (15 : Nat) "VeilSearch$Segments" "ids" "[J") ∈ gT := gT_in1 173 rfl rfl
theorem w_174 : (Jvm.Cond.fieldLinkNest "VeilSearch" (192 : Nat) "VeilSearch$Segments" "ids" "[J" "VeilSearch") ∈ gN := gN_in1 174 rfl rfl
theorem w_175 : (Jvm.Cond.fieldLink "VeilSearch$Segments" (19 : Nat) "VeilSearch$Segments" "size" "I") ∈ gT := gT_in1 175 rfl rfl
theorem w_176 : (Jvm.Cond.fieldLinkNest "VeilSearch" (139 : Nat) "VeilSearch$Segments" "size" "I" "VeilSearch") ∈ gN := gN_in1 176 rfl rfl
theorem w_177 : (Jvm.Cond.laysFinal "VeilSearch$Segments" "VeilSearch$Segments" "numbers" "[I") ∈ gT := gT_in1 177 rfl rfl
theorem w_179 : (Jvm.Cond.laysFinal "VeilSearch$Segments" "VeilSearch$Segments" "ids" "[J") ∈ gT := gT_in1 179 rfl rfl
theorem w_181 : (Jvm.Cond.lays "VeilSearch$Segments" "VeilSearch$Segments" "size" "I") ∈ gT := gT_in1 181 rfl rfl
theorem w_183 : (Jvm.Cond.superclass "VeilSearch$Segments" "java/lang/Object") ∈ gT := gT_in1 183 rfl rfl
theorem w_184 : (Jvm.Cond.fieldLink "VeilSearch$View" (10 : Nat) "VeilSearch$View" "rights" "LVeilSearch$Rights;") ∈ gT := gT_in1 184 rfl rfl
theorem w_185 : (Jvm.Cond.fieldLinkNest "VeilSearch" (68 : Nat) "VeilSearch$View" "rights" "LVeilSearch$Rights;" "VeilSearch") ∈ gN := gN_in1 185 rfl rfl
theorem w_186 : (Jvm.Cond.fieldLink "VeilSearch$View" (19 : Nat) "VeilSearch$View" "segments" "LVeilSearch$Segments;") ∈ gT := gT_in1 186 rfl rfl
theorem w_187 : (Jvm.Cond.fieldLinkNest "VeilSearch" (135 : Nat) "VeilSearch$View" "segments" "LVeilSearch$Segments;" "VeilSearch") ∈ gN := gN_in1 187 rfl rfl
theorem w_188 : (Jvm.Cond.fieldLink "VeilSearch$View" (23 : Nat) "VeilSearch$View" "removed" "J") ∈ gT := gT_in1 188 rfl rfl
theorem w_189 : (Jvm.Cond.fieldLinkNest "VeilSearch" (123 : Nat) "VeilSearch$View" "removed" "J" "VeilSearch") ∈ gN := gN_in1 189 rfl rfl
theorem w_190 : (Jvm.Cond.laysFinal "VeilSearch$View" "VeilSearch$View" "rights" "LVeilSearch$Rights;") ∈ gT := gT_in1 190 rfl rfl
theorem w_192 : (Jvm.Cond.laysFinal "VeilSearch$View" "VeilSearch$View" "segments" "LVeilSearch$Segments;") ∈ gT := gT_in1 192 rfl rfl
theorem w_194 : (Jvm.Cond.lays "VeilSearch$View" "VeilSearch$View" "removed" "J") ∈ gT := gT_in1 194 rfl rfl
theorem w_196 : (Jvm.Cond.superclass "VeilSearch$View" "java/lang/Object") ∈ gT := gT_in1 196 rfl rfl
theorem w_197 : (Jvm.Cond.fieldLink "VeilSearch" (12 : Nat) "VeilSearch" "documents" "LVeilSearch$Documents;") ∈ gT := gT_in1 197 rfl rfl
theorem w_198 : (Jvm.Cond.fieldLink "VeilSearch" (19 : Nat) "VeilSearch" "filters" "LVeilSearch$Filters;") ∈ gT := gT_in1 198 rfl rfl
theorem w_199 : (Jvm.Cond.fieldLink "VeilSearch" (26 : Nat) "VeilSearch" "query" "LVeilSearch$Query;") ∈ gT := gT_in1 199 rfl rfl
theorem w_200 : (Jvm.Cond.fieldLink "VeilSearch" (33 : Nat) "VeilSearch" "hits" "LVeilSearch$Hits;") ∈ gT := gT_in1 200 rfl rfl
theorem w_201 : (Jvm.Cond.fieldLink "VeilSearch" (40 : Nat) "VeilSearch" "now" "LVeilSearch$View;") ∈ gT := gT_in1 201 rfl rfl
theorem w_202 : (Jvm.Cond.fieldLink "VeilSearch" (44 : Nat) "VeilSearch" "seen" "LVeilSearch$View;") ∈ gT := gT_in1 202 rfl rfl
theorem w_203 : (Jvm.Cond.fieldLink "VeilSearch" (47 : Nat) "VeilSearch" "buffer" "J") ∈ gT := gT_in1 203 rfl rfl
theorem w_204 : (Jvm.Cond.fieldLink "VeilSearch" (51 : Nat) "VeilSearch" "segmentsMade" "I") ∈ gT := gT_in1 204 rfl rfl
theorem w_205 : (Jvm.Cond.fieldLink "VeilSearch" (55 : Nat) "VeilSearch" "blocksLooked" "I") ∈ gT := gT_in1 205 rfl rfl
theorem w_206 : (Jvm.Cond.fieldLink "VeilSearch" (58 : Nat) "VeilSearch" "documentsFound" "I") ∈ gT := gT_in1 206 rfl rfl
theorem w_207 : (Jvm.Cond.laysFinal "VeilSearch" "VeilSearch" "documents" "LVeilSearch$Documents;") ∈ gT := gT_in1 207 rfl rfl
theorem w_209 : (Jvm.Cond.laysFinal "VeilSearch" "VeilSearch" "filters" "LVeilSearch$Filters;") ∈ gT := gT_in1 209 rfl rfl
theorem w_211 : (Jvm.Cond.laysFinal "VeilSearch" "VeilSearch" "query" "LVeilSearch$Query;") ∈ gT := gT_in1 211 rfl rfl
theorem w_213 : (Jvm.Cond.laysFinal "VeilSearch" "VeilSearch" "hits" "LVeilSearch$Hits;") ∈ gT := gT_in1 213 rfl rfl
theorem w_215 : (Jvm.Cond.laysFinal "VeilSearch" "VeilSearch" "now" "LVeilSearch$View;") ∈ gT := gT_in1 215 rfl rfl
theorem w_217 : (Jvm.Cond.laysFinal "VeilSearch" "VeilSearch" "seen" "LVeilSearch$View;") ∈ gT := gT_in1 217 rfl rfl
theorem w_219 : (Jvm.Cond.lays "VeilSearch" "VeilSearch" "buffer" "J") ∈ gT := gT_in1 219 rfl rfl
theorem w_221 : (Jvm.Cond.lays "VeilSearch" "VeilSearch" "segmentsMade" "I") ∈ gT := gT_in1 221 rfl rfl
theorem w_223 : (Jvm.Cond.lays "VeilSearch" "VeilSearch" "blocksLooked" "I") ∈ gT := gT_in1 223 rfl rfl
theorem w_225 : (Jvm.Cond.lays "VeilSearch" "VeilSearch" "documentsFound" "I") ∈ gT := gT_in1 225 rfl rfl
theorem w_227 : (Jvm.Cond.superclass "VeilSearch" "java/lang/Object") ∈ gT := gT_in1 227 rfl rfl
theorem w_228 : (Jvm.Cond.methodLink "VeilSearchLaw" (114 : Nat) ({ cls := "VeilSearch", name := "merge", desc := "()I" } : Jvm.MethodName)) ∈ gT := gT_in1 228 rfl rfl
theorem w_229 : (Jvm.Cond.instanceMethod ({ cls := "VeilSearch", name := "merge", desc := "()I" } : Jvm.MethodName)) ∈ gT := gT_in1 229 rfl rfl
theorem w_230 : (Jvm.Cond.selects "VeilSearch" ({ cls := "VeilSearch", name := "merge", desc := "()I" } : Jvm.MethodName) ({ cls := "VeilSearch", name := "merge", desc := "()I" } : Jvm.MethodName)) ∈ gT := gT_in1 230 rfl rfl
theorem w_231 : (Jvm.Cond.code ({ cls := "VeilSearch", name := "merge", desc := "()I" } : Jvm.MethodName) prog_1_method_10_code (5 : Nat) (Option.some Jvm.ClassFile.FieldType.int)) ∈ gT := gT_in1 231 rfl rfl
theorem w_232 : (Jvm.Cond.methodLink "VeilSearch" (154 : Nat) ({ cls := "VeilSearch$Segments", name := "allIds", desc := "()J" } : Jvm.MethodName)) ∈ gT := gT_in1 232 rfl rfl
theorem w_233 : (Jvm.Cond.instanceMethod ({ cls := "VeilSearch$Segments", name := "allIds", desc := "()J" } : Jvm.MethodName)) ∈ gT := gT_in1 233 rfl rfl
theorem w_234 : (Jvm.Cond.selects "VeilSearch$Segments" ({ cls := "VeilSearch$Segments", name := "allIds", desc := "()J" } : Jvm.MethodName) ({ cls := "VeilSearch$Segments", name := "allIds", desc := "()J" } : Jvm.MethodName)) ∈ gT := gT_in1 234 rfl rfl
theorem w_235 : (Jvm.Cond.code ({ cls := "VeilSearch$Segments", name := "allIds", desc := "()J" } : Jvm.MethodName) prog_7_method_3_code (4 : Nat) (Option.some Jvm.ClassFile.FieldType.long)) ∈ gT := gT_in1 235 rfl rfl
theorem w_236 : (Jvm.Cond.constantLong "VeilSearch" (133 : Nat) (-1 : Int64)) ∈ gT := gT_in1 236 rfl rfl
theorem w_237 : (Jvm.Cond.methodLink "VeilSearch" (150 : Nat) ({ cls := "VeilSearch", name := "appendSegment", desc := "(J)V" } : Jvm.MethodName)) ∈ gT := gT_in1 237 rfl rfl
theorem w_239 : (Jvm.Cond.instanceMethod ({ cls := "VeilSearch", name := "appendSegment", desc := "(J)V" } : Jvm.MethodName)) ∈ gT := gT_in1 239 rfl rfl
theorem w_240 : (Jvm.Cond.code ({ cls := "VeilSearch", name := "appendSegment", desc := "(J)V" } : Jvm.MethodName) prog_1_method_24_code (3 : Nat) (Option.none : Option Jvm.ClassFile.FieldType)) ∈ gT := gT_in2 0 rfl rfl
theorem w_241 : (Jvm.Cond.methodLink "VeilSearch" (237 : Nat) ({ cls := "VeilSearch$Segments", name := "append", desc := "(IJ)V" } : Jvm.MethodName)) ∈ gT := gT_in2 1 rfl rfl
theorem w_242 : (Jvm.Cond.instanceMethod ({ cls := "VeilSearch$Segments", name := "append", desc := "(IJ)V" } : Jvm.MethodName)) ∈ gT := gT_in2 2 rfl rfl
theorem w_243 : (Jvm.Cond.selects "VeilSearch$Segments" ({ cls := "VeilSearch$Segments", name := "append", desc := "(IJ)V" } : Jvm.MethodName) ({ cls := "VeilSearch$Segments", name := "append", desc := "(IJ)V" } : Jvm.MethodName)) ∈ gT := gT_in2 3 rfl rfl
theorem w_244 : (Jvm.Cond.code ({ cls := "VeilSearch$Segments", name := "append", desc := "(IJ)V" } : Jvm.MethodName) prog_7_method_2_code (4 : Nat) (Option.none : Option Jvm.ClassFile.FieldType)) ∈ gT := gT_in2 4 rfl rfl
theorem w_245 : (Jvm.Cond.methodLink "VeilSearch" (144 : Nat) ({ cls := "java/lang/Long", name := "bitCount", desc := "(J)I" } : Jvm.MethodName)) ∈ gT := gT_in2 5 rfl rfl
theorem w_246 : (Jvm.Cond.static ({ cls := "java/lang/Long", name := "bitCount", desc := "(J)I" } : Jvm.MethodName)) ∈ gT := gT_in2 6 rfl rfl
theorem w_247 : (Jvm.Cond.code ({ cls := "java/lang/Long", name := "bitCount", desc := "(J)I" } : Jvm.MethodName) prog_15_method_50_code (2 : Nat) (Option.some Jvm.ClassFile.FieldType.int)) ∈ gT := gT_in2 7 rfl rfl
theorem w_248 : (Jvm.Cond.constantLong "java/lang/Long" (314 : Nat) (6148914691236517205 : Int64)) ∈ gT := gT_in2 8 rfl rfl
theorem w_249 : (Jvm.Cond.constantLong "java/lang/Long" (316 : Nat) (3689348814741910323 : Int64)) ∈ gT := gT_in2 9 rfl rfl
theorem w_250 : (Jvm.Cond.constantLong "java/lang/Long" (318 : Nat) (1085102592571150095 : Int64)) ∈ gT := gT_in2 10 rfl rfl
theorem w_251 : (Jvm.Cond.methodLink "VeilSearchLaw" (118 : Nat) ({ cls := "VeilSearch", name := "refresh", desc := "()I" } : Jvm.MethodName)) ∈ gT := gT_in2 11 rfl rfl
theorem w_252 : (Jvm.Cond.instanceMethod ({ cls := "VeilSearch", name := "refresh", desc := "()I" } : Jvm.MethodName)) ∈ gT := gT_in2 12 rfl rfl
theorem w_253 : (Jvm.Cond.selects "VeilSearch" ({ cls := "VeilSearch", name := "refresh", desc := "()I" } : Jvm.MethodName) ({ cls := "VeilSearch", name := "refresh", desc := "()I" } : Jvm.MethodName)) ∈ gT := gT_in2 13 rfl rfl
theorem w_254 : (Jvm.Cond.code ({ cls := "VeilSearch", name := "refresh", desc := "()I" } : Jvm.MethodName) prog_1_method_11_code (2 : Nat) (Option.some Jvm.ClassFile.FieldType.int)) ∈ gT := gT_in2 14 rfl rfl
theorem w_255 : (Jvm.Cond.methodLink "VeilSearch" (158 : Nat) ({ cls := "VeilSearch$Rights", name := "sameAs", desc := "(LVeilSearch$Rights;)Z" } : Jvm.MethodName)) ∈ gT := gT_in2 15 rfl rfl
theorem w_256 : (Jvm.Cond.instanceMethod ({ cls := "VeilSearch$Rights", name := "sameAs", desc := "(LVeilSearch$Rights;)Z" } : Jvm.MethodName)) ∈ gT := gT_in2 16 rfl rfl
theorem w_257 : (Jvm.Cond.selects "VeilSearch$Rights" ({ cls := "VeilSearch$Rights", name := "sameAs", desc := "(LVeilSearch$Rights;)Z" } : Jvm.MethodName) ({ cls := "VeilSearch$Rights", name := "sameAs", desc := "(LVeilSearch$Rights;)Z" } : Jvm.MethodName)) ∈ gT := gT_in2 17 rfl rfl
theorem w_258 : (Jvm.Cond.code ({ cls := "VeilSearch$Rights", name := "sameAs", desc := "(LVeilSearch$Rights;)Z" } : Jvm.MethodName) prog_6_method_5_code (2 : Nat) (Option.some Jvm.ClassFile.FieldType.boolean)) ∈ gT := gT_in2 18 rfl rfl
theorem w_259 : (Jvm.Cond.methodLink "VeilSearch$Rights" (21 : Nat) ({ cls := "VeilSearch$Rights", name := "sameRow", desc := "([I[I)Z" } : Jvm.MethodName)) ∈ gT := gT_in2 19 rfl rfl
theorem w_260 : (Jvm.Cond.static ({ cls := "VeilSearch$Rights", name := "sameRow", desc := "([I[I)Z" } : Jvm.MethodName)) ∈ gT := gT_in2 20 rfl rfl
theorem w_261 : (Jvm.Cond.code ({ cls := "VeilSearch$Rights", name := "sameRow", desc := "([I[I)Z" } : Jvm.MethodName) prog_6_method_6_code (3 : Nat) (Option.some Jvm.ClassFile.FieldType.boolean)) ∈ gT := gT_in2 21 rfl rfl
theorem w_262 : (Jvm.Cond.methodLink "VeilSearch" (162 : Nat) ({ cls := "VeilSearch$View", name := "takeOver", desc := "(LVeilSearch$View;)V" } : Jvm.MethodName)) ∈ gT := gT_in2 22 rfl rfl
theorem w_263 : (Jvm.Cond.instanceMethod ({ cls := "VeilSearch$View", name := "takeOver", desc := "(LVeilSearch$View;)V" } : Jvm.MethodName)) ∈ gT := gT_in2 23 rfl rfl
theorem w_264 : (Jvm.Cond.selects "VeilSearch$View" ({ cls := "VeilSearch$View", name := "takeOver", desc := "(LVeilSearch$View;)V" } : Jvm.MethodName) ({ cls := "VeilSearch$View", name := "takeOver", desc := "(LVeilSearch$View;)V" } : Jvm.MethodName)) ∈ gT := gT_in2 24 rfl rfl
theorem w_265 : (Jvm.Cond.code ({ cls := "VeilSearch$View", name := "takeOver", desc := "(LVeilSearch$View;)V" } : Jvm.MethodName) prog_8_method_3_code (2 : Nat) (Option.none : Option Jvm.ClassFile.FieldType)) ∈ gT := gT_in2 25 rfl rfl
theorem w_266 : (Jvm.Cond.methodLink "VeilSearch$View" (33 : Nat) ({ cls := "VeilSearch$Rights", name := "takeOver", desc := "(LVeilSearch$Rights;)V" } : Jvm.MethodName)) ∈ gT := gT_in2 26 rfl rfl
theorem w_267 : (Jvm.Cond.instanceMethod ({ cls := "VeilSearch$Rights", name := "takeOver", desc := "(LVeilSearch$Rights;)V" } : Jvm.MethodName)) ∈ gT := gT_in2 27 rfl rfl
theorem w_268 : (Jvm.Cond.selects "VeilSearch$Rights" ({ cls := "VeilSearch$Rights", name := "takeOver", desc := "(LVeilSearch$Rights;)V" } : Jvm.MethodName) ({ cls := "VeilSearch$Rights", name := "takeOver", desc := "(LVeilSearch$Rights;)V" } : Jvm.MethodName)) ∈ gT := gT_in2 28 rfl rfl
theorem w_269 : (Jvm.Cond.code ({ cls := "VeilSearch$Rights", name := "takeOver", desc := "(LVeilSearch$Rights;)V" } : Jvm.MethodName) prog_6_method_7_code (2 : Nat) (Option.none : Option Jvm.ClassFile.FieldType)) ∈ gT := gT_in2 29 rfl rfl
theorem w_270 : (Jvm.Cond.methodLink "VeilSearch$Rights" (25 : Nat) ({ cls := "java/lang/System", name := "arraycopy", desc := "(Ljava/lang/Object;ILjava/lang/Object;II)V" } : Jvm.MethodName)) ∈ gT := gT_in2 30 rfl rfl
theorem w_271 : (Jvm.Cond.static ({ cls := "java/lang/System", name := "arraycopy", desc := "(Ljava/lang/Object;ILjava/lang/Object;II)V" } : Jvm.MethodName)) ∈ gT := gT_in2 31 rfl rfl
theorem w_272 : (Jvm.Cond.native ({ cls := "java/lang/System", name := "arraycopy", desc := "(Ljava/lang/Object;ILjava/lang/Object;II)V" } : Jvm.MethodName)) ∈ gT := gT_in2 32 rfl rfl
theorem w_273 : (Jvm.Cond.methodLink "VeilSearch$View" (37 : Nat) ({ cls := "VeilSearch$Segments", name := "takeOver", desc := "(LVeilSearch$Segments;)V" } : Jvm.MethodName)) ∈ gT := gT_in2 33 rfl rfl
theorem w_274 : (Jvm.Cond.instanceMethod ({ cls := "VeilSearch$Segments", name := "takeOver", desc := "(LVeilSearch$Segments;)V" } : Jvm.MethodName)) ∈ gT := gT_in2 34 rfl rfl
theorem w_275 : (Jvm.Cond.selects "VeilSearch$Segments" ({ cls := "VeilSearch$Segments", name := "takeOver", desc := "(LVeilSearch$Segments;)V" } : Jvm.MethodName) ({ cls := "VeilSearch$Segments", name := "takeOver", desc := "(LVeilSearch$Segments;)V" } : Jvm.MethodName)) ∈ gT := gT_in2 35 rfl rfl
theorem w_276 : (Jvm.Cond.code ({ cls := "VeilSearch$Segments", name := "takeOver", desc := "(LVeilSearch$Segments;)V" } : Jvm.MethodName) prog_7_method_5_code (2 : Nat) (Option.none : Option Jvm.ClassFile.FieldType)) ∈ gT := gT_in2 36 rfl rfl
theorem w_277 : (Jvm.Cond.methodLink "VeilSearch$Segments" (23 : Nat) ({ cls := "java/lang/System", name := "arraycopy", desc := "(Ljava/lang/Object;ILjava/lang/Object;II)V" } : Jvm.MethodName)) ∈ gT := gT_in2 37 rfl rfl
theorem w_278 : (Jvm.Cond.methodLink "VeilSearch" (166 : Nat) ({ cls := "VeilSearch$Filters", name := "dropAllBut", desc := "(LVeilSearch$Segments;)V" } : Jvm.MethodName)) ∈ gT := gT_in2 38 rfl rfl
theorem w_279 : (Jvm.Cond.instanceMethod ({ cls := "VeilSearch$Filters", name := "dropAllBut", desc := "(LVeilSearch$Segments;)V" } : Jvm.MethodName)) ∈ gT := gT_in2 39 rfl rfl
theorem w_280 : (Jvm.Cond.selects "VeilSearch$Filters" ({ cls := "VeilSearch$Filters", name := "dropAllBut", desc := "(LVeilSearch$Segments;)V" } : Jvm.MethodName) ({ cls := "VeilSearch$Filters", name := "dropAllBut", desc := "(LVeilSearch$Segments;)V" } : Jvm.MethodName)) ∈ gT := gT_in2 40 rfl rfl
theorem w_281 : (Jvm.Cond.code ({ cls := "VeilSearch$Filters", name := "dropAllBut", desc := "(LVeilSearch$Segments;)V" } : Jvm.MethodName) prog_3_method_5_code (3 : Nat) (Option.none : Option Jvm.ClassFile.FieldType)) ∈ gT := gT_in2 41 rfl rfl
theorem w_282 : (Jvm.Cond.methodLink "VeilSearch$Filters" (40 : Nat) ({ cls := "VeilSearch$Segments", name := "hasNumber", desc := "(I)Z" } : Jvm.MethodName)) ∈ gT := gT_in2 42 rfl rfl
theorem w_283 : (Jvm.Cond.instanceMethod ({ cls := "VeilSearch$Segments", name := "hasNumber", desc := "(I)Z" } : Jvm.MethodName)) ∈ gT := gT_in2 43 rfl rfl
theorem w_284 : (Jvm.Cond.selects "VeilSearch$Segments" ({ cls := "VeilSearch$Segments", name := "hasNumber", desc := "(I)Z" } : Jvm.MethodName) ({ cls := "VeilSearch$Segments", name := "hasNumber", desc := "(I)Z" } : Jvm.MethodName)) ∈ gT := gT_in2 44 rfl rfl
theorem w_285 : (Jvm.Cond.code ({ cls := "VeilSearch$Segments", name := "hasNumber", desc := "(I)Z" } : Jvm.MethodName) prog_7_method_4_code (3 : Nat) (Option.some Jvm.ClassFile.FieldType.boolean)) ∈ gT := gT_in2 45 rfl rfl
theorem w_286 : (Jvm.Cond.methodLink "VeilSearch$Filters" (32 : Nat) ({ cls := "VeilSearch$Filters", name := "drop", desc := "(I)V" } : Jvm.MethodName)) ∈ gT := gT_in2 46 rfl rfl
theorem w_288 : (Jvm.Cond.instanceMethod ({ cls := "VeilSearch$Filters", name := "drop", desc := "(I)V" } : Jvm.MethodName)) ∈ gT := gT_in2 48 rfl rfl
theorem w_289 : (Jvm.Cond.code ({ cls := "VeilSearch$Filters", name := "drop", desc := "(I)V" } : Jvm.MethodName) prog_3_method_7_code (3 : Nat) (Option.none : Option Jvm.ClassFile.FieldType)) ∈ gT := gT_in2 49 rfl rfl
theorem w_290 : (Jvm.Cond.methodLink "VeilSearch" (173 : Nat) ({ cls := "VeilSearch$View", name := "livingIds", desc := "()J" } : Jvm.MethodName)) ∈ gT := gT_in2 50 rfl rfl
theorem w_291 : (Jvm.Cond.instanceMethod ({ cls := "VeilSearch$View", name := "livingIds", desc := "()J" } : Jvm.MethodName)) ∈ gT := gT_in2 51 rfl rfl
theorem w_292 : (Jvm.Cond.selects "VeilSearch$View" ({ cls := "VeilSearch$View", name := "livingIds", desc := "()J" } : Jvm.MethodName) ({ cls := "VeilSearch$View", name := "livingIds", desc := "()J" } : Jvm.MethodName)) ∈ gT := gT_in2 52 rfl rfl
theorem w_293 : (Jvm.Cond.code ({ cls := "VeilSearch$View", name := "livingIds", desc := "()J" } : Jvm.MethodName) prog_8_method_2_code (1 : Nat) (Option.some Jvm.ClassFile.FieldType.long)) ∈ gT := gT_in2 53 rfl rfl
theorem w_294 : (Jvm.Cond.methodLink "VeilSearch$View" (27 : Nat) ({ cls := "VeilSearch$Segments", name := "allIds", desc := "()J" } : Jvm.MethodName)) ∈ gT := gT_in2 54 rfl rfl
theorem w_295 : (Jvm.Cond.constantLong "VeilSearch$View" (31 : Nat) (-1 : Int64)) ∈ gT := gT_in2 55 rfl rfl
theorem w_296 : (Jvm.Cond.methodLink "VeilSearchLaw" (126 : Nat) ({ cls := "VeilSearch", name := "clear", desc := "()I" } : Jvm.MethodName)) ∈ gT := gT_in2 56 rfl rfl
theorem w_297 : (Jvm.Cond.instanceMethod ({ cls := "VeilSearch", name := "clear", desc := "()I" } : Jvm.MethodName)) ∈ gT := gT_in2 57 rfl rfl
theorem w_298 : (Jvm.Cond.selects "VeilSearch" ({ cls := "VeilSearch", name := "clear", desc := "()I" } : Jvm.MethodName) ({ cls := "VeilSearch", name := "clear", desc := "()I" } : Jvm.MethodName)) ∈ gT := gT_in2 58 rfl rfl
theorem w_299 : (Jvm.Cond.code ({ cls := "VeilSearch", name := "clear", desc := "()I" } : Jvm.MethodName) prog_1_method_13_code (2 : Nat) (Option.some Jvm.ClassFile.FieldType.int)) ∈ gT := gT_in2 59 rfl rfl
theorem w_300 : (Jvm.Cond.methodLink "VeilSearchLaw" (75 : Nat) ({ cls := "VeilSearchLaw", name := "member", desc := "(LVeilSearch;IIZ[J)I" } : Jvm.MethodName)) ∈ gT := gT_in2 60 rfl rfl
theorem w_301 : (Jvm.Cond.static ({ cls := "VeilSearchLaw", name := "member", desc := "(LVeilSearch;IIZ[J)I" } : Jvm.MethodName)) ∈ gT := gT_in2 61 rfl rfl
theorem w_302 : (Jvm.Cond.codeWith ({ cls := "VeilSearchLaw", name := "member", desc := "(LVeilSearch;IIZ[J)I" } : Jvm.MethodName) method_3_code (6 : Nat) (Option.some Jvm.ClassFile.FieldType.int) [((0 : Nat), (19 : Nat), (22 : Nat), (13 : Nat))]) ∈ gT := gT_in2 62 rfl rfl
theorem w_303 : (Jvm.Cond.classLink "VeilSearchLaw" (13 : Nat) "java/lang/IllegalArgumentException") ∈ gT := gT_in2 63 rfl rfl
theorem w_304 : (Jvm.Cond.methodLink "VeilSearchLaw" (7 : Nat) ({ cls := "VeilSearch", name := "member", desc := "(IIZ)Z" } : Jvm.MethodName)) ∈ gT := gT_in2 64 rfl rfl
theorem w_305 : (Jvm.Cond.instanceMethod ({ cls := "VeilSearch", name := "member", desc := "(IIZ)Z" } : Jvm.MethodName)) ∈ gT := gT_in2 65 rfl rfl
theorem w_306 : (Jvm.Cond.selects "VeilSearch" ({ cls := "VeilSearch", name := "member", desc := "(IIZ)Z" } : Jvm.MethodName) ({ cls := "VeilSearch", name := "member", desc := "(IIZ)Z" } : Jvm.MethodName)) ∈ gT := gT_in2 66 rfl rfl
theorem w_307 : (Jvm.Cond.code ({ cls := "VeilSearch", name := "member", desc := "(IIZ)Z" } : Jvm.MethodName) prog_1_method_2_code (4 : Nat) (Option.some Jvm.ClassFile.FieldType.boolean)) ∈ gT := gT_in2 67 rfl rfl
theorem w_308 : (Jvm.Cond.methodLink "VeilSearch" (61 : Nat) ({ cls := "VeilSearch", name := "isBelow", desc := "(II)Z" } : Jvm.MethodName)) ∈ gT := gT_in2 68 rfl rfl
theorem w_309 : (Jvm.Cond.static ({ cls := "VeilSearch", name := "isBelow", desc := "(II)Z" } : Jvm.MethodName)) ∈ gT := gT_in2 69 rfl rfl
theorem w_310 : (Jvm.Cond.code ({ cls := "VeilSearch", name := "isBelow", desc := "(II)Z" } : Jvm.MethodName) prog_1_method_19_code (2 : Nat) (Option.some Jvm.ClassFile.FieldType.boolean)) ∈ gT := gT_in2 70 rfl rfl
theorem w_311 : (Jvm.Cond.classLink "VeilSearch" (65 : Nat) "java/lang/IllegalArgumentException") ∈ gT := gT_in2 71 rfl rfl
theorem w_312 : (Jvm.Cond.instantiable "java/lang/IllegalArgumentException" (6 : Nat)) ∈ gT := gT_in2 72 rfl rfl
theorem w_313 : (Jvm.Cond.castable "java/lang/IllegalArgumentException" "java/lang/IllegalArgumentException") ∈ gN := gN_in2 73 rfl rfl
theorem w_314 : (Jvm.Cond.declares ({ cls := "java/lang/RuntimeException", name := "<init>", desc := "()V" } : Jvm.MethodName)) ∈ gN := gN_in2 74 rfl rfl
theorem w_315 : (Jvm.Cond.declares ({ cls := "java/lang/RuntimeException", name := "<init>", desc := "(Ljava/lang/String;)V" } : Jvm.MethodName)) ∈ gN := gN_in2 75 rfl rfl
theorem w_316 : (Jvm.Cond.declares ({ cls := "java/lang/Exception", name := "<init>", desc := "()V" } : Jvm.MethodName)) ∈ gN := gN_in2 76 rfl rfl
theorem w_317 : (Jvm.Cond.declares ({ cls := "java/lang/Exception", name := "<init>", desc := "(Ljava/lang/String;)V" } : Jvm.MethodName)) ∈ gN := gN_in2 77 rfl rfl
theorem w_318 : (Jvm.Cond.declares ({ cls := "java/lang/Throwable", name := "<init>", desc := "()V" } : Jvm.MethodName)) ∈ gN := gN_in2 78 rfl rfl
theorem w_319 : (Jvm.Cond.declares ({ cls := "java/lang/Throwable", name := "<init>", desc := "(Ljava/lang/String;)V" } : Jvm.MethodName)) ∈ gN := gN_in2 79 rfl rfl
theorem w_320 : (Jvm.Cond.selects "java/lang/IllegalArgumentException" ({ cls := "java/lang/Throwable", name := "fillInStackTrace", desc := "(I)Ljava/lang/Throwable;" } : Jvm.MethodName) ({ cls := "java/lang/Throwable", name := "fillInStackTrace", desc := "(I)Ljava/lang/Throwable;" } : Jvm.MethodName)) ∈ gT := gT_in2 80 rfl rfl
theorem w_321 : (Jvm.Cond.selects "java/lang/IllegalArgumentException" ({ cls := "java/lang/Throwable", name := "fillInStackTrace", desc := "()Ljava/lang/Throwable;" } : Jvm.MethodName) ({ cls := "java/lang/Throwable", name := "fillInStackTrace", desc := "()Ljava/lang/Throwable;" } : Jvm.MethodName)) ∈ gT := gT_in2 81 rfl rfl
theorem w_322 : (Jvm.Cond.lays "java/lang/IllegalArgumentException" "java/lang/Throwable" "cause" "Ljava/lang/Throwable;") ∈ gT := gT_in2 82 rfl rfl
theorem w_323 : (Jvm.Cond.lays "java/lang/Throwable" "java/lang/Throwable" "cause" "Ljava/lang/Throwable;") ∈ gT := gT_in2 83 rfl rfl
theorem w_324 : (Jvm.Cond.lays "java/lang/IllegalArgumentException" "java/lang/Throwable" "stackTrace" "[Ljava/lang/StackTraceElement;") ∈ gT := gT_in2 84 rfl rfl
theorem w_325 : (Jvm.Cond.lays "java/lang/Throwable" "java/lang/Throwable" "stackTrace" "[Ljava/lang/StackTraceElement;") ∈ gT := gT_in2 85 rfl rfl
theorem w_326 : (Jvm.Cond.lays "java/lang/IllegalArgumentException" "java/lang/Throwable" "suppressedExceptions" "Ljava/util/List;") ∈ gT := gT_in2 86 rfl rfl
theorem w_327 : (Jvm.Cond.lays "java/lang/Throwable" "java/lang/Throwable" "suppressedExceptions" "Ljava/util/List;") ∈ gT := gT_in2 87 rfl rfl
theorem w_328 : (Jvm.Cond.lays "java/lang/IllegalArgumentException" "java/lang/Throwable" "detailMessage" "Ljava/lang/String;") ∈ gT := gT_in2 88 rfl rfl
theorem w_329 : (Jvm.Cond.lays "java/lang/Throwable" "java/lang/Throwable" "detailMessage" "Ljava/lang/String;") ∈ gT := gT_in2 89 rfl rfl
theorem w_330 : (Jvm.Cond.lays "java/lang/IllegalArgumentException" "java/lang/Throwable" "backtrace" "Ljava/lang/Object;") ∈ gT := gT_in2 90 rfl rfl
theorem w_331 : (Jvm.Cond.lays "java/lang/Throwable" "java/lang/Throwable" "backtrace" "Ljava/lang/Object;") ∈ gT := gT_in2 91 rfl rfl
theorem w_332 : (Jvm.Cond.fieldLink "java/lang/Throwable" (198 : Nat) "java/lang/Throwable" "backtrace" "Ljava/lang/Object;") ∈ gT := gT_in2 92 rfl rfl
theorem w_333 : (Jvm.Cond.superclass "java/lang/Throwable" "java/lang/Object") ∈ gT := gT_in2 93 rfl rfl
theorem w_334 : (Jvm.Cond.instanceMethod ({ cls := "java/lang/Throwable", name := "<init>", desc := "()V" } : Jvm.MethodName)) ∈ gT := gT_in2 94 rfl rfl
theorem w_335 : (Jvm.Cond.code ({ cls := "java/lang/Throwable", name := "<init>", desc := "()V" } : Jvm.MethodName) prog_19_method_1_code (1 : Nat) (Option.none : Option Jvm.ClassFile.FieldType)) ∈ gT := gT_in2 95 rfl rfl
theorem w_336 : (Jvm.Cond.methodLink "java/lang/Throwable" (1 : Nat) ({ cls := "java/lang/Object", name := "<init>", desc := "()V" } : Jvm.MethodName)) ∈ gT := gT_in2 96 rfl rfl
theorem w_337 : (Jvm.Cond.fieldLink "java/lang/Throwable" (13 : Nat) "java/lang/Throwable" "UNASSIGNED_STACK" "[Ljava/lang/StackTraceElement;") ∈ gT := gT_in2 97 rfl rfl
theorem w_339 : (Jvm.Cond.fieldLink "java/lang/Throwable" (20 : Nat) "java/lang/Throwable" "SUPPRESSED_SENTINEL" "Ljava/util/List;") ∈ gT := gT_in2 99 rfl rfl
theorem w_341 : (Jvm.Cond.methodLink "java/lang/Throwable" (27 : Nat) ({ cls := "java/lang/Throwable", name := "fillInStackTrace", desc := "()Ljava/lang/Throwable;" } : Jvm.MethodName)) ∈ gT := gT_in2 101 rfl rfl
theorem w_342 : (Jvm.Cond.instanceMethod ({ cls := "java/lang/Throwable", name := "fillInStackTrace", desc := "()Ljava/lang/Throwable;" } : Jvm.MethodName)) ∈ gT := gT_in2 102 rfl rfl
theorem w_343 : (Jvm.Cond.sameMethod "java/lang/Throwable" "java/lang/Throwable" "fillInStackTrace" "()Ljava/lang/Throwable;") ∈ gT := gT_in2 103 rfl rfl
theorem w_344 : (Jvm.Cond.selects "java/lang/IllegalStateException" ({ cls := "java/lang/Throwable", name := "fillInStackTrace", desc := "()Ljava/lang/Throwable;" } : Jvm.MethodName) ({ cls := "java/lang/Throwable", name := "fillInStackTrace", desc := "()Ljava/lang/Throwable;" } : Jvm.MethodName)) ∈ gT := gT_in2 104 rfl rfl
theorem w_345 : (Jvm.Cond.selects "java/lang/IndexOutOfBoundsException" ({ cls := "java/lang/Throwable", name := "fillInStackTrace", desc := "()Ljava/lang/Throwable;" } : Jvm.MethodName) ({ cls := "java/lang/Throwable", name := "fillInStackTrace", desc := "()Ljava/lang/Throwable;" } : Jvm.MethodName)) ∈ gT := gT_in2 105 rfl rfl
theorem w_346 : (Jvm.Cond.selects "java/lang/UnsupportedOperationException" ({ cls := "java/lang/Throwable", name := "fillInStackTrace", desc := "()Ljava/lang/Throwable;" } : Jvm.MethodName) ({ cls := "java/lang/Throwable", name := "fillInStackTrace", desc := "()Ljava/lang/Throwable;" } : Jvm.MethodName)) ∈ gT := gT_in2 106 rfl rfl
theorem w_347 : (Jvm.Cond.selects "java/util/NoSuchElementException" ({ cls := "java/lang/Throwable", name := "fillInStackTrace", desc := "()Ljava/lang/Throwable;" } : Jvm.MethodName) ({ cls := "java/lang/Throwable", name := "fillInStackTrace", desc := "()Ljava/lang/Throwable;" } : Jvm.MethodName)) ∈ gT := gT_in2 107 rfl rfl
theorem w_348 : (Jvm.Cond.codeSync ({ cls := "java/lang/Throwable", name := "fillInStackTrace", desc := "()Ljava/lang/Throwable;" } : Jvm.MethodName) prog_19_method_18_code (1 : Nat) (Option.some (Jvm.ClassFile.FieldType.object "java/lang/Throwable"))) ∈ gT := gT_in2 108 rfl rfl
theorem w_349 : (Jvm.Cond.methodLink "java/lang/Throwable" (202 : Nat) ({ cls := "java/lang/Throwable", name := "fillInStackTrace", desc := "(I)Ljava/lang/Throwable;" } : Jvm.MethodName)) ∈ gT := gT_in2 109 rfl rfl
theorem w_351 : (Jvm.Cond.instanceMethod ({ cls := "java/lang/Throwable", name := "fillInStackTrace", desc := "(I)Ljava/lang/Throwable;" } : Jvm.MethodName)) ∈ gT := gT_in2 111 rfl rfl
theorem w_352 : (Jvm.Cond.instantiable "java/lang/Throwable" (6 : Nat)) ∈ gT := gT_in2 112 rfl rfl
theorem w_353 : (Jvm.Cond.native ({ cls := "java/lang/Throwable", name := "fillInStackTrace", desc := "(I)Ljava/lang/Throwable;" } : Jvm.MethodName)) ∈ gT := gT_in2 113 rfl rfl
theorem w_354 : (Jvm.Cond.methodLink "VeilSearch" (67 : Nat) ({ cls := "java/lang/IllegalArgumentException", name := "<init>", desc := "()V" } : Jvm.MethodName)) ∈ gT := gT_in2 114 rfl rfl
theorem w_355 : (Jvm.Cond.instanceMethod ({ cls := "java/lang/IllegalArgumentException", name := "<init>", desc := "()V" } : Jvm.MethodName)) ∈ gT := gT_in2 115 rfl rfl
theorem w_356 : (Jvm.Cond.code ({ cls := "java/lang/IllegalArgumentException", name := "<init>", desc := "()V" } : Jvm.MethodName) prog_12_method_1_code (1 : Nat) (Option.none : Option Jvm.ClassFile.FieldType)) ∈ gT := gT_in2 116 rfl rfl
theorem w_357 : (Jvm.Cond.methodLink "java/lang/IllegalArgumentException" (1 : Nat) ({ cls := "java/lang/RuntimeException", name := "<init>", desc := "()V" } : Jvm.MethodName)) ∈ gT := gT_in2 117 rfl rfl
theorem w_358 : (Jvm.Cond.instanceMethod ({ cls := "java/lang/RuntimeException", name := "<init>", desc := "()V" } : Jvm.MethodName)) ∈ gT := gT_in2 118 rfl rfl
theorem w_359 : (Jvm.Cond.code ({ cls := "java/lang/RuntimeException", name := "<init>", desc := "()V" } : Jvm.MethodName) prog_17_method_1_code (1 : Nat) (Option.none : Option Jvm.ClassFile.FieldType)) ∈ gT := gT_in2 119 rfl rfl
theorem w_360 : (Jvm.Cond.methodLink "java/lang/RuntimeException" (1 : Nat) ({ cls := "java/lang/Exception", name := "<init>", desc := "()V" } : Jvm.MethodName)) ∈ gT := gT_in2 120 rfl rfl
theorem w_361 : (Jvm.Cond.instanceMethod ({ cls := "java/lang/Exception", name := "<init>", desc := "()V" } : Jvm.MethodName)) ∈ gT := gT_in2 121 rfl rfl
theorem w_362 : (Jvm.Cond.code ({ cls := "java/lang/Exception", name := "<init>", desc := "()V" } : Jvm.MethodName) prog_11_method_1_code (1 : Nat) (Option.none : Option Jvm.ClassFile.FieldType)) ∈ gT := gT_in2 122 rfl rfl
theorem w_363 : (Jvm.Cond.methodLink "java/lang/Exception" (1 : Nat) ({ cls := "java/lang/Throwable", name := "<init>", desc := "()V" } : Jvm.MethodName)) ∈ gT := gT_in2 123 rfl rfl
theorem w_364 : (Jvm.Cond.fieldLink "java/lang/Throwable" (198 : Nat) "java/lang/Throwable" "backtrace" "Ljava/lang/Object;") ∈ gT := gT_in2 124 rfl rfl
theorem w_365 : (Jvm.Cond.fieldLink "java/lang/Throwable" (7 : Nat) "java/lang/Throwable" "cause" "Ljava/lang/Throwable;") ∈ gT := gT_in2 125 rfl rfl
theorem w_366 : (Jvm.Cond.fieldLink "java/lang/Throwable" (17 : Nat) "java/lang/Throwable" "stackTrace" "[Ljava/lang/StackTraceElement;") ∈ gT := gT_in2 126 rfl rfl
theorem w_367 : (Jvm.Cond.fieldLink "java/lang/Throwable" (24 : Nat) "java/lang/Throwable" "suppressedExceptions" "Ljava/util/List;") ∈ gT := gT_in2 127 rfl rfl
theorem w_372 : (Jvm.Cond.lays "java/lang/IllegalArgumentException" "java/lang/Throwable" "depth" "I") ∈ gT := gT_in2 132 rfl rfl
theorem w_375 : (Jvm.Cond.superclass "java/lang/IllegalArgumentException" "java/lang/RuntimeException") ∈ gT := gT_in2 135 rfl rfl
theorem w_376 : (Jvm.Cond.methodLink "VeilSearch" (72 : Nat) ({ cls := "VeilSearch$Rights", name := "join", desc := "(IIZ)Z" } : Jvm.MethodName)) ∈ gT := gT_in2 136 rfl rfl
theorem w_377 : (Jvm.Cond.instanceMethod ({ cls := "VeilSearch$Rights", name := "join", desc := "(IIZ)Z" } : Jvm.MethodName)) ∈ gT := gT_in2 137 rfl rfl
theorem w_378 : (Jvm.Cond.selects "VeilSearch$Rights" ({ cls := "VeilSearch$Rights", name := "join", desc := "(IIZ)Z" } : Jvm.MethodName) ({ cls := "VeilSearch$Rights", name := "join", desc := "(IIZ)Z" } : Jvm.MethodName)) ∈ gT := gT_in2 138 rfl rfl
theorem w_379 : (Jvm.Cond.code ({ cls := "VeilSearch$Rights", name := "join", desc := "(IIZ)Z" } : Jvm.MethodName) prog_6_method_2_code (5 : Nat) (Option.some Jvm.ClassFile.FieldType.boolean)) ∈ gT := gT_in2 139 rfl rfl
theorem w_380 : (Jvm.Cond.methodLink "VeilSearchLaw" (84 : Nat) ({ cls := "VeilSearchLaw", name := "level", desc := "(LVeilSearch;III[J)I" } : Jvm.MethodName)) ∈ gT := gT_in2 140 rfl rfl
theorem w_381 : (Jvm.Cond.static ({ cls := "VeilSearchLaw", name := "level", desc := "(LVeilSearch;III[J)I" } : Jvm.MethodName)) ∈ gT := gT_in2 141 rfl rfl
theorem w_382 : (Jvm.Cond.codeWith ({ cls := "VeilSearchLaw", name := "level", desc := "(LVeilSearch;III[J)I" } : Jvm.MethodName) method_4_code (6 : Nat) (Option.some Jvm.ClassFile.FieldType.int) [((0 : Nat), (12 : Nat), (15 : Nat), (13 : Nat))]) ∈ gT := gT_in2 142 rfl rfl
theorem w_383 : (Jvm.Cond.methodLink "VeilSearchLaw" (15 : Nat) ({ cls := "VeilSearch", name := "level", desc := "(III)I" } : Jvm.MethodName)) ∈ gT := gT_in2 143 rfl rfl
theorem w_384 : (Jvm.Cond.instanceMethod ({ cls := "VeilSearch", name := "level", desc := "(III)I" } : Jvm.MethodName)) ∈ gT := gT_in2 144 rfl rfl
theorem w_385 : (Jvm.Cond.selects "VeilSearch" ({ cls := "VeilSearch", name := "level", desc := "(III)I" } : Jvm.MethodName) ({ cls := "VeilSearch", name := "level", desc := "(III)I" } : Jvm.MethodName)) ∈ gT := gT_in2 145 rfl rfl
theorem w_386 : (Jvm.Cond.code ({ cls := "VeilSearch", name := "level", desc := "(III)I" } : Jvm.MethodName) prog_1_method_3_code (6 : Nat) (Option.some Jvm.ClassFile.FieldType.int)) ∈ gT := gT_in2 146 rfl rfl
theorem w_387 : (Jvm.Cond.methodLink "VeilSearchLaw" (90 : Nat) ({ cls := "VeilSearchLaw", name := "weigh", desc := "(LVeilSearch;IID[J)I" } : Jvm.MethodName)) ∈ gT := gT_in2 147 rfl rfl
theorem w_388 : (Jvm.Cond.static ({ cls := "VeilSearchLaw", name := "weigh", desc := "(LVeilSearch;IID[J)I" } : Jvm.MethodName)) ∈ gT := gT_in2 148 rfl rfl
theorem w_389 : (Jvm.Cond.codeWith ({ cls := "VeilSearchLaw", name := "weigh", desc := "(LVeilSearch;IID[J)I" } : Jvm.MethodName) method_5_code (7 : Nat) (Option.some Jvm.ClassFile.FieldType.int) [((0 : Nat), (12 : Nat), (15 : Nat), (13 : Nat))]) ∈ gT := gT_in2 149 rfl rfl
theorem w_390 : (Jvm.Cond.methodLink "VeilSearchLaw" (19 : Nat) ({ cls := "VeilSearch", name := "weigh", desc := "(IID)I" } : Jvm.MethodName)) ∈ gT := gT_in2 150 rfl rfl
theorem w_391 : (Jvm.Cond.instanceMethod ({ cls := "VeilSearch", name := "weigh", desc := "(IID)I" } : Jvm.MethodName)) ∈ gT := gT_in2 151 rfl rfl
theorem w_392 : (Jvm.Cond.selects "VeilSearch" ({ cls := "VeilSearch", name := "weigh", desc := "(IID)I" } : Jvm.MethodName) ({ cls := "VeilSearch", name := "weigh", desc := "(IID)I" } : Jvm.MethodName)) ∈ gT := gT_in2 152 rfl rfl
theorem w_393 : (Jvm.Cond.code ({ cls := "VeilSearch", name := "weigh", desc := "(IID)I" } : Jvm.MethodName) prog_1_method_4_code (6 : Nat) (Option.some Jvm.ClassFile.FieldType.int)) ∈ gT := gT_in2 153 rfl rfl
theorem w_394 : (Jvm.Cond.methodLink "VeilSearch" (85 : Nat) ({ cls := "VeilSearch", name := "isWeight", desc := "(D)Z" } : Jvm.MethodName)) ∈ gT := gT_in2 154 rfl rfl
theorem w_395 : (Jvm.Cond.static ({ cls := "VeilSearch", name := "isWeight", desc := "(D)Z" } : Jvm.MethodName)) ∈ gT := gT_in2 155 rfl rfl
theorem w_396 : (Jvm.Cond.code ({ cls := "VeilSearch", name := "isWeight", desc := "(D)Z" } : Jvm.MethodName) prog_1_method_20_code (2 : Nat) (Option.some Jvm.ClassFile.FieldType.boolean)) ∈ gT := gT_in2 156 rfl rfl
theorem w_397 : (Jvm.Cond.constantDouble "VeilSearch" (231 : Nat) (4158027847206421152 : UInt64)) ∈ gT := gT_in2 157 rfl rfl
theorem w_398 : (Jvm.Cond.constantDouble "VeilSearch" (233 : Nat) (4652007308841189376 : UInt64)) ∈ gT := gT_in2 158 rfl rfl
theorem w_399 : (Jvm.Cond.methodLink "VeilSearch" (89 : Nat) ({ cls := "VeilSearch", name := "codeOf", desc := "(D)I" } : Jvm.MethodName)) ∈ gT := gT_in2 159 rfl rfl
theorem w_400 : (Jvm.Cond.static ({ cls := "VeilSearch", name := "codeOf", desc := "(D)I" } : Jvm.MethodName)) ∈ gT := gT_in2 160 rfl rfl
theorem w_401 : (Jvm.Cond.code ({ cls := "VeilSearch", name := "codeOf", desc := "(D)I" } : Jvm.MethodName) prog_1_method_21_code (3 : Nat) (Option.some Jvm.ClassFile.FieldType.int)) ∈ gT := gT_in2 161 rfl rfl
theorem w_402 : (Jvm.Cond.constantFloat "VeilSearch" (235 : Nat) (1098907648 : UInt32)) ∈ gT := gT_in2 162 rfl rfl
theorem w_403 : (Jvm.Cond.constantFloat "VeilSearch" (236 : Nat) (1056964608 : UInt32)) ∈ gT := gT_in2 163 rfl rfl
theorem w_404 : (Jvm.Cond.methodLink "VeilSearch" (99 : Nat) ({ cls := "VeilSearch$Documents", name := "codePlace", desc := "(III)I" } : Jvm.MethodName)) ∈ gT := gT_in2 164 rfl rfl
theorem w_405 : (Jvm.Cond.static ({ cls := "VeilSearch$Documents", name := "codePlace", desc := "(III)I" } : Jvm.MethodName)) ∈ gT := gT_in2 165 rfl rfl
theorem w_406 : (Jvm.Cond.code ({ cls := "VeilSearch$Documents", name := "codePlace", desc := "(III)I" } : Jvm.MethodName) prog_2_method_3_code (3 : Nat) (Option.some Jvm.ClassFile.FieldType.int)) ∈ gT := gT_in2 166 rfl rfl
theorem w_407 : (Jvm.Cond.methodLink "VeilSearch$Documents" (28 : Nat) ({ cls := "VeilSearch$Documents", name := "valuePlace", desc := "(II)I" } : Jvm.MethodName)) ∈ gT := gT_in2 167 rfl rfl
theorem w_408 : (Jvm.Cond.static ({ cls := "VeilSearch$Documents", name := "valuePlace", desc := "(II)I" } : Jvm.MethodName)) ∈ gT := gT_in2 168 rfl rfl
theorem w_409 : (Jvm.Cond.code ({ cls := "VeilSearch$Documents", name := "valuePlace", desc := "(II)I" } : Jvm.MethodName) prog_2_method_2_code (2 : Nat) (Option.some Jvm.ClassFile.FieldType.int)) ∈ gT := gT_in2 169 rfl rfl
theorem w_410 : (Jvm.Cond.methodLink "VeilSearchLaw" (94 : Nat) ({ cls := "VeilSearchLaw", name := "put", desc := "(LVeilSearch;II[J)I" } : Jvm.MethodName)) ∈ gT := gT_in2 170 rfl rfl
theorem w_411 : (Jvm.Cond.static ({ cls := "VeilSearchLaw", name := "put", desc := "(LVeilSearch;II[J)I" } : Jvm.MethodName)) ∈ gT := gT_in2 171 rfl rfl
theorem w_412 : (Jvm.Cond.codeWith ({ cls := "VeilSearchLaw", name := "put", desc := "(LVeilSearch;II[J)I" } : Jvm.MethodName) method_6_code (5 : Nat) (Option.some Jvm.ClassFile.FieldType.int) [((0 : Nat), (10 : Nat), (13 : Nat), (13 : Nat))]) ∈ gT := gT_in2 172 rfl rfl
theorem w_413 : (Jvm.Cond.methodLink "VeilSearchLaw" (23 : Nat) ({ cls := "VeilSearch", name := "put", desc := "(II)I" } : Jvm.MethodName)) ∈ gT := gT_in2 173 rfl rfl
theorem w_414 : (Jvm.Cond.instanceMethod ({ cls := "VeilSearch", name := "put", desc := "(II)I" } : Jvm.MethodName)) ∈ gT := gT_in2 174 rfl rfl
theorem w_415 : (Jvm.Cond.selects "VeilSearch" ({ cls := "VeilSearch", name := "put", desc := "(II)I" } : Jvm.MethodName) ({ cls := "VeilSearch", name := "put", desc := "(II)I" } : Jvm.MethodName)) ∈ gT := gT_in2 175 rfl rfl
theorem w_416 : (Jvm.Cond.code ({ cls := "VeilSearch", name := "put", desc := "(II)I" } : Jvm.MethodName) prog_1_method_5_code (5 : Nat) (Option.some Jvm.ClassFile.FieldType.int)) ∈ gT := gT_in2 176 rfl rfl
theorem w_417 : (Jvm.Cond.methodLink "VeilSearch" (103 : Nat) ({ cls := "VeilSearch$Documents", name := "valuePlace", desc := "(II)I" } : Jvm.MethodName)) ∈ gT := gT_in2 177 rfl rfl
theorem w_418 : (Jvm.Cond.methodLink "VeilSearchLaw" (98 : Nat) ({ cls := "VeilSearchLaw", name := "rule", desc := "(LVeilSearch;IZ[J)I" } : Jvm.MethodName)) ∈ gT := gT_in2 178 rfl rfl
theorem w_419 : (Jvm.Cond.static ({ cls := "VeilSearchLaw", name := "rule", desc := "(LVeilSearch;IZ[J)I" } : Jvm.MethodName)) ∈ gT := gT_in2 179 rfl rfl
theorem w_420 : (Jvm.Cond.codeWith ({ cls := "VeilSearchLaw", name := "rule", desc := "(LVeilSearch;IZ[J)I" } : Jvm.MethodName) method_7_code (5 : Nat) (Option.some Jvm.ClassFile.FieldType.int) [((0 : Nat), (17 : Nat), (20 : Nat), (13 : Nat))]) ∈ gT := gT_in2 180 rfl rfl
theorem w_421 : (Jvm.Cond.methodLink "VeilSearchLaw" (27 : Nat) ({ cls := "VeilSearch", name := "rule", desc := "(IZ)Z" } : Jvm.MethodName)) ∈ gT := gT_in2 181 rfl rfl
theorem w_422 : (Jvm.Cond.instanceMethod ({ cls := "VeilSearch", name := "rule", desc := "(IZ)Z" } : Jvm.MethodName)) ∈ gT := gT_in2 182 rfl rfl
theorem w_423 : (Jvm.Cond.selects "VeilSearch" ({ cls := "VeilSearch", name := "rule", desc := "(IZ)Z" } : Jvm.MethodName) ({ cls := "VeilSearch", name := "rule", desc := "(IZ)Z" } : Jvm.MethodName)) ∈ gT := gT_in2 183 rfl rfl
theorem w_424 : (Jvm.Cond.code ({ cls := "VeilSearch", name := "rule", desc := "(IZ)Z" } : Jvm.MethodName) prog_1_method_6_code (5 : Nat) (Option.some Jvm.ClassFile.FieldType.boolean)) ∈ gT := gT_in2 184 rfl rfl
theorem w_425 : (Jvm.Cond.methodLink "VeilSearchLaw" (102 : Nat) ({ cls := "VeilSearchLaw", name := "add", desc := "(LVeilSearch;I[J)I" } : Jvm.MethodName)) ∈ gT := gT_in2 185 rfl rfl
theorem w_426 : (Jvm.Cond.static ({ cls := "VeilSearchLaw", name := "add", desc := "(LVeilSearch;I[J)I" } : Jvm.MethodName)) ∈ gT := gT_in2 186 rfl rfl
theorem w_427 : (Jvm.Cond.codeWith ({ cls := "VeilSearchLaw", name := "add", desc := "(LVeilSearch;I[J)I" } : Jvm.MethodName) method_8_code (4 : Nat) (Option.some Jvm.ClassFile.FieldType.int) [((0 : Nat), (9 : Nat), (12 : Nat), (13 : Nat)), ((0 : Nat), (9 : Nat), (15 : Nat), (35 : Nat))]) ∈ gT := gT_in2 187 rfl rfl
theorem w_428 : (Jvm.Cond.classLink "VeilSearchLaw" (35 : Nat) "java/lang/IllegalStateException") ∈ gT := gT_in2 188 rfl rfl
theorem w_429 : (Jvm.Cond.methodLink "VeilSearchLaw" (31 : Nat) ({ cls := "VeilSearch", name := "add", desc := "(I)I" } : Jvm.MethodName)) ∈ gT := gT_in2 189 rfl rfl
theorem w_430 : (Jvm.Cond.instanceMethod ({ cls := "VeilSearch", name := "add", desc := "(I)I" } : Jvm.MethodName)) ∈ gT := gT_in2 190 rfl rfl
theorem w_431 : (Jvm.Cond.selects "VeilSearch" ({ cls := "VeilSearch", name := "add", desc := "(I)I" } : Jvm.MethodName) ({ cls := "VeilSearch", name := "add", desc := "(I)I" } : Jvm.MethodName)) ∈ gT := gT_in2 191 rfl rfl
theorem w_432 : (Jvm.Cond.code ({ cls := "VeilSearch", name := "add", desc := "(I)I" } : Jvm.MethodName) prog_1_method_7_code (3 : Nat) (Option.some Jvm.ClassFile.FieldType.int)) ∈ gT := gT_in2 192 rfl rfl
theorem w_433 : (Jvm.Cond.classLink "VeilSearch" (116 : Nat) "java/lang/IllegalStateException") ∈ gT := gT_in2 193 rfl rfl
theorem w_434 : (Jvm.Cond.instantiable "java/lang/IllegalStateException" (6 : Nat)) ∈ gT := gT_in2 194 rfl rfl
theorem w_435 : (Jvm.Cond.castable "java/lang/IllegalStateException" "java/lang/IllegalStateException") ∈ gN := gN_in2 195 rfl rfl
theorem w_436 : (Jvm.Cond.selects "java/lang/IllegalStateException" ({ cls := "java/lang/Throwable", name := "fillInStackTrace", desc := "(I)Ljava/lang/Throwable;" } : Jvm.MethodName) ({ cls := "java/lang/Throwable", name := "fillInStackTrace", desc := "(I)Ljava/lang/Throwable;" } : Jvm.MethodName)) ∈ gT := gT_in2 196 rfl rfl
theorem w_437 : (Jvm.Cond.lays "java/lang/IllegalStateException" "java/lang/Throwable" "cause" "Ljava/lang/Throwable;") ∈ gT := gT_in2 197 rfl rfl
theorem w_438 : (Jvm.Cond.lays "java/lang/IllegalStateException" "java/lang/Throwable" "stackTrace" "[Ljava/lang/StackTraceElement;") ∈ gT := gT_in2 198 rfl rfl
theorem w_439 : (Jvm.Cond.lays "java/lang/IllegalStateException" "java/lang/Throwable" "suppressedExceptions" "Ljava/util/List;") ∈ gT := gT_in2 199 rfl rfl
theorem w_440 : (Jvm.Cond.lays "java/lang/IllegalStateException" "java/lang/Throwable" "detailMessage" "Ljava/lang/String;") ∈ gT := gT_in2 200 rfl rfl
theorem w_441 : (Jvm.Cond.lays "java/lang/IllegalStateException" "java/lang/Throwable" "backtrace" "Ljava/lang/Object;") ∈ gT := gT_in2 201 rfl rfl
theorem w_442 : (Jvm.Cond.methodLink "VeilSearch" (118 : Nat) ({ cls := "java/lang/IllegalStateException", name := "<init>", desc := "()V" } : Jvm.MethodName)) ∈ gT := gT_in2 202 rfl rfl
theorem w_443 : (Jvm.Cond.instanceMethod ({ cls := "java/lang/IllegalStateException", name := "<init>", desc := "()V" } : Jvm.MethodName)) ∈ gT := gT_in2 203 rfl rfl
theorem w_444 : (Jvm.Cond.code ({ cls := "java/lang/IllegalStateException", name := "<init>", desc := "()V" } : Jvm.MethodName) prog_13_method_1_code (1 : Nat) (Option.none : Option Jvm.ClassFile.FieldType)) ∈ gT := gT_in2 204 rfl rfl
theorem w_445 : (Jvm.Cond.methodLink "java/lang/IllegalStateException" (1 : Nat) ({ cls := "java/lang/RuntimeException", name := "<init>", desc := "()V" } : Jvm.MethodName)) ∈ gT := gT_in2 205 rfl rfl
theorem w_446 : (Jvm.Cond.lays "java/lang/IllegalStateException" "java/lang/Throwable" "depth" "I") ∈ gT := gT_in2 206 rfl rfl
theorem w_447 : (Jvm.Cond.superclass "java/lang/IllegalStateException" "java/lang/RuntimeException") ∈ gT := gT_in2 207 rfl rfl
theorem w_448 : (Jvm.Cond.methodLink "VeilSearch" (119 : Nat) ({ cls := "VeilSearch$Documents", name := "finishDraft", desc := "(I)I" } : Jvm.MethodName)) ∈ gT := gT_in2 208 rfl rfl
theorem w_449 : (Jvm.Cond.instanceMethod ({ cls := "VeilSearch$Documents", name := "finishDraft", desc := "(I)I" } : Jvm.MethodName)) ∈ gT := gT_in2 209 rfl rfl
theorem w_450 : (Jvm.Cond.selects "VeilSearch$Documents" ({ cls := "VeilSearch$Documents", name := "finishDraft", desc := "(I)I" } : Jvm.MethodName) ({ cls := "VeilSearch$Documents", name := "finishDraft", desc := "(I)I" } : Jvm.MethodName)) ∈ gT := gT_in2 210 rfl rfl
theorem w_451 : (Jvm.Cond.code ({ cls := "VeilSearch$Documents", name := "finishDraft", desc := "(I)I" } : Jvm.MethodName) prog_2_method_4_code (3 : Nat) (Option.some Jvm.ClassFile.FieldType.int)) ∈ gT := gT_in2 211 rfl rfl
theorem w_452 : (Jvm.Cond.methodLink "VeilSearchLaw" (106 : Nat) ({ cls := "VeilSearchLaw", name := "remove", desc := "(LVeilSearch;I)I" } : Jvm.MethodName)) ∈ gT := gT_in2 212 rfl rfl
theorem w_453 : (Jvm.Cond.static ({ cls := "VeilSearchLaw", name := "remove", desc := "(LVeilSearch;I)I" } : Jvm.MethodName)) ∈ gT := gT_in2 213 rfl rfl
theorem w_454 : (Jvm.Cond.codeWith ({ cls := "VeilSearchLaw", name := "remove", desc := "(LVeilSearch;I)I" } : Jvm.MethodName) method_9_code (3 : Nat) (Option.some Jvm.ClassFile.FieldType.int) [((0 : Nat), (5 : Nat), (8 : Nat), (41 : Nat))]) ∈ gT := gT_in2 214 rfl rfl
theorem w_455 : (Jvm.Cond.classLink "VeilSearchLaw" (41 : Nat) "java/util/NoSuchElementException") ∈ gT := gT_in2 215 rfl rfl
theorem w_456 : (Jvm.Cond.methodLink "VeilSearchLaw" (37 : Nat) ({ cls := "VeilSearch", name := "remove", desc := "(I)V" } : Jvm.MethodName)) ∈ gT := gT_in2 216 rfl rfl
theorem w_457 : (Jvm.Cond.instanceMethod ({ cls := "VeilSearch", name := "remove", desc := "(I)V" } : Jvm.MethodName)) ∈ gT := gT_in2 217 rfl rfl
theorem w_458 : (Jvm.Cond.selects "VeilSearch" ({ cls := "VeilSearch", name := "remove", desc := "(I)V" } : Jvm.MethodName) ({ cls := "VeilSearch", name := "remove", desc := "(I)V" } : Jvm.MethodName)) ∈ gT := gT_in2 218 rfl rfl
theorem w_459 : (Jvm.Cond.code ({ cls := "VeilSearch", name := "remove", desc := "(I)V" } : Jvm.MethodName) prog_1_method_8_code (2 : Nat) (Option.none : Option Jvm.ClassFile.FieldType)) ∈ gT := gT_in2 219 rfl rfl
theorem w_460 : (Jvm.Cond.methodLink "VeilSearch" (126 : Nat) ({ cls := "VeilSearch", name := "holds", desc := "(JI)Z" } : Jvm.MethodName)) ∈ gT := gT_in2 220 rfl rfl
theorem w_461 : (Jvm.Cond.static ({ cls := "VeilSearch", name := "holds", desc := "(JI)Z" } : Jvm.MethodName)) ∈ gT := gT_in2 221 rfl rfl
theorem w_462 : (Jvm.Cond.code ({ cls := "VeilSearch", name := "holds", desc := "(JI)Z" } : Jvm.MethodName) prog_1_method_22_code (3 : Nat) (Option.some Jvm.ClassFile.FieldType.boolean)) ∈ gT := gT_in2 222 rfl rfl
theorem w_463 : (Jvm.Cond.classLink "VeilSearch" (130 : Nat) "java/util/NoSuchElementException") ∈ gT := gT_in2 223 rfl rfl
theorem w_464 : (Jvm.Cond.instantiable "java/util/NoSuchElementException" (6 : Nat)) ∈ gT := gT_in2 224 rfl rfl
theorem w_465 : (Jvm.Cond.castable "java/util/NoSuchElementException" "java/util/NoSuchElementException") ∈ gN := gN_in2 225 rfl rfl
theorem w_466 : (Jvm.Cond.selects "java/util/NoSuchElementException" ({ cls := "java/lang/Throwable", name := "fillInStackTrace", desc := "(I)Ljava/lang/Throwable;" } : Jvm.MethodName) ({ cls := "java/lang/Throwable", name := "fillInStackTrace", desc := "(I)Ljava/lang/Throwable;" } : Jvm.MethodName)) ∈ gT := gT_in2 226 rfl rfl
theorem w_467 : (Jvm.Cond.lays "java/util/NoSuchElementException" "java/lang/Throwable" "cause" "Ljava/lang/Throwable;") ∈ gT := gT_in2 227 rfl rfl
theorem w_468 : (Jvm.Cond.lays "java/util/NoSuchElementException" "java/lang/Throwable" "stackTrace" "[Ljava/lang/StackTraceElement;") ∈ gT := gT_in2 228 rfl rfl
theorem w_469 : (Jvm.Cond.lays "java/util/NoSuchElementException" "java/lang/Throwable" "suppressedExceptions" "Ljava/util/List;") ∈ gT := gT_in2 229 rfl rfl
theorem w_470 : (Jvm.Cond.lays "java/util/NoSuchElementException" "java/lang/Throwable" "detailMessage" "Ljava/lang/String;") ∈ gT := gT_in2 230 rfl rfl
theorem w_471 : (Jvm.Cond.lays "java/util/NoSuchElementException" "java/lang/Throwable" "backtrace" "Ljava/lang/Object;") ∈ gT := gT_in2 231 rfl rfl
theorem w_472 : (Jvm.Cond.methodLink "VeilSearch" (132 : Nat) ({ cls := "java/util/NoSuchElementException", name := "<init>", desc := "()V" } : Jvm.MethodName)) ∈ gT := gT_in2 232 rfl rfl
theorem w_473 : (Jvm.Cond.instanceMethod ({ cls := "java/util/NoSuchElementException", name := "<init>", desc := "()V" } : Jvm.MethodName)) ∈ gT := gT_in2 233 rfl rfl
theorem w_474 : (Jvm.Cond.code ({ cls := "java/util/NoSuchElementException", name := "<init>", desc := "()V" } : Jvm.MethodName) prog_21_method_1_code (1 : Nat) (Option.none : Option Jvm.ClassFile.FieldType)) ∈ gT := gT_in2 234 rfl rfl
theorem w_475 : (Jvm.Cond.methodLink "java/util/NoSuchElementException" (1 : Nat) ({ cls := "java/lang/RuntimeException", name := "<init>", desc := "()V" } : Jvm.MethodName)) ∈ gT := gT_in2 235 rfl rfl
theorem w_476 : (Jvm.Cond.lays "java/util/NoSuchElementException" "java/lang/Throwable" "depth" "I") ∈ gT := gT_in2 236 rfl rfl
theorem w_477 : (Jvm.Cond.superclass "java/util/NoSuchElementException" "java/lang/RuntimeException") ∈ gT := gT_in2 237 rfl rfl
theorem w_478 : (Jvm.Cond.methodLink "VeilSearchLaw" (110 : Nat) ({ cls := "VeilSearchLaw", name := "flush", desc := "(LVeilSearch;[J)I" } : Jvm.MethodName)) ∈ gT := gT_in2 238 rfl rfl
theorem w_479 : (Jvm.Cond.static ({ cls := "VeilSearchLaw", name := "flush", desc := "(LVeilSearch;[J)I" } : Jvm.MethodName)) ∈ gT := gT_in2 239 rfl rfl
theorem w_480 : (Jvm.Cond.codeWith ({ cls := "VeilSearchLaw", name := "flush", desc := "(LVeilSearch;[J)I" } : Jvm.MethodName) method_10_code (3 : Nat) (Option.some Jvm.ClassFile.FieldType.int) [((0 : Nat), (8 : Nat), (11 : Nat), (35 : Nat))]) ∈ gT := gT_in3 0 rfl rfl
theorem w_481 : (Jvm.Cond.methodLink "VeilSearchLaw" (43 : Nat) ({ cls := "VeilSearch", name := "flush", desc := "()I" } : Jvm.MethodName)) ∈ gT := gT_in3 1 rfl rfl
theorem w_482 : (Jvm.Cond.instanceMethod ({ cls := "VeilSearch", name := "flush", desc := "()I" } : Jvm.MethodName)) ∈ gT := gT_in3 2 rfl rfl
theorem w_483 : (Jvm.Cond.selects "VeilSearch" ({ cls := "VeilSearch", name := "flush", desc := "()I" } : Jvm.MethodName) ({ cls := "VeilSearch", name := "flush", desc := "()I" } : Jvm.MethodName)) ∈ gT := gT_in3 3 rfl rfl
theorem w_484 : (Jvm.Cond.code ({ cls := "VeilSearch", name := "flush", desc := "()I" } : Jvm.MethodName) prog_1_method_9_code (2 : Nat) (Option.some Jvm.ClassFile.FieldType.int)) ∈ gT := gT_in3 4 rfl rfl
theorem w_485 : (Jvm.Cond.methodLink "VeilSearchLaw" (122 : Nat) ({ cls := "VeilSearchLaw", name := "clause", desc := "(LVeilSearch;IIID[J)I" } : Jvm.MethodName)) ∈ gT := gT_in3 5 rfl rfl
theorem w_486 : (Jvm.Cond.static ({ cls := "VeilSearchLaw", name := "clause", desc := "(LVeilSearch;IIID[J)I" } : Jvm.MethodName)) ∈ gT := gT_in3 6 rfl rfl
theorem w_487 : (Jvm.Cond.codeWith ({ cls := "VeilSearchLaw", name := "clause", desc := "(LVeilSearch;IIID[J)I" } : Jvm.MethodName) method_11_code (8 : Nat) (Option.some Jvm.ClassFile.FieldType.int) [((0 : Nat), (14 : Nat), (17 : Nat), (13 : Nat)), ((0 : Nat), (14 : Nat), (21 : Nat), (35 : Nat))]) ∈ gT := gT_in3 7 rfl rfl
theorem w_488 : (Jvm.Cond.methodLink "VeilSearchLaw" (47 : Nat) ({ cls := "VeilSearch", name := "clause", desc := "(IIID)I" } : Jvm.MethodName)) ∈ gT := gT_in3 8 rfl rfl
theorem w_489 : (Jvm.Cond.instanceMethod ({ cls := "VeilSearch", name := "clause", desc := "(IIID)I" } : Jvm.MethodName)) ∈ gT := gT_in3 9 rfl rfl
theorem w_490 : (Jvm.Cond.selects "VeilSearch" ({ cls := "VeilSearch", name := "clause", desc := "(IIID)I" } : Jvm.MethodName) ({ cls := "VeilSearch", name := "clause", desc := "(IIID)I" } : Jvm.MethodName)) ∈ gT := gT_in3 10 rfl rfl
theorem w_491 : (Jvm.Cond.code ({ cls := "VeilSearch", name := "clause", desc := "(IIID)I" } : Jvm.MethodName) prog_1_method_12_code (6 : Nat) (Option.some Jvm.ClassFile.FieldType.int)) ∈ gT := gT_in3 11 rfl rfl
theorem w_492 : (Jvm.Cond.methodLink "VeilSearch" (177 : Nat) ({ cls := "VeilSearch$Query", name := "insert", desc := "(IIIF)V" } : Jvm.MethodName)) ∈ gT := gT_in3 12 rfl rfl
theorem w_493 : (Jvm.Cond.instanceMethod ({ cls := "VeilSearch$Query", name := "insert", desc := "(IIIF)V" } : Jvm.MethodName)) ∈ gT := gT_in3 13 rfl rfl
theorem w_494 : (Jvm.Cond.selects "VeilSearch$Query" ({ cls := "VeilSearch$Query", name := "insert", desc := "(IIIF)V" } : Jvm.MethodName) ({ cls := "VeilSearch$Query", name := "insert", desc := "(IIIF)V" } : Jvm.MethodName)) ∈ gT := gT_in3 14 rfl rfl
theorem w_495 : (Jvm.Cond.code ({ cls := "VeilSearch$Query", name := "insert", desc := "(IIIF)V" } : Jvm.MethodName) prog_5_method_2_code (6 : Nat) (Option.none : Option Jvm.ClassFile.FieldType)) ∈ gT := gT_in3 15 rfl rfl
theorem w_496 : (Jvm.Cond.methodLink "VeilSearch$Query" (37 : Nat) ({ cls := "VeilSearch$Query", name := "comesLater", desc := "(III)Z" } : Jvm.MethodName)) ∈ gT := gT_in3 16 rfl rfl
theorem w_498 : (Jvm.Cond.instanceMethod ({ cls := "VeilSearch$Query", name := "comesLater", desc := "(III)Z" } : Jvm.MethodName)) ∈ gT := gT_in3 18 rfl rfl
theorem w_499 : (Jvm.Cond.code ({ cls := "VeilSearch$Query", name := "comesLater", desc := "(III)Z" } : Jvm.MethodName) prog_5_method_3_code (4 : Nat) (Option.some Jvm.ClassFile.FieldType.boolean)) ∈ gT := gT_in3 19 rfl rfl
theorem w_500 : (Jvm.Cond.methodLink "VeilSearch$Query" (41 : Nat) ({ cls := "VeilSearch$Query", name := "move", desc := "(II)V" } : Jvm.MethodName)) ∈ gT := gT_in3 20 rfl rfl
theorem w_502 : (Jvm.Cond.instanceMethod ({ cls := "VeilSearch$Query", name := "move", desc := "(II)V" } : Jvm.MethodName)) ∈ gT := gT_in3 22 rfl rfl
theorem w_503 : (Jvm.Cond.code ({ cls := "VeilSearch$Query", name := "move", desc := "(II)V" } : Jvm.MethodName) prog_5_method_4_code (3 : Nat) (Option.none : Option Jvm.ClassFile.FieldType)) ∈ gT := gT_in3 23 rfl rfl
theorem w_504 : (Jvm.Cond.methodLink "VeilSearchLaw" (130 : Nat) ({ cls := "VeilSearchLaw", name := "search", desc := "(LVeilSearch;II[J)I" } : Jvm.MethodName)) ∈ gT := gT_in3 24 rfl rfl
theorem w_505 : (Jvm.Cond.static ({ cls := "VeilSearchLaw", name := "search", desc := "(LVeilSearch;II[J)I" } : Jvm.MethodName)) ∈ gT := gT_in3 25 rfl rfl
theorem w_506 : (Jvm.Cond.codeWith ({ cls := "VeilSearchLaw", name := "search", desc := "(LVeilSearch;II[J)I" } : Jvm.MethodName) method_12_code (5 : Nat) (Option.some Jvm.ClassFile.FieldType.int) [((0 : Nat), (10 : Nat), (13 : Nat), (13 : Nat))]) ∈ gT := gT_in3 26 rfl rfl
theorem w_507 : (Jvm.Cond.methodLink "VeilSearchLaw" (51 : Nat) ({ cls := "VeilSearch", name := "search", desc := "(II)I" } : Jvm.MethodName)) ∈ gT := gT_in3 27 rfl rfl
theorem w_508 : (Jvm.Cond.instanceMethod ({ cls := "VeilSearch", name := "search", desc := "(II)I" } : Jvm.MethodName)) ∈ gT := gT_in3 28 rfl rfl
theorem w_509 : (Jvm.Cond.selects "VeilSearch" ({ cls := "VeilSearch", name := "search", desc := "(II)I" } : Jvm.MethodName) ({ cls := "VeilSearch", name := "search", desc := "(II)I" } : Jvm.MethodName)) ∈ gT := gT_in3 29 rfl rfl
theorem w_510 : (Jvm.Cond.code ({ cls := "VeilSearch", name := "search", desc := "(II)I" } : Jvm.MethodName) prog_1_method_14_code (8 : Nat) (Option.some Jvm.ClassFile.FieldType.int)) ∈ gT := gT_in3 30 rfl rfl
theorem w_511 : (Jvm.Cond.methodLink "VeilSearch" (181 : Nat) ({ cls := "VeilSearch$Hits", name := "restart", desc := "(I)V" } : Jvm.MethodName)) ∈ gT := gT_in3 31 rfl rfl
theorem w_512 : (Jvm.Cond.instanceMethod ({ cls := "VeilSearch$Hits", name := "restart", desc := "(I)V" } : Jvm.MethodName)) ∈ gT := gT_in3 32 rfl rfl
theorem w_513 : (Jvm.Cond.selects "VeilSearch$Hits" ({ cls := "VeilSearch$Hits", name := "restart", desc := "(I)V" } : Jvm.MethodName) ({ cls := "VeilSearch$Hits", name := "restart", desc := "(I)V" } : Jvm.MethodName)) ∈ gT := gT_in3 33 rfl rfl
theorem w_514 : (Jvm.Cond.code ({ cls := "VeilSearch$Hits", name := "restart", desc := "(I)V" } : Jvm.MethodName) prog_4_method_2_code (2 : Nat) (Option.none : Option Jvm.ClassFile.FieldType)) ∈ gT := gT_in3 34 rfl rfl
theorem w_515 : (Jvm.Cond.methodLink "VeilSearch" (185 : Nat) ({ cls := "VeilSearch$Query", name := "openFor", desc := "(ILVeilSearch$Rights;)V" } : Jvm.MethodName)) ∈ gT := gT_in3 35 rfl rfl
theorem w_516 : (Jvm.Cond.instanceMethod ({ cls := "VeilSearch$Query", name := "openFor", desc := "(ILVeilSearch$Rights;)V" } : Jvm.MethodName)) ∈ gT := gT_in3 36 rfl rfl
theorem w_517 : (Jvm.Cond.selects "VeilSearch$Query" ({ cls := "VeilSearch$Query", name := "openFor", desc := "(ILVeilSearch$Rights;)V" } : Jvm.MethodName) ({ cls := "VeilSearch$Query", name := "openFor", desc := "(ILVeilSearch$Rights;)V" } : Jvm.MethodName)) ∈ gT := gT_in3 37 rfl rfl
theorem w_518 : (Jvm.Cond.code ({ cls := "VeilSearch$Query", name := "openFor", desc := "(ILVeilSearch$Rights;)V" } : Jvm.MethodName) prog_5_method_5_code (4 : Nat) (Option.none : Option Jvm.ClassFile.FieldType)) ∈ gT := gT_in3 38 rfl rfl
theorem w_519 : (Jvm.Cond.methodLink "VeilSearch$Query" (45 : Nat) ({ cls := "VeilSearch$Rights", name := "isOpen", desc := "(II)Z" } : Jvm.MethodName)) ∈ gT := gT_in3 39 rfl rfl
theorem w_520 : (Jvm.Cond.instanceMethod ({ cls := "VeilSearch$Rights", name := "isOpen", desc := "(II)Z" } : Jvm.MethodName)) ∈ gT := gT_in3 40 rfl rfl
theorem w_521 : (Jvm.Cond.selects "VeilSearch$Rights" ({ cls := "VeilSearch$Rights", name := "isOpen", desc := "(II)Z" } : Jvm.MethodName) ({ cls := "VeilSearch$Rights", name := "isOpen", desc := "(II)Z" } : Jvm.MethodName)) ∈ gT := gT_in3 41 rfl rfl
theorem w_522 : (Jvm.Cond.code ({ cls := "VeilSearch$Rights", name := "isOpen", desc := "(II)Z" } : Jvm.MethodName) prog_6_method_4_code (3 : Nat) (Option.some Jvm.ClassFile.FieldType.boolean)) ∈ gT := gT_in3 42 rfl rfl
theorem w_523 : (Jvm.Cond.methodLink "VeilSearch" (195 : Nat) ({ cls := "VeilSearch", name := "filterOf", desc := "(IJI)J" } : Jvm.MethodName)) ∈ gT := gT_in3 43 rfl rfl
theorem w_525 : (Jvm.Cond.instanceMethod ({ cls := "VeilSearch", name := "filterOf", desc := "(IJI)J" } : Jvm.MethodName)) ∈ gT := gT_in3 45 rfl rfl
theorem w_526 : (Jvm.Cond.code ({ cls := "VeilSearch", name := "filterOf", desc := "(IJI)J" } : Jvm.MethodName) prog_1_method_25_code (8 : Nat) (Option.some Jvm.ClassFile.FieldType.long)) ∈ gT := gT_in3 46 rfl rfl
theorem w_527 : (Jvm.Cond.methodLink "VeilSearch" (241 : Nat) ({ cls := "VeilSearch$Filters", name := "placeOf", desc := "(II)I" } : Jvm.MethodName)) ∈ gT := gT_in3 47 rfl rfl
theorem w_528 : (Jvm.Cond.instanceMethod ({ cls := "VeilSearch$Filters", name := "placeOf", desc := "(II)I" } : Jvm.MethodName)) ∈ gT := gT_in3 48 rfl rfl
theorem w_529 : (Jvm.Cond.selects "VeilSearch$Filters" ({ cls := "VeilSearch$Filters", name := "placeOf", desc := "(II)I" } : Jvm.MethodName) ({ cls := "VeilSearch$Filters", name := "placeOf", desc := "(II)I" } : Jvm.MethodName)) ∈ gT := gT_in3 49 rfl rfl
theorem w_530 : (Jvm.Cond.code ({ cls := "VeilSearch$Filters", name := "placeOf", desc := "(II)I" } : Jvm.MethodName) prog_3_method_2_code (4 : Nat) (Option.some Jvm.ClassFile.FieldType.int)) ∈ gT := gT_in3 50 rfl rfl
theorem w_531 : (Jvm.Cond.methodLink "VeilSearch" (244 : Nat) ({ cls := "VeilSearch$Filters", name := "reuse", desc := "(I)J" } : Jvm.MethodName)) ∈ gT := gT_in3 51 rfl rfl
theorem w_532 : (Jvm.Cond.instanceMethod ({ cls := "VeilSearch$Filters", name := "reuse", desc := "(I)J" } : Jvm.MethodName)) ∈ gT := gT_in3 52 rfl rfl
theorem w_533 : (Jvm.Cond.selects "VeilSearch$Filters" ({ cls := "VeilSearch$Filters", name := "reuse", desc := "(I)J" } : Jvm.MethodName) ({ cls := "VeilSearch$Filters", name := "reuse", desc := "(I)J" } : Jvm.MethodName)) ∈ gT := gT_in3 53 rfl rfl
theorem w_534 : (Jvm.Cond.code ({ cls := "VeilSearch$Filters", name := "reuse", desc := "(I)J" } : Jvm.MethodName) prog_3_method_3_code (6 : Nat) (Option.some Jvm.ClassFile.FieldType.long)) ∈ gT := gT_in3 54 rfl rfl
theorem w_535 : (Jvm.Cond.methodLink "VeilSearch$Filters" (36 : Nat) ({ cls := "VeilSearch$Filters", name := "append", desc := "(IIJ)V" } : Jvm.MethodName)) ∈ gT := gT_in3 55 rfl rfl
theorem w_537 : (Jvm.Cond.instanceMethod ({ cls := "VeilSearch$Filters", name := "append", desc := "(IIJ)V" } : Jvm.MethodName)) ∈ gT := gT_in3 57 rfl rfl
theorem w_538 : (Jvm.Cond.code ({ cls := "VeilSearch$Filters", name := "append", desc := "(IIJ)V" } : Jvm.MethodName) prog_3_method_6_code (5 : Nat) (Option.none : Option Jvm.ClassFile.FieldType)) ∈ gT := gT_in3 58 rfl rfl
theorem w_539 : (Jvm.Cond.methodLink "VeilSearch" (213 : Nat) ({ cls := "VeilSearch$Rights", name := "tokensOf", desc := "(I)I" } : Jvm.MethodName)) ∈ gT := gT_in3 59 rfl rfl
theorem w_540 : (Jvm.Cond.instanceMethod ({ cls := "VeilSearch$Rights", name := "tokensOf", desc := "(I)I" } : Jvm.MethodName)) ∈ gT := gT_in3 60 rfl rfl
theorem w_541 : (Jvm.Cond.selects "VeilSearch$Rights" ({ cls := "VeilSearch$Rights", name := "tokensOf", desc := "(I)I" } : Jvm.MethodName) ({ cls := "VeilSearch$Rights", name := "tokensOf", desc := "(I)I" } : Jvm.MethodName)) ∈ gT := gT_in3 61 rfl rfl
theorem w_542 : (Jvm.Cond.code ({ cls := "VeilSearch$Rights", name := "tokensOf", desc := "(I)I" } : Jvm.MethodName) prog_6_method_3_code (5 : Nat) (Option.some Jvm.ClassFile.FieldType.int)) ∈ gT := gT_in3 62 rfl rfl
theorem w_543 : (Jvm.Cond.methodLink "VeilSearch" (248 : Nat) ({ cls := "VeilSearch$Documents", name := "readableOf", desc := "(JI)J" } : Jvm.MethodName)) ∈ gT := gT_in3 63 rfl rfl
theorem w_544 : (Jvm.Cond.instanceMethod ({ cls := "VeilSearch$Documents", name := "readableOf", desc := "(JI)J" } : Jvm.MethodName)) ∈ gT := gT_in3 64 rfl rfl
theorem w_545 : (Jvm.Cond.selects "VeilSearch$Documents" ({ cls := "VeilSearch$Documents", name := "readableOf", desc := "(JI)J" } : Jvm.MethodName) ({ cls := "VeilSearch$Documents", name := "readableOf", desc := "(JI)J" } : Jvm.MethodName)) ∈ gT := gT_in3 65 rfl rfl
theorem w_546 : (Jvm.Cond.code ({ cls := "VeilSearch$Documents", name := "readableOf", desc := "(JI)J" } : Jvm.MethodName) prog_2_method_6_code (7 : Nat) (Option.some Jvm.ClassFile.FieldType.long)) ∈ gT := gT_in3 66 rfl rfl
theorem w_547 : (Jvm.Cond.methodLinkNest "VeilSearch$Documents" (32 : Nat) ({ cls := "VeilSearch", name := "holds", desc := "(JI)Z" } : Jvm.MethodName) "VeilSearch") ∈ gN := gN_in3 67 rfl rfl
theorem w_548 : (Jvm.Cond.methodLink "VeilSearch$Documents" (36 : Nat) ({ cls := "VeilSearch$Documents", name := "mayRead", desc := "(II)Z" } : Jvm.MethodName)) ∈ gT := gT_in3 68 rfl rfl
theorem w_549 : (Jvm.Cond.instanceMethod ({ cls := "VeilSearch$Documents", name := "mayRead", desc := "(II)Z" } : Jvm.MethodName)) ∈ gT := gT_in3 69 rfl rfl
theorem w_550 : (Jvm.Cond.selects "VeilSearch$Documents" ({ cls := "VeilSearch$Documents", name := "mayRead", desc := "(II)Z" } : Jvm.MethodName) ({ cls := "VeilSearch$Documents", name := "mayRead", desc := "(II)Z" } : Jvm.MethodName)) ∈ gT := gT_in3 70 rfl rfl
theorem w_551 : (Jvm.Cond.code ({ cls := "VeilSearch$Documents", name := "mayRead", desc := "(II)Z" } : Jvm.MethodName) prog_2_method_5_code (3 : Nat) (Option.some Jvm.ClassFile.FieldType.boolean)) ∈ gT := gT_in3 71 rfl rfl
theorem w_552 : (Jvm.Cond.methodLink "VeilSearch" (252 : Nat) ({ cls := "VeilSearch$Filters", name := "keepNew", desc := "(IIJ)V" } : Jvm.MethodName)) ∈ gT := gT_in3 72 rfl rfl
theorem w_553 : (Jvm.Cond.instanceMethod ({ cls := "VeilSearch$Filters", name := "keepNew", desc := "(IIJ)V" } : Jvm.MethodName)) ∈ gT := gT_in3 73 rfl rfl
theorem w_554 : (Jvm.Cond.selects "VeilSearch$Filters" ({ cls := "VeilSearch$Filters", name := "keepNew", desc := "(IIJ)V" } : Jvm.MethodName) ({ cls := "VeilSearch$Filters", name := "keepNew", desc := "(IIJ)V" } : Jvm.MethodName)) ∈ gT := gT_in3 74 rfl rfl
theorem w_555 : (Jvm.Cond.code ({ cls := "VeilSearch$Filters", name := "keepNew", desc := "(IIJ)V" } : Jvm.MethodName) prog_3_method_4_code (5 : Nat) (Option.none : Option Jvm.ClassFile.FieldType)) ∈ gT := gT_in3 75 rfl rfl
theorem w_556 : (Jvm.Cond.methodLink "VeilSearch" (199 : Nat) ({ cls := "VeilSearch", name := "passThrough", desc := "(JJ)V" } : Jvm.MethodName)) ∈ gT := gT_in3 76 rfl rfl
theorem w_558 : (Jvm.Cond.instanceMethod ({ cls := "VeilSearch", name := "passThrough", desc := "(JJ)V" } : Jvm.MethodName)) ∈ gT := gT_in3 78 rfl rfl
theorem w_559 : (Jvm.Cond.code ({ cls := "VeilSearch", name := "passThrough", desc := "(JJ)V" } : Jvm.MethodName) prog_1_method_26_code (10 : Nat) (Option.none : Option Jvm.ClassFile.FieldType)) ∈ gT := gT_in3 79 rfl rfl
theorem w_560 : (Jvm.Cond.methodLink "VeilSearch" (256 : Nat) ({ cls := "VeilSearch", name := "firstBlock", desc := "(J)J" } : Jvm.MethodName)) ∈ gT := gT_in3 80 rfl rfl
theorem w_561 : (Jvm.Cond.static ({ cls := "VeilSearch", name := "firstBlock", desc := "(J)J" } : Jvm.MethodName)) ∈ gT := gT_in3 81 rfl rfl
theorem w_562 : (Jvm.Cond.code ({ cls := "VeilSearch", name := "firstBlock", desc := "(J)J" } : Jvm.MethodName) prog_1_method_27_code (5 : Nat) (Option.some Jvm.ClassFile.FieldType.long)) ∈ gT := gT_in3 82 rfl rfl
theorem w_563 : (Jvm.Cond.methodLink "VeilSearch" (263 : Nat) ({ cls := "VeilSearch$Query", name := "scoreOf", desc := "(JLVeilSearch$Documents;)F" } : Jvm.MethodName)) ∈ gT := gT_in3 83 rfl rfl
theorem w_564 : (Jvm.Cond.instanceMethod ({ cls := "VeilSearch$Query", name := "scoreOf", desc := "(JLVeilSearch$Documents;)F" } : Jvm.MethodName)) ∈ gT := gT_in3 84 rfl rfl
theorem w_565 : (Jvm.Cond.selects "VeilSearch$Query" ({ cls := "VeilSearch$Query", name := "scoreOf", desc := "(JLVeilSearch$Documents;)F" } : Jvm.MethodName) ({ cls := "VeilSearch$Query", name := "scoreOf", desc := "(JLVeilSearch$Documents;)F" } : Jvm.MethodName)) ∈ gT := gT_in3 85 rfl rfl
theorem w_566 : (Jvm.Cond.code ({ cls := "VeilSearch$Query", name := "scoreOf", desc := "(JLVeilSearch$Documents;)F" } : Jvm.MethodName) prog_5_method_7_code (7 : Nat) (Option.some Jvm.ClassFile.FieldType.float)) ∈ gT := gT_in3 86 rfl rfl
theorem w_567 : (Jvm.Cond.methodLink "VeilSearch$Query" (60 : Nat) ({ cls := "VeilSearch$Documents", name := "greatestCode", desc := "(JII)I" } : Jvm.MethodName)) ∈ gT := gT_in3 87 rfl rfl
theorem w_568 : (Jvm.Cond.instanceMethod ({ cls := "VeilSearch$Documents", name := "greatestCode", desc := "(JII)I" } : Jvm.MethodName)) ∈ gT := gT_in3 88 rfl rfl
theorem w_569 : (Jvm.Cond.selects "VeilSearch$Documents" ({ cls := "VeilSearch$Documents", name := "greatestCode", desc := "(JII)I" } : Jvm.MethodName) ({ cls := "VeilSearch$Documents", name := "greatestCode", desc := "(JII)I" } : Jvm.MethodName)) ∈ gT := gT_in3 89 rfl rfl
theorem w_570 : (Jvm.Cond.code ({ cls := "VeilSearch$Documents", name := "greatestCode", desc := "(JII)I" } : Jvm.MethodName) prog_2_method_7_code (9 : Nat) (Option.some Jvm.ClassFile.FieldType.int)) ∈ gT := gT_in3 90 rfl rfl
theorem w_571 : (Jvm.Cond.methodLinkNest "VeilSearch$Documents" (40 : Nat) ({ cls := "VeilSearch", name := "lowestId", desc := "(J)I" } : Jvm.MethodName) "VeilSearch") ∈ gN := gN_in3 91 rfl rfl
theorem w_572 : (Jvm.Cond.static ({ cls := "VeilSearch", name := "lowestId", desc := "(J)I" } : Jvm.MethodName)) ∈ gT := gT_in3 92 rfl rfl
theorem w_573 : (Jvm.Cond.code ({ cls := "VeilSearch", name := "lowestId", desc := "(J)I" } : Jvm.MethodName) prog_1_method_23_code (2 : Nat) (Option.some Jvm.ClassFile.FieldType.int)) ∈ gT := gT_in3 93 rfl rfl
theorem w_574 : (Jvm.Cond.methodLink "VeilSearch$Documents" (44 : Nat) ({ cls := "VeilSearch$Documents", name := "codePlace", desc := "(III)I" } : Jvm.MethodName)) ∈ gT := gT_in3 94 rfl rfl
theorem w_575 : (Jvm.Cond.methodLink "VeilSearch$Documents" (48 : Nat) ({ cls := "java/lang/Math", name := "max", desc := "(II)I" } : Jvm.MethodName)) ∈ gT := gT_in3 95 rfl rfl
theorem w_576 : (Jvm.Cond.static ({ cls := "java/lang/Math", name := "max", desc := "(II)I" } : Jvm.MethodName)) ∈ gT := gT_in3 96 rfl rfl
theorem w_577 : (Jvm.Cond.code ({ cls := "java/lang/Math", name := "max", desc := "(II)I" } : Jvm.MethodName) prog_16_method_65_code (2 : Nat) (Option.some Jvm.ClassFile.FieldType.int)) ∈ gT := gT_in3 97 rfl rfl
theorem w_578 : (Jvm.Cond.constantFloat "VeilSearch$Query" (64 : Nat) (1098907648 : UInt32)) ∈ gT := gT_in3 98 rfl rfl
theorem w_579 : (Jvm.Cond.methodLink "VeilSearch" (267 : Nat) ({ cls := "VeilSearch$Hits", name := "lastScore", desc := "()F" } : Jvm.MethodName)) ∈ gT := gT_in3 99 rfl rfl
theorem w_580 : (Jvm.Cond.instanceMethod ({ cls := "VeilSearch$Hits", name := "lastScore", desc := "()F" } : Jvm.MethodName)) ∈ gT := gT_in3 100 rfl rfl
theorem w_581 : (Jvm.Cond.selects "VeilSearch$Hits" ({ cls := "VeilSearch$Hits", name := "lastScore", desc := "()F" } : Jvm.MethodName) ({ cls := "VeilSearch$Hits", name := "lastScore", desc := "()F" } : Jvm.MethodName)) ∈ gT := gT_in3 101 rfl rfl
theorem w_582 : (Jvm.Cond.code ({ cls := "VeilSearch$Hits", name := "lastScore", desc := "()F" } : Jvm.MethodName) prog_4_method_3_code (1 : Nat) (Option.some Jvm.ClassFile.FieldType.float)) ∈ gT := gT_in3 102 rfl rfl
theorem w_583 : (Jvm.Cond.methodLink "VeilSearch" (271 : Nat) ({ cls := "VeilSearch", name := "lookAt", desc := "(J)V" } : Jvm.MethodName)) ∈ gT := gT_in3 103 rfl rfl
theorem w_585 : (Jvm.Cond.instanceMethod ({ cls := "VeilSearch", name := "lookAt", desc := "(J)V" } : Jvm.MethodName)) ∈ gT := gT_in3 105 rfl rfl
theorem w_586 : (Jvm.Cond.code ({ cls := "VeilSearch", name := "lookAt", desc := "(J)V" } : Jvm.MethodName) prog_1_method_28_code (7 : Nat) (Option.none : Option Jvm.ClassFile.FieldType)) ∈ gT := gT_in3 106 rfl rfl
theorem w_587 : (Jvm.Cond.methodLink "VeilSearch" (274 : Nat) ({ cls := "VeilSearch", name := "lowestId", desc := "(J)I" } : Jvm.MethodName)) ∈ gT := gT_in3 107 rfl rfl
theorem w_588 : (Jvm.Cond.methodLink "VeilSearch" (277 : Nat) ({ cls := "VeilSearch$Query", name := "finds", desc := "(ILVeilSearch$Documents;)Z" } : Jvm.MethodName)) ∈ gT := gT_in3 108 rfl rfl
theorem w_589 : (Jvm.Cond.instanceMethod ({ cls := "VeilSearch$Query", name := "finds", desc := "(ILVeilSearch$Documents;)Z" } : Jvm.MethodName)) ∈ gT := gT_in3 109 rfl rfl
theorem w_590 : (Jvm.Cond.selects "VeilSearch$Query" ({ cls := "VeilSearch$Query", name := "finds", desc := "(ILVeilSearch$Documents;)Z" } : Jvm.MethodName) ({ cls := "VeilSearch$Query", name := "finds", desc := "(ILVeilSearch$Documents;)Z" } : Jvm.MethodName)) ∈ gT := gT_in3 110 rfl rfl
theorem w_591 : (Jvm.Cond.code ({ cls := "VeilSearch$Query", name := "finds", desc := "(ILVeilSearch$Documents;)Z" } : Jvm.MethodName) prog_5_method_6_code (6 : Nat) (Option.some Jvm.ClassFile.FieldType.boolean)) ∈ gT := gT_in3 111 rfl rfl
theorem w_592 : (Jvm.Cond.methodLink "VeilSearch$Query" (56 : Nat) ({ cls := "VeilSearch$Documents", name := "codePlace", desc := "(III)I" } : Jvm.MethodName)) ∈ gT := gT_in3 112 rfl rfl
theorem w_593 : (Jvm.Cond.methodLink "VeilSearch" (281 : Nat) ({ cls := "VeilSearch$Hits", name := "take", desc := "(IF)V" } : Jvm.MethodName)) ∈ gT := gT_in3 113 rfl rfl
theorem w_594 : (Jvm.Cond.instanceMethod ({ cls := "VeilSearch$Hits", name := "take", desc := "(IF)V" } : Jvm.MethodName)) ∈ gT := gT_in3 114 rfl rfl
theorem w_595 : (Jvm.Cond.selects "VeilSearch$Hits" ({ cls := "VeilSearch$Hits", name := "take", desc := "(IF)V" } : Jvm.MethodName) ({ cls := "VeilSearch$Hits", name := "take", desc := "(IF)V" } : Jvm.MethodName)) ∈ gT := gT_in3 115 rfl rfl
theorem w_596 : (Jvm.Cond.code ({ cls := "VeilSearch$Hits", name := "take", desc := "(IF)V" } : Jvm.MethodName) prog_4_method_4_code (4 : Nat) (Option.none : Option Jvm.ClassFile.FieldType)) ∈ gT := gT_in3 116 rfl rfl
theorem w_597 : (Jvm.Cond.methodLink "VeilSearch$Hits" (26 : Nat) ({ cls := "VeilSearch$Hits", name := "lastScore", desc := "()F" } : Jvm.MethodName)) ∈ gT := gT_in3 117 rfl rfl
theorem w_598 : (Jvm.Cond.methodLink "VeilSearch$Hits" (30 : Nat) ({ cls := "java/lang/Math", name := "min", desc := "(II)I" } : Jvm.MethodName)) ∈ gT := gT_in3 118 rfl rfl
theorem w_599 : (Jvm.Cond.static ({ cls := "java/lang/Math", name := "min", desc := "(II)I" } : Jvm.MethodName)) ∈ gT := gT_in3 119 rfl rfl
theorem w_600 : (Jvm.Cond.code ({ cls := "java/lang/Math", name := "min", desc := "(II)I" } : Jvm.MethodName) prog_16_method_69_code (2 : Nat) (Option.some Jvm.ClassFile.FieldType.int)) ∈ gT := gT_in3 120 rfl rfl
theorem w_601 : (Jvm.Cond.methodLink "VeilSearchLaw" (133 : Nat) ({ cls := "VeilSearchLaw", name := "hit", desc := "(LVeilSearch;I[J)I" } : Jvm.MethodName)) ∈ gT := gT_in3 121 rfl rfl
theorem w_602 : (Jvm.Cond.static ({ cls := "VeilSearchLaw", name := "hit", desc := "(LVeilSearch;I[J)I" } : Jvm.MethodName)) ∈ gT := gT_in3 122 rfl rfl
theorem w_603 : (Jvm.Cond.codeWith ({ cls := "VeilSearchLaw", name := "hit", desc := "(LVeilSearch;I[J)I" } : Jvm.MethodName) method_13_code (4 : Nat) (Option.some Jvm.ClassFile.FieldType.int) [((0 : Nat), (9 : Nat), (12 : Nat), (57 : Nat))]) ∈ gT := gT_in3 123 rfl rfl
theorem w_604 : (Jvm.Cond.classLink "VeilSearchLaw" (57 : Nat) "java/lang/IndexOutOfBoundsException") ∈ gT := gT_in3 124 rfl rfl
theorem w_605 : (Jvm.Cond.methodLink "VeilSearchLaw" (54 : Nat) ({ cls := "VeilSearch", name := "hit", desc := "(I)I" } : Jvm.MethodName)) ∈ gT := gT_in3 125 rfl rfl
theorem w_606 : (Jvm.Cond.instanceMethod ({ cls := "VeilSearch", name := "hit", desc := "(I)I" } : Jvm.MethodName)) ∈ gT := gT_in3 126 rfl rfl
theorem w_607 : (Jvm.Cond.selects "VeilSearch" ({ cls := "VeilSearch", name := "hit", desc := "(I)I" } : Jvm.MethodName) ({ cls := "VeilSearch", name := "hit", desc := "(I)I" } : Jvm.MethodName)) ∈ gT := gT_in3 127 rfl rfl
theorem w_608 : (Jvm.Cond.code ({ cls := "VeilSearch", name := "hit", desc := "(I)I" } : Jvm.MethodName) prog_1_method_15_code (2 : Nat) (Option.some Jvm.ClassFile.FieldType.int)) ∈ gT := gT_in3 128 rfl rfl
theorem w_609 : (Jvm.Cond.classLink "VeilSearch" (204 : Nat) "java/lang/IndexOutOfBoundsException") ∈ gT := gT_in3 129 rfl rfl
theorem w_610 : (Jvm.Cond.instantiable "java/lang/IndexOutOfBoundsException" (6 : Nat)) ∈ gT := gT_in3 130 rfl rfl
theorem w_611 : (Jvm.Cond.castable "java/lang/IndexOutOfBoundsException" "java/lang/IndexOutOfBoundsException") ∈ gN := gN_in3 131 rfl rfl
theorem w_612 : (Jvm.Cond.selects "java/lang/IndexOutOfBoundsException" ({ cls := "java/lang/Throwable", name := "fillInStackTrace", desc := "(I)Ljava/lang/Throwable;" } : Jvm.MethodName) ({ cls := "java/lang/Throwable", name := "fillInStackTrace", desc := "(I)Ljava/lang/Throwable;" } : Jvm.MethodName)) ∈ gT := gT_in3 132 rfl rfl
theorem w_613 : (Jvm.Cond.lays "java/lang/IndexOutOfBoundsException" "java/lang/Throwable" "cause" "Ljava/lang/Throwable;") ∈ gT := gT_in3 133 rfl rfl
theorem w_614 : (Jvm.Cond.lays "java/lang/IndexOutOfBoundsException" "java/lang/Throwable" "stackTrace" "[Ljava/lang/StackTraceElement;") ∈ gT := gT_in3 134 rfl rfl
theorem w_615 : (Jvm.Cond.lays "java/lang/IndexOutOfBoundsException" "java/lang/Throwable" "suppressedExceptions" "Ljava/util/List;") ∈ gT := gT_in3 135 rfl rfl
theorem w_616 : (Jvm.Cond.lays "java/lang/IndexOutOfBoundsException" "java/lang/Throwable" "detailMessage" "Ljava/lang/String;") ∈ gT := gT_in3 136 rfl rfl
theorem w_617 : (Jvm.Cond.lays "java/lang/IndexOutOfBoundsException" "java/lang/Throwable" "backtrace" "Ljava/lang/Object;") ∈ gT := gT_in3 137 rfl rfl
theorem w_618 : (Jvm.Cond.methodLink "VeilSearch" (206 : Nat) ({ cls := "java/lang/IndexOutOfBoundsException", name := "<init>", desc := "()V" } : Jvm.MethodName)) ∈ gT := gT_in3 138 rfl rfl
theorem w_619 : (Jvm.Cond.instanceMethod ({ cls := "java/lang/IndexOutOfBoundsException", name := "<init>", desc := "()V" } : Jvm.MethodName)) ∈ gT := gT_in3 139 rfl rfl
theorem w_620 : (Jvm.Cond.code ({ cls := "java/lang/IndexOutOfBoundsException", name := "<init>", desc := "()V" } : Jvm.MethodName) prog_14_method_1_code (1 : Nat) (Option.none : Option Jvm.ClassFile.FieldType)) ∈ gT := gT_in3 140 rfl rfl
theorem w_621 : (Jvm.Cond.methodLink "java/lang/IndexOutOfBoundsException" (1 : Nat) ({ cls := "java/lang/RuntimeException", name := "<init>", desc := "()V" } : Jvm.MethodName)) ∈ gT := gT_in3 141 rfl rfl
theorem w_622 : (Jvm.Cond.lays "java/lang/IndexOutOfBoundsException" "java/lang/Throwable" "depth" "I") ∈ gT := gT_in3 142 rfl rfl
theorem w_623 : (Jvm.Cond.superclass "java/lang/IndexOutOfBoundsException" "java/lang/RuntimeException") ∈ gT := gT_in3 143 rfl rfl
theorem w_624 : (Jvm.Cond.methodLink "VeilSearchLaw" (136 : Nat) ({ cls := "VeilSearchLaw", name := "score", desc := "(LVeilSearch;I[D)I" } : Jvm.MethodName)) ∈ gT := gT_in3 144 rfl rfl
theorem w_625 : (Jvm.Cond.static ({ cls := "VeilSearchLaw", name := "score", desc := "(LVeilSearch;I[D)I" } : Jvm.MethodName)) ∈ gT := gT_in3 145 rfl rfl
theorem w_626 : (Jvm.Cond.codeWith ({ cls := "VeilSearchLaw", name := "score", desc := "(LVeilSearch;I[D)I" } : Jvm.MethodName) method_14_code (4 : Nat) (Option.some Jvm.ClassFile.FieldType.int) [((0 : Nat), (8 : Nat), (11 : Nat), (57 : Nat))]) ∈ gT := gT_in3 146 rfl rfl
theorem w_627 : (Jvm.Cond.methodLink "VeilSearchLaw" (59 : Nat) ({ cls := "VeilSearch", name := "score", desc := "(I)D" } : Jvm.MethodName)) ∈ gT := gT_in3 147 rfl rfl
theorem w_628 : (Jvm.Cond.instanceMethod ({ cls := "VeilSearch", name := "score", desc := "(I)D" } : Jvm.MethodName)) ∈ gT := gT_in3 148 rfl rfl
theorem w_629 : (Jvm.Cond.selects "VeilSearch" ({ cls := "VeilSearch", name := "score", desc := "(I)D" } : Jvm.MethodName) ({ cls := "VeilSearch", name := "score", desc := "(I)D" } : Jvm.MethodName)) ∈ gT := gT_in3 149 rfl rfl
theorem w_630 : (Jvm.Cond.code ({ cls := "VeilSearch", name := "score", desc := "(I)D" } : Jvm.MethodName) prog_1_method_16_code (2 : Nat) (Option.some Jvm.ClassFile.FieldType.double)) ∈ gT := gT_in3 150 rfl rfl
theorem w_631 : (Jvm.Cond.methodLink "VeilSearchLaw" (140 : Nat) ({ cls := "VeilSearchLaw", name := "value", desc := "(LVeilSearch;III[J)I" } : Jvm.MethodName)) ∈ gT := gT_in3 151 rfl rfl
theorem w_632 : (Jvm.Cond.static ({ cls := "VeilSearchLaw", name := "value", desc := "(LVeilSearch;III[J)I" } : Jvm.MethodName)) ∈ gT := gT_in3 152 rfl rfl
theorem w_633 : (Jvm.Cond.codeWith ({ cls := "VeilSearchLaw", name := "value", desc := "(LVeilSearch;III[J)I" } : Jvm.MethodName) method_15_code (6 : Nat) (Option.some Jvm.ClassFile.FieldType.int) [((0 : Nat), (12 : Nat), (15 : Nat), (13 : Nat)), ((0 : Nat), (12 : Nat), (19 : Nat), (41 : Nat)), ((0 : Nat), (12 : Nat), (23 : Nat), (66 : Nat))]) ∈ gT := gT_in3 153 rfl rfl
theorem w_634 : (Jvm.Cond.classLink "VeilSearchLaw" (66 : Nat) "java/lang/UnsupportedOperationException") ∈ gT := gT_in3 154 rfl rfl
theorem w_635 : (Jvm.Cond.methodLink "VeilSearchLaw" (63 : Nat) ({ cls := "VeilSearch", name := "value", desc := "(III)I" } : Jvm.MethodName)) ∈ gT := gT_in3 155 rfl rfl
theorem w_636 : (Jvm.Cond.instanceMethod ({ cls := "VeilSearch", name := "value", desc := "(III)I" } : Jvm.MethodName)) ∈ gT := gT_in3 156 rfl rfl
theorem w_637 : (Jvm.Cond.selects "VeilSearch" ({ cls := "VeilSearch", name := "value", desc := "(III)I" } : Jvm.MethodName) ({ cls := "VeilSearch", name := "value", desc := "(III)I" } : Jvm.MethodName)) ∈ gT := gT_in3 157 rfl rfl
theorem w_638 : (Jvm.Cond.code ({ cls := "VeilSearch", name := "value", desc := "(III)I" } : Jvm.MethodName) prog_1_method_17_code (4 : Nat) (Option.some Jvm.ClassFile.FieldType.int)) ∈ gT := gT_in3 158 rfl rfl
theorem w_639 : (Jvm.Cond.methodLink "VeilSearch" (216 : Nat) ({ cls := "VeilSearch$Documents", name := "mayRead", desc := "(II)Z" } : Jvm.MethodName)) ∈ gT := gT_in3 159 rfl rfl
theorem w_640 : (Jvm.Cond.methodLink "VeilSearch" (219 : Nat) ({ cls := "VeilSearch$Rights", name := "isOpen", desc := "(II)Z" } : Jvm.MethodName)) ∈ gT := gT_in3 160 rfl rfl
theorem w_641 : (Jvm.Cond.classLink "VeilSearch" (222 : Nat) "java/lang/UnsupportedOperationException") ∈ gT := gT_in3 161 rfl rfl
theorem w_642 : (Jvm.Cond.instantiable "java/lang/UnsupportedOperationException" (6 : Nat)) ∈ gT := gT_in3 162 rfl rfl
theorem w_643 : (Jvm.Cond.castable "java/lang/UnsupportedOperationException" "java/lang/UnsupportedOperationException") ∈ gN := gN_in3 163 rfl rfl
theorem w_644 : (Jvm.Cond.selects "java/lang/UnsupportedOperationException" ({ cls := "java/lang/Throwable", name := "fillInStackTrace", desc := "(I)Ljava/lang/Throwable;" } : Jvm.MethodName) ({ cls := "java/lang/Throwable", name := "fillInStackTrace", desc := "(I)Ljava/lang/Throwable;" } : Jvm.MethodName)) ∈ gT := gT_in3 164 rfl rfl
theorem w_645 : (Jvm.Cond.lays "java/lang/UnsupportedOperationException" "java/lang/Throwable" "cause" "Ljava/lang/Throwable;") ∈ gT := gT_in3 165 rfl rfl
theorem w_646 : (Jvm.Cond.lays "java/lang/UnsupportedOperationException" "java/lang/Throwable" "stackTrace" "[Ljava/lang/StackTraceElement;") ∈ gT := gT_in3 166 rfl rfl
theorem w_647 : (Jvm.Cond.lays "java/lang/UnsupportedOperationException" "java/lang/Throwable" "suppressedExceptions" "Ljava/util/List;") ∈ gT := gT_in3 167 rfl rfl
theorem w_648 : (Jvm.Cond.lays "java/lang/UnsupportedOperationException" "java/lang/Throwable" "detailMessage" "Ljava/lang/String;") ∈ gT := gT_in3 168 rfl rfl
theorem w_649 : (Jvm.Cond.lays "java/lang/UnsupportedOperationException" "java/lang/Throwable" "backtrace" "Ljava/lang/Object;") ∈ gT := gT_in3 169 rfl rfl
theorem w_650 : (Jvm.Cond.methodLink "VeilSearch" (224 : Nat) ({ cls := "java/lang/UnsupportedOperationException", name := "<init>", desc := "()V" } : Jvm.MethodName)) ∈ gT := gT_in3 170 rfl rfl
theorem w_651 : (Jvm.Cond.instanceMethod ({ cls := "java/lang/UnsupportedOperationException", name := "<init>", desc := "()V" } : Jvm.MethodName)) ∈ gT := gT_in3 171 rfl rfl
theorem w_652 : (Jvm.Cond.code ({ cls := "java/lang/UnsupportedOperationException", name := "<init>", desc := "()V" } : Jvm.MethodName) prog_20_method_1_code (1 : Nat) (Option.none : Option Jvm.ClassFile.FieldType)) ∈ gT := gT_in3 172 rfl rfl
theorem w_653 : (Jvm.Cond.methodLink "java/lang/UnsupportedOperationException" (1 : Nat) ({ cls := "java/lang/RuntimeException", name := "<init>", desc := "()V" } : Jvm.MethodName)) ∈ gT := gT_in3 173 rfl rfl
theorem w_654 : (Jvm.Cond.lays "java/lang/UnsupportedOperationException" "java/lang/Throwable" "depth" "I") ∈ gT := gT_in3 174 rfl rfl
theorem w_655 : (Jvm.Cond.superclass "java/lang/UnsupportedOperationException" "java/lang/RuntimeException") ∈ gT := gT_in3 175 rfl rfl
theorem w_656 : (Jvm.Cond.methodLink "VeilSearchLaw" (143 : Nat) ({ cls := "VeilSearchLaw", name := "count", desc := "(LVeilSearch;I[J)I" } : Jvm.MethodName)) ∈ gT := gT_in3 176 rfl rfl
theorem w_657 : (Jvm.Cond.static ({ cls := "VeilSearchLaw", name := "count", desc := "(LVeilSearch;I[J)I" } : Jvm.MethodName)) ∈ gT := gT_in3 177 rfl rfl
theorem w_658 : (Jvm.Cond.codeWith ({ cls := "VeilSearchLaw", name := "count", desc := "(LVeilSearch;I[J)I" } : Jvm.MethodName) method_16_code (4 : Nat) (Option.some Jvm.ClassFile.FieldType.int) [((0 : Nat), (9 : Nat), (12 : Nat), (13 : Nat))]) ∈ gT := gT_in3 178 rfl rfl
theorem w_659 : (Jvm.Cond.methodLink "VeilSearchLaw" (68 : Nat) ({ cls := "VeilSearch", name := "count", desc := "(I)I" } : Jvm.MethodName)) ∈ gT := gT_in3 179 rfl rfl
theorem w_660 : (Jvm.Cond.instanceMethod ({ cls := "VeilSearch", name := "count", desc := "(I)I" } : Jvm.MethodName)) ∈ gT := gT_in3 180 rfl rfl
theorem w_661 : (Jvm.Cond.selects "VeilSearch" ({ cls := "VeilSearch", name := "count", desc := "(I)I" } : Jvm.MethodName) ({ cls := "VeilSearch", name := "count", desc := "(I)I" } : Jvm.MethodName)) ∈ gT := gT_in3 181 rfl rfl
theorem w_662 : (Jvm.Cond.code ({ cls := "VeilSearch", name := "count", desc := "(I)I" } : Jvm.MethodName) prog_1_method_18_code (2 : Nat) (Option.some Jvm.ClassFile.FieldType.int)) ∈ gT := gT_in3 182 rfl rfl
theorem w_663 : (Jvm.Cond.classLink "VeilSearchLaw" (72 : Nat) "VeilSearchModel") ∈ gT := gT_in3 183 rfl rfl
theorem w_664 : (Jvm.Cond.instantiable "VeilSearchModel" (40 : Nat)) ∈ gT := gT_in3 184 rfl rfl
theorem w_665 : (Jvm.Cond.methodLink "VeilSearchLaw" (74 : Nat) ({ cls := "VeilSearchModel", name := "<init>", desc := "()V" } : Jvm.MethodName)) ∈ gT := gT_in3 185 rfl rfl
theorem w_666 : (Jvm.Cond.instanceMethod ({ cls := "VeilSearchModel", name := "<init>", desc := "()V" } : Jvm.MethodName)) ∈ gT := gT_in3 186 rfl rfl
theorem w_667 : (Jvm.Cond.code ({ cls := "VeilSearchModel", name := "<init>", desc := "()V" } : Jvm.MethodName) prog_10_method_1_code (1 : Nat) (Option.none : Option Jvm.ClassFile.FieldType)) ∈ gT := gT_in3 187 rfl rfl
theorem w_668 : (Jvm.Cond.methodLink "VeilSearchModel" (1 : Nat) ({ cls := "java/lang/Object", name := "<init>", desc := "()V" } : Jvm.MethodName)) ∈ gT := gT_in3 188 rfl rfl
theorem w_669 : (Jvm.Cond.fieldLink "VeilSearchModel" (7 : Nat) "VeilSearchModel" "members" "[I") ∈ gT := gT_in3 189 rfl rfl
theorem w_670 : (Jvm.Cond.fieldLink "VeilSearchModel" (13 : Nat) "VeilSearchModel" "levels" "[I") ∈ gT := gT_in3 190 rfl rfl
theorem w_671 : (Jvm.Cond.fieldLink "VeilSearchModel" (16 : Nat) "VeilSearchModel" "clearances" "[I") ∈ gT := gT_in3 191 rfl rfl
theorem w_672 : (Jvm.Cond.fieldLink "VeilSearchModel" (19 : Nat) "VeilSearchModel" "oldMembers" "[I") ∈ gT := gT_in3 192 rfl rfl
theorem w_673 : (Jvm.Cond.fieldLink "VeilSearchModel" (22 : Nat) "VeilSearchModel" "oldLevels" "[I") ∈ gT := gT_in3 193 rfl rfl
theorem w_674 : (Jvm.Cond.fieldLink "VeilSearchModel" (25 : Nat) "VeilSearchModel" "oldClearances" "[I") ∈ gT := gT_in3 194 rfl rfl
theorem w_675 : (Jvm.Cond.fieldLink "VeilSearchModel" (28 : Nat) "VeilSearchModel" "value" "[I") ∈ gT := gT_in3 195 rfl rfl
theorem w_676 : (Jvm.Cond.fieldLink "VeilSearchModel" (31 : Nat) "VeilSearchModel" "code" "[I") ∈ gT := gT_in3 196 rfl rfl
theorem w_677 : (Jvm.Cond.fieldLink "VeilSearchModel" (34 : Nat) "VeilSearchModel" "allows" "[I") ∈ gT := gT_in3 197 rfl rfl
theorem w_678 : (Jvm.Cond.fieldLink "VeilSearchModel" (37 : Nat) "VeilSearchModel" "denies" "[I") ∈ gT := gT_in3 198 rfl rfl
theorem w_679 : (Jvm.Cond.fieldLink "VeilSearchModel" (40 : Nat) "VeilSearchModel" "parent" "[I") ∈ gT := gT_in3 199 rfl rfl
theorem w_680 : (Jvm.Cond.fieldLink "VeilSearchModel" (43 : Nat) "VeilSearchModel" "segment" "[I") ∈ gT := gT_in3 200 rfl rfl
theorem w_681 : (Jvm.Cond.fieldLink "VeilSearchModel" (46 : Nat) "VeilSearchModel" "seen" "[I") ∈ gT := gT_in3 201 rfl rfl
theorem w_682 : (Jvm.Cond.fieldLink "VeilSearchModel" (49 : Nat) "VeilSearchModel" "removed" "[Z") ∈ gT := gT_in3 202 rfl rfl
theorem w_683 : (Jvm.Cond.fieldLink "VeilSearchModel" (53 : Nat) "VeilSearchModel" "seenRemoved" "[Z") ∈ gT := gT_in3 203 rfl rfl
theorem w_684 : (Jvm.Cond.fieldLink "VeilSearchModel" (56 : Nat) "VeilSearchModel" "segments" "[I") ∈ gT := gT_in3 204 rfl rfl
theorem w_685 : (Jvm.Cond.fieldLink "VeilSearchModel" (59 : Nat) "VeilSearchModel" "shown" "[I") ∈ gT := gT_in3 205 rfl rfl
theorem w_686 : (Jvm.Cond.fieldLink "VeilSearchModel" (62 : Nat) "VeilSearchModel" "sort" "[I") ∈ gT := gT_in3 206 rfl rfl
theorem w_687 : (Jvm.Cond.fieldLink "VeilSearchModel" (65 : Nat) "VeilSearchModel" "term" "[I") ∈ gT := gT_in3 207 rfl rfl
theorem w_688 : (Jvm.Cond.fieldLink "VeilSearchModel" (68 : Nat) "VeilSearchModel" "field" "[I") ∈ gT := gT_in3 208 rfl rfl
theorem w_689 : (Jvm.Cond.fieldLink "VeilSearchModel" (71 : Nat) "VeilSearchModel" "order" "[I") ∈ gT := gT_in3 209 rfl rfl
theorem w_690 : (Jvm.Cond.fieldLink "VeilSearchModel" (74 : Nat) "VeilSearchModel" "hits" "[I") ∈ gT := gT_in3 210 rfl rfl
theorem w_691 : (Jvm.Cond.fieldLink "VeilSearchModel" (77 : Nat) "VeilSearchModel" "weight" "[D") ∈ gT := gT_in3 211 rfl rfl
theorem w_692 : (Jvm.Cond.fieldLink "VeilSearchModel" (81 : Nat) "VeilSearchModel" "scores" "[F") ∈ gT := gT_in3 212 rfl rfl
theorem w_693 : (Jvm.Cond.fieldLink "VeilSearchModel" (85 : Nat) "VeilSearchModel" "filterOf" "[I") ∈ gT := gT_in3 213 rfl rfl
theorem w_694 : (Jvm.Cond.fieldLink "VeilSearchModel" (88 : Nat) "VeilSearchModel" "filterFor" "[I") ∈ gT := gT_in3 214 rfl rfl
theorem w_695 : (Jvm.Cond.fieldLink "VeilSearchModel" (91 : Nat) "VeilSearchModel" "filterAt" "[I") ∈ gT := gT_in3 215 rfl rfl
theorem w_696 : (Jvm.Cond.fieldLink "VeilSearchModel" (116 : Nat) "VeilSearchModel" "ids" "I") ∈ gT := gT_in3 216 rfl rfl
theorem w_697 : (Jvm.Cond.fieldLink "VeilSearchModel" (119 : Nat) "VeilSearchModel" "segmentMany" "I") ∈ gT := gT_in3 217 rfl rfl
theorem w_698 : (Jvm.Cond.fieldLink "VeilSearchModel" (128 : Nat) "VeilSearchModel" "shownMany" "I") ∈ gT := gT_in3 218 rfl rfl
theorem w_699 : (Jvm.Cond.fieldLink "VeilSearchModel" (125 : Nat) "VeilSearchModel" "serial" "I") ∈ gT := gT_in3 219 rfl rfl
theorem w_700 : (Jvm.Cond.fieldLink "VeilSearchModel" (146 : Nat) "VeilSearchModel" "clauses" "I") ∈ gT := gT_in3 220 rfl rfl
theorem w_701 : (Jvm.Cond.fieldLink "VeilSearchModel" (157 : Nat) "VeilSearchModel" "found" "I") ∈ gT := gT_in3 221 rfl rfl
theorem w_702 : (Jvm.Cond.fieldLink "VeilSearchModel" (169 : Nat) "VeilSearchModel" "looked" "I") ∈ gT := gT_in3 222 rfl rfl
theorem w_703 : (Jvm.Cond.fieldLink "VeilSearchModel" (178 : Nat) "VeilSearchModel" "matched" "I") ∈ gT := gT_in3 223 rfl rfl
theorem w_704 : (Jvm.Cond.fieldLink "VeilSearchModel" (131 : Nat) "VeilSearchModel" "filters" "I") ∈ gT := gT_in3 224 rfl rfl
theorem w_705 : (Jvm.Cond.fieldLink "VeilSearchModel" (166 : Nat) "VeilSearchModel" "made" "I") ∈ gT := gT_in3 225 rfl rfl
theorem w_706 : (Jvm.Cond.fieldLink "VeilSearchModel" (163 : Nat) "VeilSearchModel" "reused" "I") ∈ gT := gT_in3 226 rfl rfl
theorem w_707 : (Jvm.Cond.fieldLink "VeilSearchModel" (160 : Nat) "VeilSearchModel" "clock" "I") ∈ gT := gT_in3 227 rfl rfl
theorem w_708 : (Jvm.Cond.fieldLink "VeilSearchModel" (94 : Nat) "VeilSearchModel" "thrown" "I") ∈ gT := gT_in3 228 rfl rfl
theorem w_709 : (Jvm.Cond.laysFinal "VeilSearchModel" "VeilSearchModel" "members" "[I") ∈ gT := gT_in3 229 rfl rfl
theorem w_711 : (Jvm.Cond.laysFinal "VeilSearchModel" "VeilSearchModel" "levels" "[I") ∈ gT := gT_in3 231 rfl rfl
theorem w_713 : (Jvm.Cond.laysFinal "VeilSearchModel" "VeilSearchModel" "clearances" "[I") ∈ gT := gT_in3 233 rfl rfl
theorem w_715 : (Jvm.Cond.laysFinal "VeilSearchModel" "VeilSearchModel" "oldMembers" "[I") ∈ gT := gT_in3 235 rfl rfl
theorem w_717 : (Jvm.Cond.laysFinal "VeilSearchModel" "VeilSearchModel" "oldLevels" "[I") ∈ gT := gT_in3 237 rfl rfl
theorem w_719 : (Jvm.Cond.laysFinal "VeilSearchModel" "VeilSearchModel" "oldClearances" "[I") ∈ gT := gT_in3 239 rfl rfl
theorem w_721 : (Jvm.Cond.laysFinal "VeilSearchModel" "VeilSearchModel" "value" "[I") ∈ gT := gT_in4 1 rfl rfl
theorem w_723 : (Jvm.Cond.laysFinal "VeilSearchModel" "VeilSearchModel" "code" "[I") ∈ gT := gT_in4 3 rfl rfl
theorem w_725 : (Jvm.Cond.laysFinal "VeilSearchModel" "VeilSearchModel" "allows" "[I") ∈ gT := gT_in4 5 rfl rfl
theorem w_727 : (Jvm.Cond.laysFinal "VeilSearchModel" "VeilSearchModel" "denies" "[I") ∈ gT := gT_in4 7 rfl rfl
theorem w_729 : (Jvm.Cond.laysFinal "VeilSearchModel" "VeilSearchModel" "parent" "[I") ∈ gT := gT_in4 9 rfl rfl
theorem w_731 : (Jvm.Cond.laysFinal "VeilSearchModel" "VeilSearchModel" "segment" "[I") ∈ gT := gT_in4 11 rfl rfl
theorem w_733 : (Jvm.Cond.laysFinal "VeilSearchModel" "VeilSearchModel" "seen" "[I") ∈ gT := gT_in4 13 rfl rfl
theorem w_735 : (Jvm.Cond.laysFinal "VeilSearchModel" "VeilSearchModel" "removed" "[Z") ∈ gT := gT_in4 15 rfl rfl
theorem w_737 : (Jvm.Cond.laysFinal "VeilSearchModel" "VeilSearchModel" "seenRemoved" "[Z") ∈ gT := gT_in4 17 rfl rfl
theorem w_739 : (Jvm.Cond.laysFinal "VeilSearchModel" "VeilSearchModel" "segments" "[I") ∈ gT := gT_in4 19 rfl rfl
theorem w_741 : (Jvm.Cond.laysFinal "VeilSearchModel" "VeilSearchModel" "shown" "[I") ∈ gT := gT_in4 21 rfl rfl
theorem w_743 : (Jvm.Cond.laysFinal "VeilSearchModel" "VeilSearchModel" "sort" "[I") ∈ gT := gT_in4 23 rfl rfl
theorem w_745 : (Jvm.Cond.laysFinal "VeilSearchModel" "VeilSearchModel" "term" "[I") ∈ gT := gT_in4 25 rfl rfl
theorem w_747 : (Jvm.Cond.laysFinal "VeilSearchModel" "VeilSearchModel" "field" "[I") ∈ gT := gT_in4 27 rfl rfl
theorem w_749 : (Jvm.Cond.laysFinal "VeilSearchModel" "VeilSearchModel" "order" "[I") ∈ gT := gT_in4 29 rfl rfl
theorem w_751 : (Jvm.Cond.laysFinal "VeilSearchModel" "VeilSearchModel" "hits" "[I") ∈ gT := gT_in4 31 rfl rfl
theorem w_753 : (Jvm.Cond.laysFinal "VeilSearchModel" "VeilSearchModel" "weight" "[D") ∈ gT := gT_in4 33 rfl rfl
theorem w_755 : (Jvm.Cond.laysFinal "VeilSearchModel" "VeilSearchModel" "scores" "[F") ∈ gT := gT_in4 35 rfl rfl
theorem w_757 : (Jvm.Cond.laysFinal "VeilSearchModel" "VeilSearchModel" "filterOf" "[I") ∈ gT := gT_in4 37 rfl rfl
theorem w_759 : (Jvm.Cond.laysFinal "VeilSearchModel" "VeilSearchModel" "filterFor" "[I") ∈ gT := gT_in4 39 rfl rfl
theorem w_761 : (Jvm.Cond.laysFinal "VeilSearchModel" "VeilSearchModel" "filterAt" "[I") ∈ gT := gT_in4 41 rfl rfl
theorem w_763 : (Jvm.Cond.lays "VeilSearchModel" "VeilSearchModel" "ids" "I") ∈ gT := gT_in4 43 rfl rfl
theorem w_765 : (Jvm.Cond.lays "VeilSearchModel" "VeilSearchModel" "segmentMany" "I") ∈ gT := gT_in4 45 rfl rfl
theorem w_767 : (Jvm.Cond.lays "VeilSearchModel" "VeilSearchModel" "shownMany" "I") ∈ gT := gT_in4 47 rfl rfl
theorem w_769 : (Jvm.Cond.lays "VeilSearchModel" "VeilSearchModel" "serial" "I") ∈ gT := gT_in4 49 rfl rfl
theorem w_771 : (Jvm.Cond.lays "VeilSearchModel" "VeilSearchModel" "clauses" "I") ∈ gT := gT_in4 51 rfl rfl
theorem w_773 : (Jvm.Cond.lays "VeilSearchModel" "VeilSearchModel" "found" "I") ∈ gT := gT_in4 53 rfl rfl
theorem w_775 : (Jvm.Cond.lays "VeilSearchModel" "VeilSearchModel" "looked" "I") ∈ gT := gT_in4 55 rfl rfl
theorem w_777 : (Jvm.Cond.lays "VeilSearchModel" "VeilSearchModel" "matched" "I") ∈ gT := gT_in4 57 rfl rfl
theorem w_779 : (Jvm.Cond.lays "VeilSearchModel" "VeilSearchModel" "filters" "I") ∈ gT := gT_in4 59 rfl rfl
theorem w_781 : (Jvm.Cond.lays "VeilSearchModel" "VeilSearchModel" "made" "I") ∈ gT := gT_in4 61 rfl rfl
theorem w_783 : (Jvm.Cond.lays "VeilSearchModel" "VeilSearchModel" "reused" "I") ∈ gT := gT_in4 63 rfl rfl
theorem w_785 : (Jvm.Cond.lays "VeilSearchModel" "VeilSearchModel" "clock" "I") ∈ gT := gT_in4 65 rfl rfl
theorem w_787 : (Jvm.Cond.lays "VeilSearchModel" "VeilSearchModel" "thrown" "I") ∈ gT := gT_in4 67 rfl rfl
theorem w_789 : (Jvm.Cond.superclass "VeilSearchModel" "java/lang/Object") ∈ gT := gT_in4 69 rfl rfl
theorem w_790 : (Jvm.Cond.arrayClass Jvm.ClassFile.FieldType.double) ∈ gT := gT_in4 70 rfl rfl
theorem w_791 : (Jvm.Cond.methodLink "VeilSearchLaw" (81 : Nat) ({ cls := "VeilSearchModel", name := "thrown", desc := "()I" } : Jvm.MethodName)) ∈ gT := gT_in4 71 rfl rfl
theorem w_792 : (Jvm.Cond.instanceMethod ({ cls := "VeilSearchModel", name := "thrown", desc := "()I" } : Jvm.MethodName)) ∈ gT := gT_in4 72 rfl rfl
theorem w_793 : (Jvm.Cond.selects "VeilSearchModel" ({ cls := "VeilSearchModel", name := "thrown", desc := "()I" } : Jvm.MethodName) ({ cls := "VeilSearchModel", name := "thrown", desc := "()I" } : Jvm.MethodName)) ∈ gT := gT_in4 73 rfl rfl
theorem w_794 : (Jvm.Cond.code ({ cls := "VeilSearchModel", name := "thrown", desc := "()I" } : Jvm.MethodName) prog_10_method_2_code (1 : Nat) (Option.some Jvm.ClassFile.FieldType.int)) ∈ gT := gT_in4 74 rfl rfl
theorem w_795 : (Jvm.Cond.methodLink "VeilSearchLaw" (80 : Nat) ({ cls := "VeilSearchModel", name := "member", desc := "(IIZ)Z" } : Jvm.MethodName)) ∈ gT := gT_in4 75 rfl rfl
theorem w_796 : (Jvm.Cond.instanceMethod ({ cls := "VeilSearchModel", name := "member", desc := "(IIZ)Z" } : Jvm.MethodName)) ∈ gT := gT_in4 76 rfl rfl
theorem w_797 : (Jvm.Cond.selects "VeilSearchModel" ({ cls := "VeilSearchModel", name := "member", desc := "(IIZ)Z" } : Jvm.MethodName) ({ cls := "VeilSearchModel", name := "member", desc := "(IIZ)Z" } : Jvm.MethodName)) ∈ gT := gT_in4 77 rfl rfl
theorem w_798 : (Jvm.Cond.code ({ cls := "VeilSearchModel", name := "member", desc := "(IIZ)Z" } : Jvm.MethodName) prog_10_method_5_code (6 : Nat) (Option.some Jvm.ClassFile.FieldType.boolean)) ∈ gT := gT_in4 78 rfl rfl
theorem w_799 : (Jvm.Cond.methodLink "VeilSearchModel" (98 : Nat) ({ cls := "VeilSearchModel", name := "in", desc := "(III)Z" } : Jvm.MethodName)) ∈ gT := gT_in4 79 rfl rfl
theorem w_800 : (Jvm.Cond.static ({ cls := "VeilSearchModel", name := "in", desc := "(III)Z" } : Jvm.MethodName)) ∈ gT := gT_in4 80 rfl rfl
theorem w_801 : (Jvm.Cond.code ({ cls := "VeilSearchModel", name := "in", desc := "(III)Z" } : Jvm.MethodName) prog_10_method_3_code (3 : Nat) (Option.some Jvm.ClassFile.FieldType.boolean)) ∈ gT := gT_in4 81 rfl rfl
theorem w_802 : (Jvm.Cond.methodLink "VeilSearchLaw" (87 : Nat) ({ cls := "VeilSearchModel", name := "level", desc := "(III)I" } : Jvm.MethodName)) ∈ gT := gT_in4 82 rfl rfl
theorem w_803 : (Jvm.Cond.instanceMethod ({ cls := "VeilSearchModel", name := "level", desc := "(III)I" } : Jvm.MethodName)) ∈ gT := gT_in4 83 rfl rfl
theorem w_804 : (Jvm.Cond.selects "VeilSearchModel" ({ cls := "VeilSearchModel", name := "level", desc := "(III)I" } : Jvm.MethodName) ({ cls := "VeilSearchModel", name := "level", desc := "(III)I" } : Jvm.MethodName)) ∈ gT := gT_in4 84 rfl rfl
theorem w_805 : (Jvm.Cond.code ({ cls := "VeilSearchModel", name := "level", desc := "(III)I" } : Jvm.MethodName) prog_10_method_6_code (5 : Nat) (Option.some Jvm.ClassFile.FieldType.int)) ∈ gT := gT_in4 85 rfl rfl
theorem w_806 : (Jvm.Cond.methodLink "VeilSearchModel" (102 : Nat) ({ cls := "VeilSearchModel", name := "fail", desc := "(I)I" } : Jvm.MethodName)) ∈ gT := gT_in4 86 rfl rfl
theorem w_808 : (Jvm.Cond.instanceMethod ({ cls := "VeilSearchModel", name := "fail", desc := "(I)I" } : Jvm.MethodName)) ∈ gT := gT_in4 88 rfl rfl
theorem w_809 : (Jvm.Cond.code ({ cls := "VeilSearchModel", name := "fail", desc := "(I)I" } : Jvm.MethodName) prog_10_method_4_code (2 : Nat) (Option.some Jvm.ClassFile.FieldType.int)) ∈ gT := gT_in4 89 rfl rfl
theorem w_810 : (Jvm.Cond.methodLink "VeilSearchLaw" (93 : Nat) ({ cls := "VeilSearchModel", name := "weigh", desc := "(IID)I" } : Jvm.MethodName)) ∈ gT := gT_in4 90 rfl rfl
theorem w_811 : (Jvm.Cond.instanceMethod ({ cls := "VeilSearchModel", name := "weigh", desc := "(IID)I" } : Jvm.MethodName)) ∈ gT := gT_in4 91 rfl rfl
theorem w_812 : (Jvm.Cond.selects "VeilSearchModel" ({ cls := "VeilSearchModel", name := "weigh", desc := "(IID)I" } : Jvm.MethodName) ({ cls := "VeilSearchModel", name := "weigh", desc := "(IID)I" } : Jvm.MethodName)) ∈ gT := gT_in4 92 rfl rfl
theorem w_813 : (Jvm.Cond.code ({ cls := "VeilSearchModel", name := "weigh", desc := "(IID)I" } : Jvm.MethodName) prog_10_method_9_code (6 : Nat) (Option.some Jvm.ClassFile.FieldType.int)) ∈ gT := gT_in4 93 rfl rfl
theorem w_814 : (Jvm.Cond.methodLink "VeilSearchModel" (110 : Nat) ({ cls := "VeilSearchModel", name := "isWeight", desc := "(D)Z" } : Jvm.MethodName)) ∈ gT := gT_in4 94 rfl rfl
theorem w_815 : (Jvm.Cond.static ({ cls := "VeilSearchModel", name := "isWeight", desc := "(D)Z" } : Jvm.MethodName)) ∈ gT := gT_in4 95 rfl rfl
theorem w_816 : (Jvm.Cond.code ({ cls := "VeilSearchModel", name := "isWeight", desc := "(D)Z" } : Jvm.MethodName) prog_10_method_8_code (2 : Nat) (Option.some Jvm.ClassFile.FieldType.boolean)) ∈ gT := gT_in4 96 rfl rfl
theorem w_817 : (Jvm.Cond.constantDouble "VeilSearchModel" (106 : Nat) (4652007308841189376 : UInt64)) ∈ gT := gT_in4 97 rfl rfl
theorem w_818 : (Jvm.Cond.constantDouble "VeilSearchModel" (108 : Nat) (4158027847206421152 : UInt64)) ∈ gT := gT_in4 98 rfl rfl
theorem w_819 : (Jvm.Cond.constantFloat "VeilSearchModel" (114 : Nat) (1098907648 : UInt32)) ∈ gT := gT_in4 99 rfl rfl
theorem w_820 : (Jvm.Cond.constantFloat "VeilSearchModel" (115 : Nat) (1056964608 : UInt32)) ∈ gT := gT_in4 100 rfl rfl
theorem w_821 : (Jvm.Cond.methodLink "VeilSearchLaw" (97 : Nat) ({ cls := "VeilSearchModel", name := "put", desc := "(II)I" } : Jvm.MethodName)) ∈ gT := gT_in4 101 rfl rfl
theorem w_822 : (Jvm.Cond.instanceMethod ({ cls := "VeilSearchModel", name := "put", desc := "(II)I" } : Jvm.MethodName)) ∈ gT := gT_in4 102 rfl rfl
theorem w_823 : (Jvm.Cond.selects "VeilSearchModel" ({ cls := "VeilSearchModel", name := "put", desc := "(II)I" } : Jvm.MethodName) ({ cls := "VeilSearchModel", name := "put", desc := "(II)I" } : Jvm.MethodName)) ∈ gT := gT_in4 103 rfl rfl
theorem w_824 : (Jvm.Cond.code ({ cls := "VeilSearchModel", name := "put", desc := "(II)I" } : Jvm.MethodName) prog_10_method_10_code (4 : Nat) (Option.some Jvm.ClassFile.FieldType.int)) ∈ gT := gT_in4 104 rfl rfl
theorem w_825 : (Jvm.Cond.methodLink "VeilSearchLaw" (101 : Nat) ({ cls := "VeilSearchModel", name := "rule", desc := "(IZ)Z" } : Jvm.MethodName)) ∈ gT := gT_in4 105 rfl rfl
theorem w_826 : (Jvm.Cond.instanceMethod ({ cls := "VeilSearchModel", name := "rule", desc := "(IZ)Z" } : Jvm.MethodName)) ∈ gT := gT_in4 106 rfl rfl
theorem w_827 : (Jvm.Cond.selects "VeilSearchModel" ({ cls := "VeilSearchModel", name := "rule", desc := "(IZ)Z" } : Jvm.MethodName) ({ cls := "VeilSearchModel", name := "rule", desc := "(IZ)Z" } : Jvm.MethodName)) ∈ gT := gT_in4 107 rfl rfl
theorem w_828 : (Jvm.Cond.code ({ cls := "VeilSearchModel", name := "rule", desc := "(IZ)Z" } : Jvm.MethodName) prog_10_method_11_code (5 : Nat) (Option.some Jvm.ClassFile.FieldType.boolean)) ∈ gT := gT_in4 108 rfl rfl
theorem w_829 : (Jvm.Cond.methodLink "VeilSearchLaw" (105 : Nat) ({ cls := "VeilSearchModel", name := "add", desc := "(I)I" } : Jvm.MethodName)) ∈ gT := gT_in4 109 rfl rfl
theorem w_830 : (Jvm.Cond.instanceMethod ({ cls := "VeilSearchModel", name := "add", desc := "(I)I" } : Jvm.MethodName)) ∈ gT := gT_in4 110 rfl rfl
theorem w_831 : (Jvm.Cond.selects "VeilSearchModel" ({ cls := "VeilSearchModel", name := "add", desc := "(I)I" } : Jvm.MethodName) ({ cls := "VeilSearchModel", name := "add", desc := "(I)I" } : Jvm.MethodName)) ∈ gT := gT_in4 111 rfl rfl
theorem w_832 : (Jvm.Cond.code ({ cls := "VeilSearchModel", name := "add", desc := "(I)I" } : Jvm.MethodName) prog_10_method_12_code (4 : Nat) (Option.some Jvm.ClassFile.FieldType.int)) ∈ gT := gT_in4 112 rfl rfl
theorem w_833 : (Jvm.Cond.methodLink "VeilSearchLaw" (109 : Nat) ({ cls := "VeilSearchModel", name := "remove", desc := "(I)V" } : Jvm.MethodName)) ∈ gT := gT_in4 113 rfl rfl
theorem w_834 : (Jvm.Cond.instanceMethod ({ cls := "VeilSearchModel", name := "remove", desc := "(I)V" } : Jvm.MethodName)) ∈ gT := gT_in4 114 rfl rfl
theorem w_835 : (Jvm.Cond.selects "VeilSearchModel" ({ cls := "VeilSearchModel", name := "remove", desc := "(I)V" } : Jvm.MethodName) ({ cls := "VeilSearchModel", name := "remove", desc := "(I)V" } : Jvm.MethodName)) ∈ gT := gT_in4 115 rfl rfl
theorem w_836 : (Jvm.Cond.code ({ cls := "VeilSearchModel", name := "remove", desc := "(I)V" } : Jvm.MethodName) prog_10_method_13_code (2 : Nat) (Option.none : Option Jvm.ClassFile.FieldType)) ∈ gT := gT_in4 116 rfl rfl
theorem w_837 : (Jvm.Cond.methodLink "VeilSearchLaw" (113 : Nat) ({ cls := "VeilSearchModel", name := "flush", desc := "()I" } : Jvm.MethodName)) ∈ gT := gT_in4 117 rfl rfl
theorem w_838 : (Jvm.Cond.instanceMethod ({ cls := "VeilSearchModel", name := "flush", desc := "()I" } : Jvm.MethodName)) ∈ gT := gT_in4 118 rfl rfl
theorem w_839 : (Jvm.Cond.selects "VeilSearchModel" ({ cls := "VeilSearchModel", name := "flush", desc := "()I" } : Jvm.MethodName) ({ cls := "VeilSearchModel", name := "flush", desc := "()I" } : Jvm.MethodName)) ∈ gT := gT_in4 119 rfl rfl
theorem w_840 : (Jvm.Cond.code ({ cls := "VeilSearchModel", name := "flush", desc := "()I" } : Jvm.MethodName) prog_10_method_15_code (3 : Nat) (Option.some Jvm.ClassFile.FieldType.int)) ∈ gT := gT_in4 120 rfl rfl
theorem w_841 : (Jvm.Cond.methodLink "VeilSearchModel" (122 : Nat) ({ cls := "VeilSearchModel", name := "sizeOf", desc := "(I)I" } : Jvm.MethodName)) ∈ gT := gT_in4 121 rfl rfl
theorem w_843 : (Jvm.Cond.instanceMethod ({ cls := "VeilSearchModel", name := "sizeOf", desc := "(I)I" } : Jvm.MethodName)) ∈ gT := gT_in4 123 rfl rfl
theorem w_844 : (Jvm.Cond.code ({ cls := "VeilSearchModel", name := "sizeOf", desc := "(I)I" } : Jvm.MethodName) prog_10_method_14_code (4 : Nat) (Option.some Jvm.ClassFile.FieldType.int)) ∈ gT := gT_in4 124 rfl rfl
theorem w_845 : (Jvm.Cond.methodLink "VeilSearchLaw" (117 : Nat) ({ cls := "VeilSearchModel", name := "merge", desc := "()I" } : Jvm.MethodName)) ∈ gT := gT_in4 125 rfl rfl
theorem w_846 : (Jvm.Cond.instanceMethod ({ cls := "VeilSearchModel", name := "merge", desc := "()I" } : Jvm.MethodName)) ∈ gT := gT_in4 126 rfl rfl
theorem w_847 : (Jvm.Cond.selects "VeilSearchModel" ({ cls := "VeilSearchModel", name := "merge", desc := "()I" } : Jvm.MethodName) ({ cls := "VeilSearchModel", name := "merge", desc := "()I" } : Jvm.MethodName)) ∈ gT := gT_in4 127 rfl rfl
theorem w_848 : (Jvm.Cond.code ({ cls := "VeilSearchModel", name := "merge", desc := "()I" } : Jvm.MethodName) prog_10_method_16_code (4 : Nat) (Option.some Jvm.ClassFile.FieldType.int)) ∈ gT := gT_in4 128 rfl rfl
theorem w_849 : (Jvm.Cond.methodLink "VeilSearchLaw" (121 : Nat) ({ cls := "VeilSearchModel", name := "refresh", desc := "()I" } : Jvm.MethodName)) ∈ gT := gT_in4 129 rfl rfl
theorem w_850 : (Jvm.Cond.instanceMethod ({ cls := "VeilSearchModel", name := "refresh", desc := "()I" } : Jvm.MethodName)) ∈ gT := gT_in4 130 rfl rfl
theorem w_851 : (Jvm.Cond.selects "VeilSearchModel" ({ cls := "VeilSearchModel", name := "refresh", desc := "()I" } : Jvm.MethodName) ({ cls := "VeilSearchModel", name := "refresh", desc := "()I" } : Jvm.MethodName)) ∈ gT := gT_in4 131 rfl rfl
theorem w_852 : (Jvm.Cond.code ({ cls := "VeilSearchModel", name := "refresh", desc := "()I" } : Jvm.MethodName) prog_10_method_20_code (5 : Nat) (Option.some Jvm.ClassFile.FieldType.int)) ∈ gT := gT_in4 132 rfl rfl
theorem w_853 : (Jvm.Cond.methodLink "VeilSearchModel" (134 : Nat) ({ cls := "VeilSearchModel", name := "isOther", desc := "()Z" } : Jvm.MethodName)) ∈ gT := gT_in4 133 rfl rfl
theorem w_855 : (Jvm.Cond.instanceMethod ({ cls := "VeilSearchModel", name := "isOther", desc := "()Z" } : Jvm.MethodName)) ∈ gT := gT_in4 135 rfl rfl
theorem w_856 : (Jvm.Cond.code ({ cls := "VeilSearchModel", name := "isOther", desc := "()Z" } : Jvm.MethodName) prog_10_method_17_code (2 : Nat) (Option.some Jvm.ClassFile.FieldType.boolean)) ∈ gT := gT_in4 136 rfl rfl
theorem w_857 : (Jvm.Cond.methodLink "VeilSearchModel" (138 : Nat) ({ cls := "VeilSearchModel", name := "isShown", desc := "(I)Z" } : Jvm.MethodName)) ∈ gT := gT_in4 137 rfl rfl
theorem w_859 : (Jvm.Cond.instanceMethod ({ cls := "VeilSearchModel", name := "isShown", desc := "(I)Z" } : Jvm.MethodName)) ∈ gT := gT_in4 139 rfl rfl
theorem w_860 : (Jvm.Cond.code ({ cls := "VeilSearchModel", name := "isShown", desc := "(I)Z" } : Jvm.MethodName) prog_10_method_18_code (3 : Nat) (Option.some Jvm.ClassFile.FieldType.boolean)) ∈ gT := gT_in4 140 rfl rfl
theorem w_861 : (Jvm.Cond.methodLink "VeilSearchModel" (142 : Nat) ({ cls := "VeilSearchModel", name := "drop", desc := "(I)V" } : Jvm.MethodName)) ∈ gT := gT_in4 141 rfl rfl
theorem w_863 : (Jvm.Cond.instanceMethod ({ cls := "VeilSearchModel", name := "drop", desc := "(I)V" } : Jvm.MethodName)) ∈ gT := gT_in4 143 rfl rfl
theorem w_864 : (Jvm.Cond.code ({ cls := "VeilSearchModel", name := "drop", desc := "(I)V" } : Jvm.MethodName) prog_10_method_19_code (3 : Nat) (Option.none : Option Jvm.ClassFile.FieldType)) ∈ gT := gT_in4 144 rfl rfl
theorem w_865 : (Jvm.Cond.methodLink "VeilSearchLaw" (125 : Nat) ({ cls := "VeilSearchModel", name := "clause", desc := "(IIID)I" } : Jvm.MethodName)) ∈ gT := gT_in4 145 rfl rfl
theorem w_866 : (Jvm.Cond.instanceMethod ({ cls := "VeilSearchModel", name := "clause", desc := "(IIID)I" } : Jvm.MethodName)) ∈ gT := gT_in4 146 rfl rfl
theorem w_867 : (Jvm.Cond.selects "VeilSearchModel" ({ cls := "VeilSearchModel", name := "clause", desc := "(IIID)I" } : Jvm.MethodName) ({ cls := "VeilSearchModel", name := "clause", desc := "(IIID)I" } : Jvm.MethodName)) ∈ gT := gT_in4 147 rfl rfl
theorem w_868 : (Jvm.Cond.code ({ cls := "VeilSearchModel", name := "clause", desc := "(IIID)I" } : Jvm.MethodName) prog_10_method_21_code (6 : Nat) (Option.some Jvm.ClassFile.FieldType.int)) ∈ gT := gT_in4 148 rfl rfl
theorem w_869 : (Jvm.Cond.methodLink "VeilSearchLaw" (129 : Nat) ({ cls := "VeilSearchModel", name := "clear", desc := "()I" } : Jvm.MethodName)) ∈ gT := gT_in4 149 rfl rfl
theorem w_870 : (Jvm.Cond.instanceMethod ({ cls := "VeilSearchModel", name := "clear", desc := "()I" } : Jvm.MethodName)) ∈ gT := gT_in4 150 rfl rfl
theorem w_871 : (Jvm.Cond.selects "VeilSearchModel" ({ cls := "VeilSearchModel", name := "clear", desc := "()I" } : Jvm.MethodName) ({ cls := "VeilSearchModel", name := "clear", desc := "()I" } : Jvm.MethodName)) ∈ gT := gT_in4 151 rfl rfl
theorem w_872 : (Jvm.Cond.code ({ cls := "VeilSearchModel", name := "clear", desc := "()I" } : Jvm.MethodName) prog_10_method_22_code (2 : Nat) (Option.some Jvm.ClassFile.FieldType.int)) ∈ gT := gT_in4 152 rfl rfl
theorem w_873 : (Jvm.Cond.methodLink "VeilSearchLaw" (132 : Nat) ({ cls := "VeilSearchModel", name := "search", desc := "(II)I" } : Jvm.MethodName)) ∈ gT := gT_in4 153 rfl rfl
theorem w_874 : (Jvm.Cond.instanceMethod ({ cls := "VeilSearchModel", name := "search", desc := "(II)I" } : Jvm.MethodName)) ∈ gT := gT_in4 154 rfl rfl
theorem w_875 : (Jvm.Cond.selects "VeilSearchModel" ({ cls := "VeilSearchModel", name := "search", desc := "(II)I" } : Jvm.MethodName) ({ cls := "VeilSearchModel", name := "search", desc := "(II)I" } : Jvm.MethodName)) ∈ gT := gT_in4 155 rfl rfl
theorem w_876 : (Jvm.Cond.code ({ cls := "VeilSearchModel", name := "search", desc := "(II)I" } : Jvm.MethodName) prog_10_method_33_code (9 : Nat) (Option.some Jvm.ClassFile.FieldType.int)) ∈ gT := gT_in4 156 rfl rfl
theorem w_877 : (Jvm.Cond.methodLink "VeilSearchModel" (189 : Nat) ({ cls := "VeilSearchModel", name := "arrange", desc := "()V" } : Jvm.MethodName)) ∈ gT := gT_in4 157 rfl rfl
theorem w_879 : (Jvm.Cond.instanceMethod ({ cls := "VeilSearchModel", name := "arrange", desc := "()V" } : Jvm.MethodName)) ∈ gT := gT_in4 159 rfl rfl
theorem w_880 : (Jvm.Cond.code ({ cls := "VeilSearchModel", name := "arrange", desc := "()V" } : Jvm.MethodName) prog_10_method_25_code (3 : Nat) (Option.none : Option Jvm.ClassFile.FieldType)) ∈ gT := gT_in4 160 rfl rfl
theorem w_881 : (Jvm.Cond.methodLink "VeilSearchModel" (192 : Nat) ({ cls := "VeilSearchModel", name := "useFilter", desc := "(II)V" } : Jvm.MethodName)) ∈ gT := gT_in4 161 rfl rfl
theorem w_883 : (Jvm.Cond.instanceMethod ({ cls := "VeilSearchModel", name := "useFilter", desc := "(II)V" } : Jvm.MethodName)) ∈ gT := gT_in4 163 rfl rfl
theorem w_884 : (Jvm.Cond.code ({ cls := "VeilSearchModel", name := "useFilter", desc := "(II)V" } : Jvm.MethodName) prog_10_method_29_code (5 : Nat) (Option.none : Option Jvm.ClassFile.FieldType)) ∈ gT := gT_in4 164 rfl rfl
theorem w_885 : (Jvm.Cond.methodLink "VeilSearchModel" (196 : Nat) ({ cls := "VeilSearchModel", name := "isLeft", desc := "(II)Z" } : Jvm.MethodName)) ∈ gT := gT_in4 165 rfl rfl
theorem w_887 : (Jvm.Cond.instanceMethod ({ cls := "VeilSearchModel", name := "isLeft", desc := "(II)Z" } : Jvm.MethodName)) ∈ gT := gT_in4 167 rfl rfl
theorem w_888 : (Jvm.Cond.code ({ cls := "VeilSearchModel", name := "isLeft", desc := "(II)Z" } : Jvm.MethodName) prog_10_method_32_code (4 : Nat) (Option.some Jvm.ClassFile.FieldType.boolean)) ∈ gT := gT_in4 168 rfl rfl
theorem w_889 : (Jvm.Cond.methodLink "VeilSearchModel" (199 : Nat) ({ cls := "VeilSearchModel", name := "behindBlock", desc := "(II)I" } : Jvm.MethodName)) ∈ gT := gT_in4 169 rfl rfl
theorem w_891 : (Jvm.Cond.instanceMethod ({ cls := "VeilSearchModel", name := "behindBlock", desc := "(II)I" } : Jvm.MethodName)) ∈ gT := gT_in4 171 rfl rfl
theorem w_892 : (Jvm.Cond.code ({ cls := "VeilSearchModel", name := "behindBlock", desc := "(II)I" } : Jvm.MethodName) prog_10_method_30_code (5 : Nat) (Option.some Jvm.ClassFile.FieldType.int)) ∈ gT := gT_in4 172 rfl rfl
theorem w_893 : (Jvm.Cond.methodLink "VeilSearchModel" (181 : Nat) ({ cls := "VeilSearchModel", name := "scoreOf", desc := "(IIII)F" } : Jvm.MethodName)) ∈ gT := gT_in4 173 rfl rfl
theorem w_895 : (Jvm.Cond.instanceMethod ({ cls := "VeilSearchModel", name := "scoreOf", desc := "(IIII)F" } : Jvm.MethodName)) ∈ gT := gT_in4 175 rfl rfl
theorem w_896 : (Jvm.Cond.code ({ cls := "VeilSearchModel", name := "scoreOf", desc := "(IIII)F" } : Jvm.MethodName) prog_10_method_27_code (12 : Nat) (Option.some Jvm.ClassFile.FieldType.float)) ∈ gT := gT_in4 176 rfl rfl
theorem w_897 : (Jvm.Cond.methodLink "VeilSearchModel" (153 : Nat) ({ cls := "VeilSearchModel", name := "isOpen", desc := "(II)Z" } : Jvm.MethodName)) ∈ gT := gT_in4 177 rfl rfl
theorem w_899 : (Jvm.Cond.instanceMethod ({ cls := "VeilSearchModel", name := "isOpen", desc := "(II)Z" } : Jvm.MethodName)) ∈ gT := gT_in4 179 rfl rfl
theorem w_900 : (Jvm.Cond.code ({ cls := "VeilSearchModel", name := "isOpen", desc := "(II)Z" } : Jvm.MethodName) prog_10_method_23_code (3 : Nat) (Option.some Jvm.ClassFile.FieldType.boolean)) ∈ gT := gT_in4 180 rfl rfl
theorem w_901 : (Jvm.Cond.methodLink "VeilSearchModel" (203 : Nat) ({ cls := "VeilSearchModel", name := "lookAt", desc := "(IIIII)V" } : Jvm.MethodName)) ∈ gT := gT_in4 181 rfl rfl
theorem w_903 : (Jvm.Cond.instanceMethod ({ cls := "VeilSearchModel", name := "lookAt", desc := "(IIIII)V" } : Jvm.MethodName)) ∈ gT := gT_in4 183 rfl rfl
theorem w_904 : (Jvm.Cond.code ({ cls := "VeilSearchModel", name := "lookAt", desc := "(IIIII)V" } : Jvm.MethodName) prog_10_method_31_code (8 : Nat) (Option.none : Option Jvm.ClassFile.FieldType)) ∈ gT := gT_in4 184 rfl rfl
theorem w_905 : (Jvm.Cond.methodLink "VeilSearchModel" (172 : Nat) ({ cls := "VeilSearchModel", name := "isFound", desc := "(II)Z" } : Jvm.MethodName)) ∈ gT := gT_in4 185 rfl rfl
theorem w_907 : (Jvm.Cond.instanceMethod ({ cls := "VeilSearchModel", name := "isFound", desc := "(II)Z" } : Jvm.MethodName)) ∈ gT := gT_in4 187 rfl rfl
theorem w_908 : (Jvm.Cond.code ({ cls := "VeilSearchModel", name := "isFound", desc := "(II)Z" } : Jvm.MethodName) prog_10_method_26_code (7 : Nat) (Option.some Jvm.ClassFile.FieldType.boolean)) ∈ gT := gT_in4 188 rfl rfl
theorem w_909 : (Jvm.Cond.methodLink "VeilSearchModel" (175 : Nat) ({ cls := "VeilSearchModel", name := "mayRead", desc := "(II)Z" } : Jvm.MethodName)) ∈ gT := gT_in4 189 rfl rfl
theorem w_911 : (Jvm.Cond.instanceMethod ({ cls := "VeilSearchModel", name := "mayRead", desc := "(II)Z" } : Jvm.MethodName)) ∈ gT := gT_in4 191 rfl rfl
theorem w_912 : (Jvm.Cond.code ({ cls := "VeilSearchModel", name := "mayRead", desc := "(II)Z" } : Jvm.MethodName) prog_10_method_24_code (7 : Nat) (Option.some Jvm.ClassFile.FieldType.boolean)) ∈ gT := gT_in4 192 rfl rfl
theorem w_913 : (Jvm.Cond.methodLink "VeilSearchModel" (149 : Nat) ({ cls := "VeilSearchModel", name := "tokens", desc := "(IZ)I" } : Jvm.MethodName)) ∈ gT := gT_in4 193 rfl rfl
theorem w_915 : (Jvm.Cond.instanceMethod ({ cls := "VeilSearchModel", name := "tokens", desc := "(IZ)I" } : Jvm.MethodName)) ∈ gT := gT_in4 195 rfl rfl
theorem w_916 : (Jvm.Cond.code ({ cls := "VeilSearchModel", name := "tokens", desc := "(IZ)I" } : Jvm.MethodName) prog_10_method_7_code (6 : Nat) (Option.some Jvm.ClassFile.FieldType.int)) ∈ gT := gT_in4 196 rfl rfl
theorem w_917 : (Jvm.Cond.methodLink "VeilSearchModel" (185 : Nat) ({ cls := "VeilSearchModel", name := "enter", desc := "(IFI)V" } : Jvm.MethodName)) ∈ gT := gT_in4 197 rfl rfl
theorem w_919 : (Jvm.Cond.instanceMethod ({ cls := "VeilSearchModel", name := "enter", desc := "(IFI)V" } : Jvm.MethodName)) ∈ gT := gT_in4 199 rfl rfl
theorem w_920 : (Jvm.Cond.code ({ cls := "VeilSearchModel", name := "enter", desc := "(IFI)V" } : Jvm.MethodName) prog_10_method_28_code (5 : Nat) (Option.none : Option Jvm.ClassFile.FieldType)) ∈ gT := gT_in4 200 rfl rfl
theorem w_921 : (Jvm.Cond.methodLink "VeilSearchLaw" (135 : Nat) ({ cls := "VeilSearchModel", name := "hit", desc := "(I)I" } : Jvm.MethodName)) ∈ gT := gT_in4 201 rfl rfl
theorem w_922 : (Jvm.Cond.instanceMethod ({ cls := "VeilSearchModel", name := "hit", desc := "(I)I" } : Jvm.MethodName)) ∈ gT := gT_in4 202 rfl rfl
theorem w_923 : (Jvm.Cond.selects "VeilSearchModel" ({ cls := "VeilSearchModel", name := "hit", desc := "(I)I" } : Jvm.MethodName) ({ cls := "VeilSearchModel", name := "hit", desc := "(I)I" } : Jvm.MethodName)) ∈ gT := gT_in4 203 rfl rfl
theorem w_924 : (Jvm.Cond.code ({ cls := "VeilSearchModel", name := "hit", desc := "(I)I" } : Jvm.MethodName) prog_10_method_34_code (2 : Nat) (Option.some Jvm.ClassFile.FieldType.int)) ∈ gT := gT_in4 204 rfl rfl
theorem w_925 : (Jvm.Cond.methodLink "VeilSearchLaw" (139 : Nat) ({ cls := "VeilSearchModel", name := "score", desc := "(I)D" } : Jvm.MethodName)) ∈ gT := gT_in4 205 rfl rfl
theorem w_926 : (Jvm.Cond.instanceMethod ({ cls := "VeilSearchModel", name := "score", desc := "(I)D" } : Jvm.MethodName)) ∈ gT := gT_in4 206 rfl rfl
theorem w_927 : (Jvm.Cond.selects "VeilSearchModel" ({ cls := "VeilSearchModel", name := "score", desc := "(I)D" } : Jvm.MethodName) ({ cls := "VeilSearchModel", name := "score", desc := "(I)D" } : Jvm.MethodName)) ∈ gT := gT_in4 207 rfl rfl
theorem w_928 : (Jvm.Cond.code ({ cls := "VeilSearchModel", name := "score", desc := "(I)D" } : Jvm.MethodName) prog_10_method_35_code (2 : Nat) (Option.some Jvm.ClassFile.FieldType.double)) ∈ gT := gT_in4 208 rfl rfl
theorem w_929 : (Jvm.Cond.methodLink "VeilSearchLaw" (142 : Nat) ({ cls := "VeilSearchModel", name := "value", desc := "(III)I" } : Jvm.MethodName)) ∈ gT := gT_in4 209 rfl rfl
theorem w_930 : (Jvm.Cond.instanceMethod ({ cls := "VeilSearchModel", name := "value", desc := "(III)I" } : Jvm.MethodName)) ∈ gT := gT_in4 210 rfl rfl
theorem w_931 : (Jvm.Cond.selects "VeilSearchModel" ({ cls := "VeilSearchModel", name := "value", desc := "(III)I" } : Jvm.MethodName) ({ cls := "VeilSearchModel", name := "value", desc := "(III)I" } : Jvm.MethodName)) ∈ gT := gT_in4 211 rfl rfl
theorem w_932 : (Jvm.Cond.code ({ cls := "VeilSearchModel", name := "value", desc := "(III)I" } : Jvm.MethodName) prog_10_method_36_code (6 : Nat) (Option.some Jvm.ClassFile.FieldType.int)) ∈ gT := gT_in4 212 rfl rfl
theorem w_933 : (Jvm.Cond.methodLink "VeilSearchLaw" (145 : Nat) ({ cls := "VeilSearchModel", name := "count", desc := "(I)I" } : Jvm.MethodName)) ∈ gT := gT_in4 213 rfl rfl
theorem w_934 : (Jvm.Cond.instanceMethod ({ cls := "VeilSearchModel", name := "count", desc := "(I)I" } : Jvm.MethodName)) ∈ gT := gT_in4 214 rfl rfl
theorem w_935 : (Jvm.Cond.selects "VeilSearchModel" ({ cls := "VeilSearchModel", name := "count", desc := "(I)I" } : Jvm.MethodName) ({ cls := "VeilSearchModel", name := "count", desc := "(I)I" } : Jvm.MethodName)) ∈ gT := gT_in4 215 rfl rfl
theorem w_936 : (Jvm.Cond.code ({ cls := "VeilSearchModel", name := "count", desc := "(I)I" } : Jvm.MethodName) prog_10_method_37_code (2 : Nat) (Option.some Jvm.ClassFile.FieldType.int)) ∈ gT := gT_in4 216 rfl rfl
theorem w_937 : (Jvm.Cond.constantDouble "VeilSearchLaw" (88 : Nat) (4593671619917905920 : UInt64)) ∈ gT := gT_in4 217 rfl rfl
theorem w_938 : (Jvm.Cond.sameMethod "java/lang/Throwable" "java/lang/Throwable" "fillInStackTrace" "(I)Ljava/lang/Throwable;") ∈ gT := gT_in4 218 rfl rfl
theorem ws_0 : Cond.selects "VeilSearch" ⟨"VeilSearch", "appendSegment", "(J)V"⟩ ⟨"VeilSearch", "appendSegment", "(J)V"⟩ ∈ gT := gS_in 0 (q := (⟨"VeilSearch", "appendSegment", "(J)V"⟩, 10)) rfl
theorem ws_1 : Cond.selects "VeilSearch$Filters" ⟨"VeilSearch$Filters", "drop", "(I)V"⟩ ⟨"VeilSearch$Filters", "drop", "(I)V"⟩ ∈ gT := gS_in 1 (q := (⟨"VeilSearch$Filters", "drop", "(I)V"⟩, 6)) rfl
theorem ws_2 : Cond.selects "java/lang/Throwable" ⟨"java/lang/Throwable", "fillInStackTrace", "(I)Ljava/lang/Throwable;"⟩ ⟨"java/lang/Throwable", "fillInStackTrace", "(I)Ljava/lang/Throwable;"⟩ ∈ gT := gS_in 2 (q := (⟨"java/lang/Throwable", "fillInStackTrace", "(I)Ljava/lang/Throwable;"⟩, 6)) rfl
theorem ws_3 : Cond.selects "VeilSearch$Query" ⟨"VeilSearch$Query", "comesLater", "(III)Z"⟩ ⟨"VeilSearch$Query", "comesLater", "(III)Z"⟩ ∈ gT := gS_in 3 (q := (⟨"VeilSearch$Query", "comesLater", "(III)Z"⟩, 7)) rfl
theorem ws_4 : Cond.selects "VeilSearch$Query" ⟨"VeilSearch$Query", "move", "(II)V"⟩ ⟨"VeilSearch$Query", "move", "(II)V"⟩ ∈ gT := gS_in 4 (q := (⟨"VeilSearch$Query", "move", "(II)V"⟩, 7)) rfl
theorem ws_5 : Cond.selects "VeilSearch" ⟨"VeilSearch", "filterOf", "(IJI)J"⟩ ⟨"VeilSearch", "filterOf", "(IJI)J"⟩ ∈ gT := gS_in 5 (q := (⟨"VeilSearch", "filterOf", "(IJI)J"⟩, 10)) rfl
theorem ws_6 : Cond.selects "VeilSearch$Filters" ⟨"VeilSearch$Filters", "append", "(IIJ)V"⟩ ⟨"VeilSearch$Filters", "append", "(IIJ)V"⟩ ∈ gT := gS_in 6 (q := (⟨"VeilSearch$Filters", "append", "(IIJ)V"⟩, 6)) rfl
theorem ws_7 : Cond.selects "VeilSearch" ⟨"VeilSearch", "passThrough", "(JJ)V"⟩ ⟨"VeilSearch", "passThrough", "(JJ)V"⟩ ∈ gT := gS_in 7 (q := (⟨"VeilSearch", "passThrough", "(JJ)V"⟩, 10)) rfl
theorem ws_8 : Cond.selects "VeilSearch" ⟨"VeilSearch", "lookAt", "(J)V"⟩ ⟨"VeilSearch", "lookAt", "(J)V"⟩ ∈ gT := gS_in 8 (q := (⟨"VeilSearch", "lookAt", "(J)V"⟩, 10)) rfl
theorem ws_9 : Cond.selects "VeilSearchModel" ⟨"VeilSearchModel", "fail", "(I)I"⟩ ⟨"VeilSearchModel", "fail", "(I)I"⟩ ∈ gT := gS_in 9 (q := (⟨"VeilSearchModel", "fail", "(I)I"⟩, 40)) rfl
theorem ws_10 : Cond.selects "VeilSearchModel" ⟨"VeilSearchModel", "sizeOf", "(I)I"⟩ ⟨"VeilSearchModel", "sizeOf", "(I)I"⟩ ∈ gT := gS_in 10 (q := (⟨"VeilSearchModel", "sizeOf", "(I)I"⟩, 40)) rfl
theorem ws_11 : Cond.selects "VeilSearchModel" ⟨"VeilSearchModel", "isOther", "()Z"⟩ ⟨"VeilSearchModel", "isOther", "()Z"⟩ ∈ gT := gS_in 11 (q := (⟨"VeilSearchModel", "isOther", "()Z"⟩, 40)) rfl
theorem ws_12 : Cond.selects "VeilSearchModel" ⟨"VeilSearchModel", "isShown", "(I)Z"⟩ ⟨"VeilSearchModel", "isShown", "(I)Z"⟩ ∈ gT := gS_in 12 (q := (⟨"VeilSearchModel", "isShown", "(I)Z"⟩, 40)) rfl
theorem ws_13 : Cond.selects "VeilSearchModel" ⟨"VeilSearchModel", "drop", "(I)V"⟩ ⟨"VeilSearchModel", "drop", "(I)V"⟩ ∈ gT := gS_in 13 (q := (⟨"VeilSearchModel", "drop", "(I)V"⟩, 40)) rfl
theorem ws_14 : Cond.selects "VeilSearchModel" ⟨"VeilSearchModel", "arrange", "()V"⟩ ⟨"VeilSearchModel", "arrange", "()V"⟩ ∈ gT := gS_in 14 (q := (⟨"VeilSearchModel", "arrange", "()V"⟩, 40)) rfl
theorem ws_15 : Cond.selects "VeilSearchModel" ⟨"VeilSearchModel", "useFilter", "(II)V"⟩ ⟨"VeilSearchModel", "useFilter", "(II)V"⟩ ∈ gT := gS_in 15 (q := (⟨"VeilSearchModel", "useFilter", "(II)V"⟩, 40)) rfl
theorem ws_16 : Cond.selects "VeilSearchModel" ⟨"VeilSearchModel", "isLeft", "(II)Z"⟩ ⟨"VeilSearchModel", "isLeft", "(II)Z"⟩ ∈ gT := gS_in 16 (q := (⟨"VeilSearchModel", "isLeft", "(II)Z"⟩, 40)) rfl
theorem ws_17 : Cond.selects "VeilSearchModel" ⟨"VeilSearchModel", "behindBlock", "(II)I"⟩ ⟨"VeilSearchModel", "behindBlock", "(II)I"⟩ ∈ gT := gS_in 17 (q := (⟨"VeilSearchModel", "behindBlock", "(II)I"⟩, 40)) rfl
theorem ws_18 : Cond.selects "VeilSearchModel" ⟨"VeilSearchModel", "scoreOf", "(IIII)F"⟩ ⟨"VeilSearchModel", "scoreOf", "(IIII)F"⟩ ∈ gT := gS_in 18 (q := (⟨"VeilSearchModel", "scoreOf", "(IIII)F"⟩, 40)) rfl
theorem ws_19 : Cond.selects "VeilSearchModel" ⟨"VeilSearchModel", "isOpen", "(II)Z"⟩ ⟨"VeilSearchModel", "isOpen", "(II)Z"⟩ ∈ gT := gS_in 19 (q := (⟨"VeilSearchModel", "isOpen", "(II)Z"⟩, 40)) rfl
theorem ws_20 : Cond.selects "VeilSearchModel" ⟨"VeilSearchModel", "lookAt", "(IIIII)V"⟩ ⟨"VeilSearchModel", "lookAt", "(IIIII)V"⟩ ∈ gT := gS_in 20 (q := (⟨"VeilSearchModel", "lookAt", "(IIIII)V"⟩, 40)) rfl
theorem ws_21 : Cond.selects "VeilSearchModel" ⟨"VeilSearchModel", "isFound", "(II)Z"⟩ ⟨"VeilSearchModel", "isFound", "(II)Z"⟩ ∈ gT := gS_in 21 (q := (⟨"VeilSearchModel", "isFound", "(II)Z"⟩, 40)) rfl
theorem ws_22 : Cond.selects "VeilSearchModel" ⟨"VeilSearchModel", "mayRead", "(II)Z"⟩ ⟨"VeilSearchModel", "mayRead", "(II)Z"⟩ ∈ gT := gS_in 22 (q := (⟨"VeilSearchModel", "mayRead", "(II)Z"⟩, 40)) rfl
theorem ws_23 : Cond.selects "VeilSearchModel" ⟨"VeilSearchModel", "tokens", "(IZ)I"⟩ ⟨"VeilSearchModel", "tokens", "(IZ)I"⟩ ∈ gT := gS_in 23 (q := (⟨"VeilSearchModel", "tokens", "(IZ)I"⟩, 40)) rfl
theorem ws_24 : Cond.selects "VeilSearchModel" ⟨"VeilSearchModel", "enter", "(IFI)V"⟩ ⟨"VeilSearchModel", "enter", "(IFI)V"⟩ ∈ gT := gS_in 24 (q := (⟨"VeilSearchModel", "enter", "(IFI)V"⟩, 40)) rfl
end
section
def RD : String := "VeilSearch$Documents"
def TD : u_T := fun k => match k with
  | 0 => ("VeilSearch$Documents", "codes", "[I", true)
  | 1 => ("VeilSearch$Documents", "values", "[I", true)
  | 2 => ("VeilSearch$Documents", "allowed", "[I", true)
  | 3 => ("VeilSearch$Documents", "denied", "[I", true)
  | _ => ("VeilSearch$Documents", "ids", "I", false)
def tyD : Nat → FieldType := fun k => match k with
  | 0 => .array .int
  | 1 => .array .int
  | 2 => .array .int
  | 3 => .array .int
  | _ => .int
set_option maxRecDepth 20000 in
theorem nmD : ∀ a, a < 5 → ∀ b, b < 5 → a ≠ b → (TD a).2.1 ≠ (TD b).2.1 := by decide +kernel
theorem tyD_ok : ∀ k, k < 5 → parseFieldDescriptor (TD k).2.2.1 = some (tyD k) := by decide +kernel
theorem inD : ∀ w ∈ u_ws RD TD 5, w ∈ gT := List.forall_mem_cons.mpr ⟨w_46, List.forall_mem_cons.mpr ⟨w_48, List.forall_mem_cons.mpr ⟨w_50, List.forall_mem_cons.mpr ⟨w_52, List.forall_mem_cons.mpr ⟨w_54, fun _ h => absurd h List.not_mem_nil⟩⟩⟩⟩⟩
def RF : String := "VeilSearch$Filters"
def TF : u_T := fun k => match k with
  | 0 => ("VeilSearch$Filters", "segments", "[I", true)
  | 1 => ("VeilSearch$Filters", "users", "[I", true)
  | 2 => ("VeilSearch$Filters", "readable", "[J", true)
  | 3 => ("VeilSearch$Filters", "kept", "I", false)
  | 4 => ("VeilSearch$Filters", "made", "I", false)
  | _ => ("VeilSearch$Filters", "reused", "I", false)
def tyF : Nat → FieldType := fun k => match k with
  | 0 => .array .int
  | 1 => .array .int
  | 2 => .array .long
  | 3 => .int
  | 4 => .int
  | _ => .int
set_option maxRecDepth 20000 in
theorem nmF : ∀ a, a < 6 → ∀ b, b < 6 → a ≠ b → (TF a).2.1 ≠ (TF b).2.1 := by decide +kernel
theorem tyF_ok : ∀ k, k < 6 → parseFieldDescriptor (TF k).2.2.1 = some (tyF k) := by decide +kernel
theorem inF : ∀ w ∈ u_ws RF TF 6, w ∈ gT := List.forall_mem_cons.mpr ⟨w_73, List.forall_mem_cons.mpr ⟨w_75, List.forall_mem_cons.mpr ⟨w_77, List.forall_mem_cons.mpr ⟨w_79, List.forall_mem_cons.mpr ⟨w_81, List.forall_mem_cons.mpr ⟨w_83, fun _ h => absurd h List.not_mem_nil⟩⟩⟩⟩⟩⟩
def RH : String := "VeilSearch$Hits"
def TH : u_T := fun k => match k with
  | 0 => ("VeilSearch$Hits", "ids", "[I", true)
  | 1 => ("VeilSearch$Hits", "scores", "[F", true)
  | 2 => ("VeilSearch$Hits", "size", "I", false)
  | _ => ("VeilSearch$Hits", "most", "I", false)
def tyH : Nat → FieldType := fun k => match k with
  | 0 => .array .int
  | 1 => .array .float
  | 2 => .int
  | _ => .int
set_option maxRecDepth 20000 in
theorem nmH : ∀ a, a < 4 → ∀ b, b < 4 → a ≠ b → (TH a).2.1 ≠ (TH b).2.1 := by decide +kernel
theorem tyH_ok : ∀ k, k < 4 → parseFieldDescriptor (TH k).2.2.1 = some (tyH k) := by decide +kernel
theorem inH : ∀ w ∈ u_ws RH TH 4, w ∈ gT := List.forall_mem_cons.mpr ⟨w_132, List.forall_mem_cons.mpr ⟨w_134, List.forall_mem_cons.mpr ⟨w_136, List.forall_mem_cons.mpr ⟨w_138, fun _ h => absurd h List.not_mem_nil⟩⟩⟩⟩
def RQ : String := "VeilSearch$Query"
def TQ : u_T := fun k => match k with
  | 0 => ("VeilSearch$Query", "sorts", "[I", true)
  | 1 => ("VeilSearch$Query", "terms", "[I", true)
  | 2 => ("VeilSearch$Query", "fields", "[I", true)
  | 3 => ("VeilSearch$Query", "weights", "[F", true)
  | 4 => ("VeilSearch$Query", "open", "[Z", true)
  | 5 => ("VeilSearch$Query", "veiledMust", "Z", false)
  | _ => ("VeilSearch$Query", "size", "I", false)
def tyQ : Nat → FieldType := fun k => match k with
  | 0 => .array .int
  | 1 => .array .int
  | 2 => .array .int
  | 3 => .array .float
  | 4 => .array .boolean
  | 5 => .boolean
  | _ => .int
set_option maxRecDepth 20000 in
theorem nmQ : ∀ a, a < 7 → ∀ b, b < 7 → a ≠ b → (TQ a).2.1 ≠ (TQ b).2.1 := by decide +kernel
theorem tyQ_ok : ∀ k, k < 7 → parseFieldDescriptor (TQ k).2.2.1 = some (tyQ k) := by decide +kernel
theorem inQ : ∀ w ∈ u_ws RQ TQ 7, w ∈ gT := List.forall_mem_cons.mpr ⟨w_101, List.forall_mem_cons.mpr ⟨w_103, List.forall_mem_cons.mpr ⟨w_105, List.forall_mem_cons.mpr ⟨w_107, List.forall_mem_cons.mpr ⟨w_109, List.forall_mem_cons.mpr ⟨w_111, List.forall_mem_cons.mpr ⟨w_113, fun _ h => absurd h List.not_mem_nil⟩⟩⟩⟩⟩⟩⟩
def RR : String := "VeilSearch$Rights"
def TR : u_T := fun k => match k with
  | 0 => ("VeilSearch$Rights", "groupsOf", "[I", true)
  | 1 => ("VeilSearch$Rights", "levels", "[I", true)
  | _ => ("VeilSearch$Rights", "clearances", "[I", true)
def tyR : Nat → FieldType := fun k => match k with
  | 0 => .array .int
  | 1 => .array .int
  | _ => .array .int
set_option maxRecDepth 20000 in
theorem nmR : ∀ a, a < 3 → ∀ b, b < 3 → a ≠ b → (TR a).2.1 ≠ (TR b).2.1 := by decide +kernel
theorem tyR_ok : ∀ k, k < 3 → parseFieldDescriptor (TR k).2.2.1 = some (tyR k) := by decide +kernel
theorem inR : ∀ w ∈ u_ws RR TR 3, w ∈ gT := List.forall_mem_cons.mpr ⟨w_158, List.forall_mem_cons.mpr ⟨w_160, List.forall_mem_cons.mpr ⟨w_162, fun _ h => absurd h List.not_mem_nil⟩⟩⟩
def RS : String := "VeilSearch$Segments"
def TS : u_T := fun k => match k with
  | 0 => ("VeilSearch$Segments", "numbers", "[I", true)
  | 1 => ("VeilSearch$Segments", "ids", "[J", true)
  | _ => ("VeilSearch$Segments", "size", "I", false)
def tyS : Nat → FieldType := fun k => match k with
  | 0 => .array .int
  | 1 => .array .long
  | _ => .int
set_option maxRecDepth 20000 in
theorem nmS : ∀ a, a < 3 → ∀ b, b < 3 → a ≠ b → (TS a).2.1 ≠ (TS b).2.1 := by decide +kernel
theorem tyS_ok : ∀ k, k < 3 → parseFieldDescriptor (TS k).2.2.1 = some (tyS k) := by decide +kernel
theorem inS : ∀ w ∈ u_ws RS TS 3, w ∈ gT := List.forall_mem_cons.mpr ⟨w_177, List.forall_mem_cons.mpr ⟨w_179, List.forall_mem_cons.mpr ⟨w_181, fun _ h => absurd h List.not_mem_nil⟩⟩⟩
def RV : String := "VeilSearch$View"
def TV : u_T := fun k => match k with
  | 0 => ("VeilSearch$View", "rights", "LVeilSearch$Rights;", true)
  | 1 => ("VeilSearch$View", "segments", "LVeilSearch$Segments;", true)
  | _ => ("VeilSearch$View", "removed", "J", false)
def tyV : Nat → FieldType := fun k => match k with
  | 0 => .object "VeilSearch$Rights"
  | 1 => .object "VeilSearch$Segments"
  | _ => .long
set_option maxRecDepth 20000 in
theorem nmV : ∀ a, a < 3 → ∀ b, b < 3 → a ≠ b → (TV a).2.1 ≠ (TV b).2.1 := by decide +kernel
theorem tyV_ok : ∀ k, k < 3 → parseFieldDescriptor (TV k).2.2.1 = some (tyV k) := by decide +kernel
theorem inV : ∀ w ∈ u_ws RV TV 3, w ∈ gT := List.forall_mem_cons.mpr ⟨w_190, List.forall_mem_cons.mpr ⟨w_192, List.forall_mem_cons.mpr ⟨w_194, fun _ h => absurd h List.not_mem_nil⟩⟩⟩
def RX : String := "VeilSearch"
def TX : u_T := fun k => match k with
  | 0 => ("VeilSearch", "documents", "LVeilSearch$Documents;", true)
  | 1 => ("VeilSearch", "filters", "LVeilSearch$Filters;", true)
  | 2 => ("VeilSearch", "query", "LVeilSearch$Query;", true)
  | 3 => ("VeilSearch", "hits", "LVeilSearch$Hits;", true)
  | 4 => ("VeilSearch", "now", "LVeilSearch$View;", true)
  | 5 => ("VeilSearch", "seen", "LVeilSearch$View;", true)
  | 6 => ("VeilSearch", "buffer", "J", false)
  | 7 => ("VeilSearch", "segmentsMade", "I", false)
  | 8 => ("VeilSearch", "blocksLooked", "I", false)
  | _ => ("VeilSearch", "documentsFound", "I", false)
def tyX : Nat → FieldType := fun k => match k with
  | 0 => .object "VeilSearch$Documents"
  | 1 => .object "VeilSearch$Filters"
  | 2 => .object "VeilSearch$Query"
  | 3 => .object "VeilSearch$Hits"
  | 4 => .object "VeilSearch$View"
  | 5 => .object "VeilSearch$View"
  | 6 => .long
  | 7 => .int
  | 8 => .int
  | _ => .int
set_option maxRecDepth 20000 in
theorem nmX : ∀ a, a < 10 → ∀ b, b < 10 → a ≠ b → (TX a).2.1 ≠ (TX b).2.1 := by decide +kernel
theorem tyX_ok : ∀ k, k < 10 → parseFieldDescriptor (TX k).2.2.1 = some (tyX k) := by decide +kernel
theorem inX : ∀ w ∈ u_ws RX TX 10, w ∈ gT := List.forall_mem_cons.mpr ⟨w_207, List.forall_mem_cons.mpr ⟨w_209, List.forall_mem_cons.mpr ⟨w_211, List.forall_mem_cons.mpr ⟨w_213, List.forall_mem_cons.mpr ⟨w_215, List.forall_mem_cons.mpr ⟨w_217, List.forall_mem_cons.mpr ⟨w_219, List.forall_mem_cons.mpr ⟨w_221, List.forall_mem_cons.mpr ⟨w_223, List.forall_mem_cons.mpr ⟨w_225, fun _ h => absurd h List.not_mem_nil⟩⟩⟩⟩⟩⟩⟩⟩⟩⟩
def RM : String := "VeilSearchModel"
def TM : u_T := fun k => match k with
  | 0 => ("VeilSearchModel", "members", "[I", true)
  | 1 => ("VeilSearchModel", "levels", "[I", true)
  | 2 => ("VeilSearchModel", "clearances", "[I", true)
  | 3 => ("VeilSearchModel", "oldMembers", "[I", true)
  | 4 => ("VeilSearchModel", "oldLevels", "[I", true)
  | 5 => ("VeilSearchModel", "oldClearances", "[I", true)
  | 6 => ("VeilSearchModel", "value", "[I", true)
  | 7 => ("VeilSearchModel", "code", "[I", true)
  | 8 => ("VeilSearchModel", "allows", "[I", true)
  | 9 => ("VeilSearchModel", "denies", "[I", true)
  | 10 => ("VeilSearchModel", "parent", "[I", true)
  | 11 => ("VeilSearchModel", "segment", "[I", true)
  | 12 => ("VeilSearchModel", "seen", "[I", true)
  | 13 => ("VeilSearchModel", "removed", "[Z", true)
  | 14 => ("VeilSearchModel", "seenRemoved", "[Z", true)
  | 15 => ("VeilSearchModel", "segments", "[I", true)
  | 16 => ("VeilSearchModel", "shown", "[I", true)
  | 17 => ("VeilSearchModel", "sort", "[I", true)
  | 18 => ("VeilSearchModel", "term", "[I", true)
  | 19 => ("VeilSearchModel", "field", "[I", true)
  | 20 => ("VeilSearchModel", "order", "[I", true)
  | 21 => ("VeilSearchModel", "hits", "[I", true)
  | 22 => ("VeilSearchModel", "weight", "[D", true)
  | 23 => ("VeilSearchModel", "scores", "[F", true)
  | 24 => ("VeilSearchModel", "filterOf", "[I", true)
  | 25 => ("VeilSearchModel", "filterFor", "[I", true)
  | 26 => ("VeilSearchModel", "filterAt", "[I", true)
  | 27 => ("VeilSearchModel", "ids", "I", false)
  | 28 => ("VeilSearchModel", "segmentMany", "I", false)
  | 29 => ("VeilSearchModel", "shownMany", "I", false)
  | 30 => ("VeilSearchModel", "serial", "I", false)
  | 31 => ("VeilSearchModel", "clauses", "I", false)
  | 32 => ("VeilSearchModel", "found", "I", false)
  | 33 => ("VeilSearchModel", "looked", "I", false)
  | 34 => ("VeilSearchModel", "matched", "I", false)
  | 35 => ("VeilSearchModel", "filters", "I", false)
  | 36 => ("VeilSearchModel", "made", "I", false)
  | 37 => ("VeilSearchModel", "reused", "I", false)
  | 38 => ("VeilSearchModel", "clock", "I", false)
  | _ => ("VeilSearchModel", "thrown", "I", false)
def tyM : Nat → FieldType := fun k => match k with
  | 0 => .array .int
  | 1 => .array .int
  | 2 => .array .int
  | 3 => .array .int
  | 4 => .array .int
  | 5 => .array .int
  | 6 => .array .int
  | 7 => .array .int
  | 8 => .array .int
  | 9 => .array .int
  | 10 => .array .int
  | 11 => .array .int
  | 12 => .array .int
  | 13 => .array .boolean
  | 14 => .array .boolean
  | 15 => .array .int
  | 16 => .array .int
  | 17 => .array .int
  | 18 => .array .int
  | 19 => .array .int
  | 20 => .array .int
  | 21 => .array .int
  | 22 => .array .double
  | 23 => .array .float
  | 24 => .array .int
  | 25 => .array .int
  | 26 => .array .int
  | 27 => .int
  | 28 => .int
  | 29 => .int
  | 30 => .int
  | 31 => .int
  | 32 => .int
  | 33 => .int
  | 34 => .int
  | 35 => .int
  | 36 => .int
  | 37 => .int
  | 38 => .int
  | _ => .int
set_option maxRecDepth 20000 in
theorem nmM : ∀ a, a < 40 → ∀ b, b < 40 → a ≠ b → (TM a).2.1 ≠ (TM b).2.1 := by decide +kernel
theorem tyM_ok : ∀ k, k < 40 → parseFieldDescriptor (TM k).2.2.1 = some (tyM k) := by decide +kernel
theorem inM : ∀ w ∈ u_ws RM TM 40, w ∈ gT := List.forall_mem_cons.mpr ⟨w_709, List.forall_mem_cons.mpr ⟨w_711, List.forall_mem_cons.mpr ⟨w_713, List.forall_mem_cons.mpr ⟨w_715, List.forall_mem_cons.mpr ⟨w_717, List.forall_mem_cons.mpr ⟨w_719, List.forall_mem_cons.mpr ⟨w_721, List.forall_mem_cons.mpr ⟨w_723, List.forall_mem_cons.mpr ⟨w_725, List.forall_mem_cons.mpr ⟨w_727, List.forall_mem_cons.mpr ⟨w_729, List.forall_mem_cons.mpr ⟨w_731, List.forall_mem_cons.mpr ⟨w_733, List.forall_mem_cons.mpr ⟨w_735, List.forall_mem_cons.mpr ⟨w_737, List.forall_mem_cons.mpr ⟨w_739, List.forall_mem_cons.mpr ⟨w_741, List.forall_mem_cons.mpr ⟨w_743, List.forall_mem_cons.mpr ⟨w_745, List.forall_mem_cons.mpr ⟨w_747, List.forall_mem_cons.mpr ⟨w_749, List.forall_mem_cons.mpr ⟨w_751, List.forall_mem_cons.mpr ⟨w_753, List.forall_mem_cons.mpr ⟨w_755, List.forall_mem_cons.mpr ⟨w_757, List.forall_mem_cons.mpr ⟨w_759, List.forall_mem_cons.mpr ⟨w_761, List.forall_mem_cons.mpr ⟨w_763, List.forall_mem_cons.mpr ⟨w_765, List.forall_mem_cons.mpr ⟨w_767, List.forall_mem_cons.mpr ⟨w_769, List.forall_mem_cons.mpr ⟨w_771, List.forall_mem_cons.mpr ⟨w_773, List.forall_mem_cons.mpr ⟨w_775, List.forall_mem_cons.mpr ⟨w_777, List.forall_mem_cons.mpr ⟨w_779, List.forall_mem_cons.mpr ⟨w_781, List.forall_mem_cons.mpr ⟨w_783, List.forall_mem_cons.mpr ⟨w_785, List.forall_mem_cons.mpr ⟨w_787, fun _ h => absurd h List.not_mem_nil⟩⟩⟩⟩⟩⟩⟩⟩⟩⟩⟩⟩⟩⟩⟩⟩⟩⟩⟩⟩⟩⟩⟩⟩⟩⟩⟩⟩⟩⟩⟩⟩⟩⟩⟩⟩⟩⟩⟩⟩
abbrev vwCl : List vw_C := [(RD, TD, 5), (RF, TF, 6), (RH, TH, 4), (RQ, TQ, 7), (RR, TR, 3), (RS, TS, 3), (RV, TV, 3), (RX, TX, 10), (RM, TM, 40)]
def RL : String := "VeilSearchLaw"
def RJ : String := "java/lang/Long"
abbrev c_X_init : ByteArray := prog_1_method_1_code
abbrev y_X_init : MethodName := { cls := "VeilSearch", name := "<init>", desc := "()V" }
abbrev c_D_init : ByteArray := prog_2_method_1_code
abbrev y_D_init : MethodName := { cls := "VeilSearch$Documents", name := "<init>", desc := "()V" }
abbrev c_F_init : ByteArray := prog_3_method_1_code
abbrev y_F_init : MethodName := { cls := "VeilSearch$Filters", name := "<init>", desc := "()V" }
abbrev c_Q_init : ByteArray := prog_5_method_1_code
abbrev y_Q_init : MethodName := { cls := "VeilSearch$Query", name := "<init>", desc := "()V" }
abbrev c_H_init : ByteArray := prog_4_method_1_code
abbrev y_H_init : MethodName := { cls := "VeilSearch$Hits", name := "<init>", desc := "()V" }
abbrev c_V_init : ByteArray := prog_8_method_1_code
abbrev y_V_init : MethodName := { cls := "VeilSearch$View", name := "<init>", desc := "()V" }
abbrev c_R_init : ByteArray := prog_6_method_1_code
abbrev y_R_init : MethodName := { cls := "VeilSearch$Rights", name := "<init>", desc := "()V" }
abbrev c_S_init : ByteArray := prog_7_method_1_code
abbrev y_S_init : MethodName := { cls := "VeilSearch$Segments", name := "<init>", desc := "()V" }
abbrev c_X_merge : ByteArray := prog_1_method_10_code
abbrev y_X_merge : MethodName := { cls := "VeilSearch", name := "merge", desc := "()I" }
abbrev c_S_allIds : ByteArray := prog_7_method_3_code
abbrev y_S_allIds : MethodName := { cls := "VeilSearch$Segments", name := "allIds", desc := "()J" }
abbrev c_X_appendSegment : ByteArray := prog_1_method_24_code
abbrev y_X_appendSegment : MethodName := { cls := "VeilSearch", name := "appendSegment", desc := "(J)V" }
abbrev c_S_append : ByteArray := prog_7_method_2_code
abbrev y_S_append : MethodName := { cls := "VeilSearch$Segments", name := "append", desc := "(IJ)V" }
abbrev c_J_bitCount : ByteArray := prog_15_method_50_code
abbrev y_J_bitCount : MethodName := { cls := "java/lang/Long", name := "bitCount", desc := "(J)I" }
abbrev c_X_refresh : ByteArray := prog_1_method_11_code
abbrev y_X_refresh : MethodName := { cls := "VeilSearch", name := "refresh", desc := "()I" }
abbrev c_R_sameAs : ByteArray := prog_6_method_5_code
abbrev y_R_sameAs : MethodName := { cls := "VeilSearch$Rights", name := "sameAs", desc := "(LVeilSearch$Rights;)Z" }
abbrev c_R_sameRow : ByteArray := prog_6_method_6_code
abbrev y_R_sameRow : MethodName := { cls := "VeilSearch$Rights", name := "sameRow", desc := "([I[I)Z" }
abbrev c_V_takeOver : ByteArray := prog_8_method_3_code
abbrev y_V_takeOver : MethodName := { cls := "VeilSearch$View", name := "takeOver", desc := "(LVeilSearch$View;)V" }
abbrev c_R_takeOver : ByteArray := prog_6_method_7_code
abbrev y_R_takeOver : MethodName := { cls := "VeilSearch$Rights", name := "takeOver", desc := "(LVeilSearch$Rights;)V" }
abbrev c_S_takeOver : ByteArray := prog_7_method_5_code
abbrev y_S_takeOver : MethodName := { cls := "VeilSearch$Segments", name := "takeOver", desc := "(LVeilSearch$Segments;)V" }
abbrev c_F_dropAllBut : ByteArray := prog_3_method_5_code
abbrev y_F_dropAllBut : MethodName := { cls := "VeilSearch$Filters", name := "dropAllBut", desc := "(LVeilSearch$Segments;)V" }
abbrev c_S_hasNumber : ByteArray := prog_7_method_4_code
abbrev y_S_hasNumber : MethodName := { cls := "VeilSearch$Segments", name := "hasNumber", desc := "(I)Z" }
abbrev c_F_drop : ByteArray := prog_3_method_7_code
abbrev y_F_drop : MethodName := { cls := "VeilSearch$Filters", name := "drop", desc := "(I)V" }
abbrev c_V_livingIds : ByteArray := prog_8_method_2_code
abbrev y_V_livingIds : MethodName := { cls := "VeilSearch$View", name := "livingIds", desc := "()J" }
abbrev c_X_clear : ByteArray := prog_1_method_13_code
abbrev y_X_clear : MethodName := { cls := "VeilSearch", name := "clear", desc := "()I" }
abbrev c_L_member : ByteArray := method_3_code
abbrev y_L_member : MethodName := { cls := "VeilSearchLaw", name := "member", desc := "(LVeilSearch;IIZ[J)I" }
abbrev c_X_member : ByteArray := prog_1_method_2_code
abbrev y_X_member : MethodName := { cls := "VeilSearch", name := "member", desc := "(IIZ)Z" }
abbrev c_X_isBelow : ByteArray := prog_1_method_19_code
abbrev y_X_isBelow : MethodName := { cls := "VeilSearch", name := "isBelow", desc := "(II)Z" }
abbrev c_R_join : ByteArray := prog_6_method_2_code
abbrev y_R_join : MethodName := { cls := "VeilSearch$Rights", name := "join", desc := "(IIZ)Z" }
abbrev c_L_level : ByteArray := method_4_code
abbrev y_L_level : MethodName := { cls := "VeilSearchLaw", name := "level", desc := "(LVeilSearch;III[J)I" }
abbrev c_X_level : ByteArray := prog_1_method_3_code
abbrev y_X_level : MethodName := { cls := "VeilSearch", name := "level", desc := "(III)I" }
abbrev c_L_weigh : ByteArray := method_5_code
abbrev y_L_weigh : MethodName := { cls := "VeilSearchLaw", name := "weigh", desc := "(LVeilSearch;IID[J)I" }
abbrev c_X_weigh : ByteArray := prog_1_method_4_code
abbrev y_X_weigh : MethodName := { cls := "VeilSearch", name := "weigh", desc := "(IID)I" }
abbrev c_X_isWeight : ByteArray := prog_1_method_20_code
abbrev y_X_isWeight : MethodName := { cls := "VeilSearch", name := "isWeight", desc := "(D)Z" }
abbrev c_X_codeOf : ByteArray := prog_1_method_21_code
abbrev y_X_codeOf : MethodName := { cls := "VeilSearch", name := "codeOf", desc := "(D)I" }
abbrev c_D_codePlace : ByteArray := prog_2_method_3_code
abbrev y_D_codePlace : MethodName := { cls := "VeilSearch$Documents", name := "codePlace", desc := "(III)I" }
abbrev c_D_valuePlace : ByteArray := prog_2_method_2_code
abbrev y_D_valuePlace : MethodName := { cls := "VeilSearch$Documents", name := "valuePlace", desc := "(II)I" }
abbrev c_L_put : ByteArray := method_6_code
abbrev y_L_put : MethodName := { cls := "VeilSearchLaw", name := "put", desc := "(LVeilSearch;II[J)I" }
abbrev c_X_put : ByteArray := prog_1_method_5_code
abbrev y_X_put : MethodName := { cls := "VeilSearch", name := "put", desc := "(II)I" }
abbrev c_L_rule : ByteArray := method_7_code
abbrev y_L_rule : MethodName := { cls := "VeilSearchLaw", name := "rule", desc := "(LVeilSearch;IZ[J)I" }
abbrev c_X_rule : ByteArray := prog_1_method_6_code
abbrev y_X_rule : MethodName := { cls := "VeilSearch", name := "rule", desc := "(IZ)Z" }
abbrev c_L_add : ByteArray := method_8_code
abbrev y_L_add : MethodName := { cls := "VeilSearchLaw", name := "add", desc := "(LVeilSearch;I[J)I" }
abbrev c_X_add : ByteArray := prog_1_method_7_code
abbrev y_X_add : MethodName := { cls := "VeilSearch", name := "add", desc := "(I)I" }
abbrev c_D_finishDraft : ByteArray := prog_2_method_4_code
abbrev y_D_finishDraft : MethodName := { cls := "VeilSearch$Documents", name := "finishDraft", desc := "(I)I" }
abbrev c_L_remove : ByteArray := method_9_code
abbrev y_L_remove : MethodName := { cls := "VeilSearchLaw", name := "remove", desc := "(LVeilSearch;I)I" }
abbrev c_X_remove : ByteArray := prog_1_method_8_code
abbrev y_X_remove : MethodName := { cls := "VeilSearch", name := "remove", desc := "(I)V" }
abbrev c_X_holds : ByteArray := prog_1_method_22_code
abbrev y_X_holds : MethodName := { cls := "VeilSearch", name := "holds", desc := "(JI)Z" }
abbrev c_L_flush : ByteArray := method_10_code
abbrev y_L_flush : MethodName := { cls := "VeilSearchLaw", name := "flush", desc := "(LVeilSearch;[J)I" }
abbrev c_X_flush : ByteArray := prog_1_method_9_code
abbrev y_X_flush : MethodName := { cls := "VeilSearch", name := "flush", desc := "()I" }
abbrev c_L_clause : ByteArray := method_11_code
abbrev y_L_clause : MethodName := { cls := "VeilSearchLaw", name := "clause", desc := "(LVeilSearch;IIID[J)I" }
abbrev c_X_clause : ByteArray := prog_1_method_12_code
abbrev y_X_clause : MethodName := { cls := "VeilSearch", name := "clause", desc := "(IIID)I" }
abbrev c_Q_insert : ByteArray := prog_5_method_2_code
abbrev y_Q_insert : MethodName := { cls := "VeilSearch$Query", name := "insert", desc := "(IIIF)V" }
abbrev c_Q_comesLater : ByteArray := prog_5_method_3_code
abbrev y_Q_comesLater : MethodName := { cls := "VeilSearch$Query", name := "comesLater", desc := "(III)Z" }
abbrev c_Q_move : ByteArray := prog_5_method_4_code
abbrev y_Q_move : MethodName := { cls := "VeilSearch$Query", name := "move", desc := "(II)V" }
abbrev c_L_search : ByteArray := method_12_code
abbrev y_L_search : MethodName := { cls := "VeilSearchLaw", name := "search", desc := "(LVeilSearch;II[J)I" }
abbrev c_X_search : ByteArray := prog_1_method_14_code
abbrev y_X_search : MethodName := { cls := "VeilSearch", name := "search", desc := "(II)I" }
abbrev c_H_restart : ByteArray := prog_4_method_2_code
abbrev y_H_restart : MethodName := { cls := "VeilSearch$Hits", name := "restart", desc := "(I)V" }
abbrev c_Q_openFor : ByteArray := prog_5_method_5_code
abbrev y_Q_openFor : MethodName := { cls := "VeilSearch$Query", name := "openFor", desc := "(ILVeilSearch$Rights;)V" }
abbrev c_R_isOpen : ByteArray := prog_6_method_4_code
abbrev y_R_isOpen : MethodName := { cls := "VeilSearch$Rights", name := "isOpen", desc := "(II)Z" }
abbrev c_X_filterOf : ByteArray := prog_1_method_25_code
abbrev y_X_filterOf : MethodName := { cls := "VeilSearch", name := "filterOf", desc := "(IJI)J" }
abbrev c_F_placeOf : ByteArray := prog_3_method_2_code
abbrev y_F_placeOf : MethodName := { cls := "VeilSearch$Filters", name := "placeOf", desc := "(II)I" }
abbrev c_F_reuse : ByteArray := prog_3_method_3_code
abbrev y_F_reuse : MethodName := { cls := "VeilSearch$Filters", name := "reuse", desc := "(I)J" }
abbrev c_F_append : ByteArray := prog_3_method_6_code
abbrev y_F_append : MethodName := { cls := "VeilSearch$Filters", name := "append", desc := "(IIJ)V" }
abbrev c_R_tokensOf : ByteArray := prog_6_method_3_code
abbrev y_R_tokensOf : MethodName := { cls := "VeilSearch$Rights", name := "tokensOf", desc := "(I)I" }
abbrev c_D_readableOf : ByteArray := prog_2_method_6_code
abbrev y_D_readableOf : MethodName := { cls := "VeilSearch$Documents", name := "readableOf", desc := "(JI)J" }
abbrev c_D_mayRead : ByteArray := prog_2_method_5_code
abbrev y_D_mayRead : MethodName := { cls := "VeilSearch$Documents", name := "mayRead", desc := "(II)Z" }
abbrev c_F_keepNew : ByteArray := prog_3_method_4_code
abbrev y_F_keepNew : MethodName := { cls := "VeilSearch$Filters", name := "keepNew", desc := "(IIJ)V" }
abbrev c_X_passThrough : ByteArray := prog_1_method_26_code
abbrev y_X_passThrough : MethodName := { cls := "VeilSearch", name := "passThrough", desc := "(JJ)V" }
abbrev c_X_firstBlock : ByteArray := prog_1_method_27_code
abbrev y_X_firstBlock : MethodName := { cls := "VeilSearch", name := "firstBlock", desc := "(J)J" }
abbrev c_Q_scoreOf : ByteArray := prog_5_method_7_code
abbrev y_Q_scoreOf : MethodName := { cls := "VeilSearch$Query", name := "scoreOf", desc := "(JLVeilSearch$Documents;)F" }
abbrev c_D_greatestCode : ByteArray := prog_2_method_7_code
abbrev y_D_greatestCode : MethodName := { cls := "VeilSearch$Documents", name := "greatestCode", desc := "(JII)I" }
abbrev c_X_lowestId : ByteArray := prog_1_method_23_code
abbrev y_X_lowestId : MethodName := { cls := "VeilSearch", name := "lowestId", desc := "(J)I" }
abbrev c_H_lastScore : ByteArray := prog_4_method_3_code
abbrev y_H_lastScore : MethodName := { cls := "VeilSearch$Hits", name := "lastScore", desc := "()F" }
abbrev c_X_lookAt : ByteArray := prog_1_method_28_code
abbrev y_X_lookAt : MethodName := { cls := "VeilSearch", name := "lookAt", desc := "(J)V" }
abbrev c_Q_finds : ByteArray := prog_5_method_6_code
abbrev y_Q_finds : MethodName := { cls := "VeilSearch$Query", name := "finds", desc := "(ILVeilSearch$Documents;)Z" }
abbrev c_H_take : ByteArray := prog_4_method_4_code
abbrev y_H_take : MethodName := { cls := "VeilSearch$Hits", name := "take", desc := "(IF)V" }
abbrev c_L_hit : ByteArray := method_13_code
abbrev y_L_hit : MethodName := { cls := "VeilSearchLaw", name := "hit", desc := "(LVeilSearch;I[J)I" }
abbrev c_X_hit : ByteArray := prog_1_method_15_code
abbrev y_X_hit : MethodName := { cls := "VeilSearch", name := "hit", desc := "(I)I" }
abbrev c_L_score : ByteArray := method_14_code
abbrev y_L_score : MethodName := { cls := "VeilSearchLaw", name := "score", desc := "(LVeilSearch;I[D)I" }
abbrev c_X_score : ByteArray := prog_1_method_16_code
abbrev y_X_score : MethodName := { cls := "VeilSearch", name := "score", desc := "(I)D" }
abbrev c_L_value : ByteArray := method_15_code
abbrev y_L_value : MethodName := { cls := "VeilSearchLaw", name := "value", desc := "(LVeilSearch;III[J)I" }
abbrev c_X_value : ByteArray := prog_1_method_17_code
abbrev y_X_value : MethodName := { cls := "VeilSearch", name := "value", desc := "(III)I" }
abbrev c_L_count : ByteArray := method_16_code
abbrev y_L_count : MethodName := { cls := "VeilSearchLaw", name := "count", desc := "(LVeilSearch;I[J)I" }
abbrev c_X_count : ByteArray := prog_1_method_18_code
abbrev y_X_count : MethodName := { cls := "VeilSearch", name := "count", desc := "(I)I" }
abbrev c_M_init : ByteArray := prog_10_method_1_code
abbrev y_M_init : MethodName := { cls := "VeilSearchModel", name := "<init>", desc := "()V" }
abbrev c_M_thrown : ByteArray := prog_10_method_2_code
abbrev y_M_thrown : MethodName := { cls := "VeilSearchModel", name := "thrown", desc := "()I" }
abbrev c_M_member : ByteArray := prog_10_method_5_code
abbrev y_M_member : MethodName := { cls := "VeilSearchModel", name := "member", desc := "(IIZ)Z" }
abbrev c_M_in : ByteArray := prog_10_method_3_code
abbrev y_M_in : MethodName := { cls := "VeilSearchModel", name := "in", desc := "(III)Z" }
abbrev c_M_level : ByteArray := prog_10_method_6_code
abbrev y_M_level : MethodName := { cls := "VeilSearchModel", name := "level", desc := "(III)I" }
abbrev c_M_fail : ByteArray := prog_10_method_4_code
abbrev y_M_fail : MethodName := { cls := "VeilSearchModel", name := "fail", desc := "(I)I" }
abbrev c_M_weigh : ByteArray := prog_10_method_9_code
abbrev y_M_weigh : MethodName := { cls := "VeilSearchModel", name := "weigh", desc := "(IID)I" }
abbrev c_M_isWeight : ByteArray := prog_10_method_8_code
abbrev y_M_isWeight : MethodName := { cls := "VeilSearchModel", name := "isWeight", desc := "(D)Z" }
abbrev c_M_put : ByteArray := prog_10_method_10_code
abbrev y_M_put : MethodName := { cls := "VeilSearchModel", name := "put", desc := "(II)I" }
abbrev c_M_rule : ByteArray := prog_10_method_11_code
abbrev y_M_rule : MethodName := { cls := "VeilSearchModel", name := "rule", desc := "(IZ)Z" }
abbrev c_M_add : ByteArray := prog_10_method_12_code
abbrev y_M_add : MethodName := { cls := "VeilSearchModel", name := "add", desc := "(I)I" }
abbrev c_M_remove : ByteArray := prog_10_method_13_code
abbrev y_M_remove : MethodName := { cls := "VeilSearchModel", name := "remove", desc := "(I)V" }
abbrev c_M_flush : ByteArray := prog_10_method_15_code
abbrev y_M_flush : MethodName := { cls := "VeilSearchModel", name := "flush", desc := "()I" }
abbrev c_M_sizeOf : ByteArray := prog_10_method_14_code
abbrev y_M_sizeOf : MethodName := { cls := "VeilSearchModel", name := "sizeOf", desc := "(I)I" }
abbrev c_M_merge : ByteArray := prog_10_method_16_code
abbrev y_M_merge : MethodName := { cls := "VeilSearchModel", name := "merge", desc := "()I" }
abbrev c_M_refresh : ByteArray := prog_10_method_20_code
abbrev y_M_refresh : MethodName := { cls := "VeilSearchModel", name := "refresh", desc := "()I" }
abbrev c_M_isOther : ByteArray := prog_10_method_17_code
abbrev y_M_isOther : MethodName := { cls := "VeilSearchModel", name := "isOther", desc := "()Z" }
abbrev c_M_isShown : ByteArray := prog_10_method_18_code
abbrev y_M_isShown : MethodName := { cls := "VeilSearchModel", name := "isShown", desc := "(I)Z" }
abbrev c_M_drop : ByteArray := prog_10_method_19_code
abbrev y_M_drop : MethodName := { cls := "VeilSearchModel", name := "drop", desc := "(I)V" }
abbrev c_M_clause : ByteArray := prog_10_method_21_code
abbrev y_M_clause : MethodName := { cls := "VeilSearchModel", name := "clause", desc := "(IIID)I" }
abbrev c_M_clear : ByteArray := prog_10_method_22_code
abbrev y_M_clear : MethodName := { cls := "VeilSearchModel", name := "clear", desc := "()I" }
abbrev c_M_search : ByteArray := prog_10_method_33_code
abbrev y_M_search : MethodName := { cls := "VeilSearchModel", name := "search", desc := "(II)I" }
abbrev c_M_arrange : ByteArray := prog_10_method_25_code
abbrev y_M_arrange : MethodName := { cls := "VeilSearchModel", name := "arrange", desc := "()V" }
abbrev c_M_useFilter : ByteArray := prog_10_method_29_code
abbrev y_M_useFilter : MethodName := { cls := "VeilSearchModel", name := "useFilter", desc := "(II)V" }
abbrev c_M_isLeft : ByteArray := prog_10_method_32_code
abbrev y_M_isLeft : MethodName := { cls := "VeilSearchModel", name := "isLeft", desc := "(II)Z" }
abbrev c_M_behindBlock : ByteArray := prog_10_method_30_code
abbrev y_M_behindBlock : MethodName := { cls := "VeilSearchModel", name := "behindBlock", desc := "(II)I" }
abbrev c_M_scoreOf : ByteArray := prog_10_method_27_code
abbrev y_M_scoreOf : MethodName := { cls := "VeilSearchModel", name := "scoreOf", desc := "(IIII)F" }
abbrev c_M_isOpen : ByteArray := prog_10_method_23_code
abbrev y_M_isOpen : MethodName := { cls := "VeilSearchModel", name := "isOpen", desc := "(II)Z" }
abbrev c_M_lookAt : ByteArray := prog_10_method_31_code
abbrev y_M_lookAt : MethodName := { cls := "VeilSearchModel", name := "lookAt", desc := "(IIIII)V" }
abbrev c_M_isFound : ByteArray := prog_10_method_26_code
abbrev y_M_isFound : MethodName := { cls := "VeilSearchModel", name := "isFound", desc := "(II)Z" }
abbrev c_M_mayRead : ByteArray := prog_10_method_24_code
abbrev y_M_mayRead : MethodName := { cls := "VeilSearchModel", name := "mayRead", desc := "(II)Z" }
abbrev c_M_tokens : ByteArray := prog_10_method_7_code
abbrev y_M_tokens : MethodName := { cls := "VeilSearchModel", name := "tokens", desc := "(IZ)I" }
abbrev c_M_enter : ByteArray := prog_10_method_28_code
abbrev y_M_enter : MethodName := { cls := "VeilSearchModel", name := "enter", desc := "(IFI)V" }
abbrev c_M_hit : ByteArray := prog_10_method_34_code
abbrev y_M_hit : MethodName := { cls := "VeilSearchModel", name := "hit", desc := "(I)I" }
abbrev c_M_score : ByteArray := prog_10_method_35_code
abbrev y_M_score : MethodName := { cls := "VeilSearchModel", name := "score", desc := "(I)D" }
abbrev c_M_value : ByteArray := prog_10_method_36_code
abbrev y_M_value : MethodName := { cls := "VeilSearchModel", name := "value", desc := "(III)I" }
abbrev c_M_count : ByteArray := prog_10_method_37_code
abbrev y_M_count : MethodName := { cls := "VeilSearchModel", name := "count", desc := "(I)I" }
end
section
/-! THE LAYER: memory by positions (cell k of ours lies at address b + k), a judgement vs_G over it, a row an instruction -/
abbrev vs_C : Type := (Nat × vp_A) ⊕ (Nat × List Value)
/-- a value by position: '.ref k' is our cell k; '.retAddr a' is the address a itself (the script) -/
def vs_v (b : Nat) (v : Value) : Value := match v with
  | .ref k => .ref (b + k)
  | .retAddr a => .ref a
  | w => w
theorem vs_v_cat (b : Nat) (v : Value) : (vs_v b v).category = v.category := by cases v <;> rfl
def vs_c (b : Nat) (aC : Nat → ClassId) (x : vs_C) : va_E := match x with
  | .inl q => .inl (aC q.1, q.2)
  | .inr q => .inr (q.1, q.2.map (vs_v b))
def vs_w (b : Nat) (aC : Nat → ClassId) : Nat → List vs_C → va_W
  | _, [] => []
  | k, x :: r => (b + k, vs_c b aC x) :: vs_w b aC (k + 1) r
theorem vs_w_get (b : Nat) (aC : Nat → ClassId) : ∀ (mem : List vs_C) (k i : Nat), (vs_w b aC k mem)[i]? = (mem[i]?).map (fun x => (b + (k + i), vs_c b aC x))
  | [], k, i => by simp [vs_w]
  | x :: r, k, 0 => by simp [vs_w]
  | x :: r, k, i + 1 => by
    have h := vs_w_get b aC r (k + 1) i
    have e : k + 1 + i = k + (i + 1) := by omega
    rw [e] at h
    simpa [vs_w] using h
theorem vs_w_len (b : Nat) (aC : Nat → ClassId) : ∀ (mem : List vs_C) (k : Nat), (vs_w b aC k mem).length = mem.length
  | [], k => rfl
  | x :: r, k => by simp [vs_w, vs_w_len b aC r (k + 1)]
theorem vs_w_set (b : Nat) (aC : Nat → ClassId) (y : vs_C) : ∀ (mem : List vs_C) (k i : Nat), vs_w b aC k (mem.set i y) = (vs_w b aC k mem).set i (b + (k + i), vs_c b aC y)
  | [], k, i => by simp [vs_w]
  | x :: r, k, 0 => by simp [vs_w]
  | x :: r, k, i + 1 => by
    have h := vs_w_set b aC y r (k + 1) i
    have e : k + 1 + i = k + (i + 1) := by omega
    rw [e] at h
    simp [vs_w, h]
theorem vs_w_app (b : Nat) (aC : Nat → ClassId) (y : vs_C) : ∀ (mem : List vs_C) (k : Nat), vs_w b aC k (mem ++ [y]) = vs_w b aC k mem ++ [(b + (k + mem.length), vs_c b aC y)]
  | [], k => by simp [vs_w]
  | x :: r, k => by
    have h := vs_w_app b aC y r (k + 1)
    have e : k + 1 + r.length = k + (r.length + 1) := by omega
    rw [e] at h
    simp [vs_w, h]
theorem vs_w_at {b : Nat} {aC : Nat → ClassId} {mem : List vs_C} {i : Nat} {x : vs_C} (h : mem[i]? = some x) : (vs_w b aC 0 mem)[i]? = some (b + i, vs_c b aC x) := by
  rw [vs_w_get, h]
  simp
theorem vs_w_D {b : Nat} {aC : Nat → ClassId} {mem : List vs_C} : va_D (fun q => b ≤ q) (vs_w b aC 0 mem) := by
  refine ⟨fun i j x y hi hj hxy => ?_, fun k q hk => ?_⟩
  · rw [vs_w_get] at hi hj
    cases h1 : mem[i]? with
    | none => rw [h1] at hi; simp at hi
    | some u =>
      cases h2 : mem[j]? with
      | none => rw [h2] at hj; simp at hj
      | some v =>
        rw [h1] at hi; rw [h2] at hj
        simp only [Option.map_some, Option.some.injEq] at hi hj
        subst hi; subst hj
        simp only at hxy
        omega
  · rw [vs_w_get] at hk
    cases h1 : mem[k]? with
    | none => rw [h1] at hk; simp at hk
    | some u =>
      rw [h1] at hk
      simp only [Option.map_some, Option.some.injEq] at hk
      subst hk
      show b ≤ b + (0 + k)
      omega
/-- the array classes: 0 int, 1 long, 2 float, 3 boolean, 4 double -/
def vs_t (aC : Nat → ClassId) : List (ClassId × FieldType) := [(aC 0, .int), (aC 1, .long), (aC 2, .float), (aC 3, .boolean), (aC 4, .double)]
/-- a static of Throwable holds a reference or null, in a cell that is none of ours -/
def vs_Zs (b : Nat) (n d : String) (U : State) (H : Heap) : Prop := ∃ (cT : ClassId) (k : Class) (i : Nat) (f : Field) (a : Nat) (cell : Cell) (v : Value), U.vm.findClass "java/lang/Throwable" = some cT ∧ U.fieldFound? "java/lang/Throwable" n d = some (cT, k, i, f) ∧ f.isStatic = true ∧ k.statics = some a ∧ H[a]? = some cell ∧ cell.vm.isStatics = true ∧ cell.cls = cT ∧ f.slot < cell.slots.size ∧ k.staticTypes[f.slot]? = some f.type ∧ cell.slots[f.slot]? = some v ∧ (v = .null ∨ ∃ t, v = .ref t) ∧ a < b
theorem vs_Zs.moved {b : Nat} {n d : String} {u U : State} {H H1 : Heap} (h : vs_Zs b n d u H) (hvm : u.vm.Alike U.vm) (hq : ∀ a : Nat, a < b → H1[a]? = H[a]?) : vs_Zs b n d U H1 := by
  obtain ⟨cT, k, i, f, a, cell, v, h1, h2, h3, h4, h5, h6, h7, h8, h9, h10, h11, h12⟩ := h
  obtain ⟨k', hi', he⟩ := State.fieldFound?_setVm hvm h2
  exact ⟨cT, k', i, f, a, cell, v, by rw [hvm.findClass]; exact h1, hi', h3, by rw [he]; exact h4, by rw [hq a h12]; exact h5, h6, h7, h8, by rw [he]; exact h9, h10, h11, h12⟩
def vs_Z (b : Nat) (U : State) (H : Heap) : Prop := vs_Zs b "UNASSIGNED_STACK" "[Ljava/lang/StackTraceElement;" U H ∧ vs_Zs b "SUPPRESSED_SENTINEL" "Ljava/util/List;" U H
theorem vs_Z.moved {b : Nat} {u U : State} {H H1 : Heap} (h : vs_Z b u H) (hvm : u.vm.Alike U.vm) (hq : ∀ a : Nat, a < b → H1[a]? = H[a]?) : vs_Z b U H1 := ⟨h.1.moved hvm hq, h.2.moved hvm hq⟩
/-- what stands for the whole of a method's walk -/
def vs_X (p : Program) (s : State) (m : MethodId) (args : Array Value) (meth : Method) (c : Code) (b : Nat) (D : va_G) (aC : Nat → ClassId) (own : String) (cc : ByteArray) (nL : Nat) : Prop :=
  p.tables.exec = Jvm.exec ∧ c.code = cc ∧ c.maxLocals = nL ∧ s.vm.findClass own = some m.cls ∧ (∀ w ∈ gT, w.before args s = true) ∧ va_K D vwCl (vs_t aC) s ∧ b ≤ s.heap.size ∧ meth.locks = false ∧ vs_Z b s s.heap ∧ (∀ w ∈ gN, va_Nw w s)
/-- the locals, by index -/
def vs_l (b : Nat) (ls : Array Slot) (nL : Nat) (lv : List (Option Value)) : Prop := ls.size = nL ∧ lv_wf ls ∧ ∀ (i : Nat) (v : Value), lv[i]? = some (some v) → ls[i]? = some (.val (vs_v b v))
/-- THE JUDGEMENT: the machine at pc with these locals, this stack and this memory comes to a state with Q -/
def vs_G (p : Program) (l : Launch) (e : Env) (R : Room) (s : State) (m : MethodId) (args : Array Value) (below : List Frame) (meth : Method) (c : Code) (b : Nat) (D : va_G) (aC : Nat → ClassId) (nL : Nat) (Q : State → Prop) (kc ks : Nat) (mem : List vs_C) (pc : Nat) (lv : List (Option Value)) (st : List Value) : Prop :=
  ∀ (H : Heap) (locs : List Loc) (ls : Array Slot), va_P D vwCl (vs_w b aC 0 mem) H → va_S (fun q => b ≤ q) s.heap H locs → vs_l b ls nL lv → W p l e R s m args below meth c H locs kc ks Q (F0 m pc ls (st.map (vs_v b)))
/-- the listed values as the kit lists them -/
def vs_a (b : Nat) (lv : List (Option Value)) : List (Nat × Value) := (List.range lv.length).filterMap (fun j => (lv[j]?).bind (fun o => o.map (fun v => (j, vs_v b v))))
theorem vs_a_in {b : Nat} {lv : List (Option Value)} {j : Nat} {w : Value} : (j, w) ∈ vs_a b lv ↔ ∃ v, lv[j]? = some (some v) ∧ w = vs_v b v := by
  constructor
  · intro h
    obtain ⟨i, -, hi⟩ := List.mem_filterMap.mp h
    cases h1 : lv[i]? with
    | none => rw [h1] at hi; simp at hi
    | some o =>
      cases o with
      | none => rw [h1] at hi; simp at hi
      | some v =>
        rw [h1] at hi
        simp only [Option.bind_some, Option.map_some, Option.some.injEq, Prod.mk.injEq] at hi
        obtain ⟨rfl, rfl⟩ := hi
        exact ⟨v, h1, rfl⟩
  · rintro ⟨v, h, rfl⟩
    refine List.mem_filterMap.mpr ⟨j, List.mem_range.mpr (List.getElem?_eq_some_iff.mp h).1, ?_⟩
    rw [h]
    rfl
theorem vs_l_has {b : Nat} {ls : Array Slot} {nL : Nat} {lv : List (Option Value)} (h : vs_l b ls nL lv) : lv_has ls nL (vs_a b lv) := by
  refine ⟨h.1, h.2.1, fun q hq => ?_⟩
  obtain ⟨j, w⟩ := q
  obtain ⟨v, h1, rfl⟩ := vs_a_in.mp hq
  exact h.2.2 j v h1
/-- a store at i spoils a long that stands just before -/
def vs_k (lv : List (Option Value)) (i : Nat) : List (Option Value) := match i with
  | 0 => lv
  | j + 1 => match lv[j]? with
    | some (some w) => if w.category = 2 then lv.set j none else lv
    | _ => lv
def vs_s1 (lv : List (Option Value)) (i : Nat) (v : Value) : List (Option Value) := (vs_k lv i).set i (some v)
def vs_s2 (lv : List (Option Value)) (i : Nat) (v : Value) : List (Option Value) := ((vs_k lv i).set i (some v)).set (i + 1) none
theorem vs_k_get {lv : List (Option Value)} {i j : Nat} {w : Value} (h : (vs_k lv i)[j]? = some (some w)) : lv[j]? = some (some w) ∧ ¬ (j + 1 = i ∧ w.category = 2) := by
  cases i with
  | zero => exact ⟨h, fun q => by omega⟩
  | succ n =>
    simp only [vs_k] at h
    cases h1 : lv[n]? with
    | none =>
      rw [h1] at h
      refine ⟨h, fun q => ?_⟩
      have : j = n := by omega
      subst this
      rw [h1] at h; cases h
    | some o =>
      cases o with
      | none =>
        rw [h1] at h
        refine ⟨h, fun q => ?_⟩
        have : j = n := by omega
        subst this
        rw [h1] at h; cases h
      | some u =>
        rw [h1] at h
        simp only at h
        by_cases hc : u.category = 2
        · rw [if_pos hc] at h
          by_cases hj : j = n
          · subst hj
            rw [List.getElem?_set_self (List.getElem?_eq_some_iff.mp h1).1] at h
            cases h
          · rw [List.getElem?_set_ne (Ne.symm hj)] at h
            exact ⟨h, fun q => hj (by omega)⟩
        · rw [if_neg hc] at h
          refine ⟨h, fun q => ?_⟩
          have : j = n := by omega
          subst this
          rw [h1] at h
          cases h
          exact hc q.2
theorem vs_st1 {b : Nat} {ls : Array Slot} {nL i : Nat} {lv : List (Option Value)} {v : Value} (h : lv_has ls nL ((i, vs_v b v) :: (vs_a b lv).filter (fun q => !(q.1 == i) && !(q.1 + 1 == i && q.2.category == 2)))) : vs_l b ls nL (vs_s1 lv i v) := by
  refine ⟨h.1, h.2.1, fun j w hj => ?_⟩
  by_cases hji : j = i
  · subst hji
    have hlt : j < (vs_k lv j).length := by
      have := (List.getElem?_eq_some_iff.mp hj).1
      simpa [vs_s1] using this
    rw [vs_s1, List.getElem?_set_self hlt] at hj
    cases hj
    exact h.2.2 (j, vs_v b v) List.mem_cons_self
  · rw [vs_s1, List.getElem?_set_ne (Ne.symm hji)] at hj
    obtain ⟨h1, h2⟩ := vs_k_get hj
    refine h.2.2 (j, vs_v b w) (List.mem_cons_of_mem _ (List.mem_filter.mpr ⟨vs_a_in.mpr ⟨w, h1, rfl⟩, ?_⟩))
    simp only [vs_v_cat, Bool.and_eq_true, Bool.not_eq_true', beq_eq_false_iff_ne, ne_eq]
    refine ⟨hji, ?_⟩
    by_cases hc : j + 1 = i
    · have : ¬ w.category = 2 := fun q => h2 ⟨hc, q⟩
      simp [this]
    · simp [hc]
theorem vs_st2 {b : Nat} {ls : Array Slot} {nL i : Nat} {lv : List (Option Value)} {v : Value} (h : lv_has ls nL ((i, vs_v b v) :: (vs_a b lv).filter (fun q => !(q.1 == i) && (!(q.1 == i + 1) && !(q.1 + 1 == i && q.2.category == 2))))) : vs_l b ls nL (vs_s2 lv i v) := by
  refine ⟨h.1, h.2.1, fun j w hj => ?_⟩
  by_cases hj1 : j = i + 1
  · subst hj1
    have hlt := (List.getElem?_eq_some_iff.mp hj).1
    rw [vs_s2, List.getElem?_set_self (by simpa [vs_s2] using hlt)] at hj
    cases hj
  · rw [vs_s2, List.getElem?_set_ne (Ne.symm hj1)] at hj
    by_cases hji : j = i
    · subst hji
      have hlt := (List.getElem?_eq_some_iff.mp hj).1
      rw [List.getElem?_set_self (by simpa using hlt)] at hj
      cases hj
      exact h.2.2 (j, vs_v b v) List.mem_cons_self
    · rw [List.getElem?_set_ne (Ne.symm hji)] at hj
      obtain ⟨h1, h2⟩ := vs_k_get hj
      refine h.2.2 (j, vs_v b w) (List.mem_cons_of_mem _ (List.mem_filter.mpr ⟨vs_a_in.mpr ⟨w, h1, rfl⟩, ?_⟩))
      simp only [vs_v_cat, Bool.and_eq_true, Bool.not_eq_true', beq_eq_false_iff_ne, ne_eq]
      refine ⟨hji, hj1, ?_⟩
      by_cases hc : j + 1 = i
      · have : ¬ w.category = 2 := fun q => h2 ⟨hc, q⟩
        simp [this]
      · simp [hc]
/-- a method's first locals -/
def vs_e : List Value → List (Option Value)
  | [] => []
  | v :: r => if v.category = 2 then some v :: none :: vs_e r else some v :: vs_e r
theorem vs_e_in {b : Nat} : ∀ (av : List Value) (k j : Nat) (v : Value), (vs_e av)[j]? = some (some v) → (k + j, vs_v b v) ∈ lv_args k (av.map (vs_v b))
  | [], k, j, v, h => by simp [vs_e] at h
  | u :: r, k, j, v, h => by
    by_cases hc : u.category = 2
    · simp only [vs_e, if_pos hc] at h
      simp only [List.map_cons, lv_args, vs_v_cat, if_pos hc]
      match j, h with
      | 0, h => simp at h; subst h; simp
      | 1, h => simp at h
      | j + 2, h =>
        have h' : (vs_e r)[j]? = some (some v) := by simpa using h
        have := vs_e_in (b := b) r (k + 2) j v h'
        have e : k + 2 + j = k + (j + 2) := by omega
        rw [e] at this
        exact List.mem_cons_of_mem _ this
    · simp only [vs_e, if_neg hc] at h
      simp only [List.map_cons, lv_args, vs_v_cat, if_neg hc]
      match j, h with
      | 0, h => simp at h; subst h; simp
      | j + 1, h =>
        have h' : (vs_e r)[j]? = some (some v) := by simpa using h
        have := vs_e_in (b := b) r (k + 1) j v h'
        have e : k + 1 + j = k + (j + 1) := by omega
        rw [e] at this
        exact List.mem_cons_of_mem _ this
/-- with room for the rest -/
def vs_e0 (nL : Nat) (av : List Value) : List (Option Value) := vs_e av ++ List.replicate (nL - (vs_e av).length) none
theorem vs_entry {b nL : Nat} {av : List Value} (h : (vs_e av).length ≤ nL) : vs_l b ((lg_sl (av.map (vs_v b)) ++ List.replicate (nL - (lg_sl (av.map (vs_v b))).length) Slot.unset).toArray) nL (vs_e0 nL av) := by
  have hlen : ∀ r : List Value, (lg_sl (r.map (vs_v b))).length = (vs_e r).length := by
    intro r
    induction r with
    | nil => rfl
    | cons u r ih =>
      have e : lg_sl ((u :: r).map (vs_v b)) = (if (vs_v b u).category = 2 then [Slot.val (vs_v b u), .second] else [.val (vs_v b u)]) ++ lg_sl (r.map (vs_v b)) := rfl
      rw [e, vs_v_cat]
      by_cases hc : u.category = 2
      · simp [vs_e, hc, ih]
      · simp [vs_e, hc, ih]
  have hl := lv_entry (av.map (vs_v b)) (n := nL) (by rw [hlen]; exact h)
  refine ⟨hl.1, hl.2.1, fun j v hj => ?_⟩
  have h2 : (vs_e av)[j]? = some (some v) := by
    by_cases hlt : j < (vs_e av).length
    · rw [vs_e0, List.getElem?_append_left hlt] at hj
      exact hj
    · rw [vs_e0, List.getElem?_append_right (by omega)] at hj
      have := List.mem_of_getElem? hj
      simp at this
  have h3 := vs_e_in (b := b) av 0 j v h2
  rw [Nat.zero_add] at h3
  exact hl.2.2 _ h3
end
section
section Rows
variable {p : Program} {l : Launch} {e : Env} {R : Room} {s : State} {m : MethodId} {args : Array Value} {below : List Frame} {meth : Method} {c : Code} {b : Nat} {D : va_G} {aC : Nat → ClassId} {nL : Nat} {Q : State → Prop} {kc ks : Nat} {mem : List vs_C} {pc : Nat} {lv : List (Option Value)} {st : List Value} {own : String} {cc : ByteArray}
theorem vs_iconst (C : vs_X p s m args meth c b D aC own cc nL) {n : Int} {v : Int32} (hv : Int32.ofInt n = v) (hd : decode cc pc = .ok (.iconst n, 1)) (k : vs_G p l e R s m args below meth c b D aC nL Q kc ks mem (pc + 1) lv (.int v :: st)) : vs_G p l e R s m args below meth c b D aC nL Q kc ks mem (pc) lv st := fun H locs ls hP hS hl => lv_iconst C.1 C.2.1 hd hv (k H locs ls hP hS hl)
theorem vs_bipush (C : vs_X p s m args meth c b D aC own cc nL) {n : Int} {v : Int32} (hv : (Int8.ofInt n).toInt32 = v) (hd : decode cc pc = .ok (.bipush n, 2)) (k : vs_G p l e R s m args below meth c b D aC nL Q kc ks mem (pc + 2) lv (.int v :: st)) : vs_G p l e R s m args below meth c b D aC nL Q kc ks mem (pc) lv st := fun H locs ls hP hS hl => lv_bipush C.1 C.2.1 hd hv (k H locs ls hP hS hl)
theorem vs_sipush (C : vs_X p s m args meth c b D aC own cc nL) {n : Int} {v : Int32} (hv : (Int16.ofInt n).toInt32 = v) (hd : decode cc pc = .ok (.sipush n, 3)) (k : vs_G p l e R s m args below meth c b D aC nL Q kc ks mem (pc + 3) lv (.int v :: st)) : vs_G p l e R s m args below meth c b D aC nL Q kc ks mem (pc) lv st := fun H locs ls hP hS hl => lv_sipush C.1 C.2.1 hd hv (k H locs ls hP hS hl)
theorem vs_lconst (C : vs_X p s m args meth c b D aC own cc nL) {n : Fin 2} {v : Int64} (hv : Int64.ofNat (n : Nat) = v) (hd : decode cc pc = .ok (.lconst n, 1)) (k : vs_G p l e R s m args below meth c b D aC nL Q kc ks mem (pc + 1) lv (.long v :: st)) : vs_G p l e R s m args below meth c b D aC nL Q kc ks mem (pc) lv st := fun H locs ls hP hS hl => lv_lconst C.1 C.2.1 hd hv (k H locs ls hP hS hl)
theorem vs_fconst0 (C : vs_X p s m args meth c b D aC own cc nL)  (hd : decode cc pc = .ok (.fconst 0, 1)) (k : vs_G p l e R s m args below meth c b D aC nL Q kc ks mem (pc + 1) lv (.float FP.fconst0 :: st)) : vs_G p l e R s m args below meth c b D aC nL Q kc ks mem (pc) lv st := fun H locs ls hP hS hl => lv_fconst0 C.1 C.2.1 hd (k H locs ls hP hS hl)
theorem vs_dconst0 (C : vs_X p s m args meth c b D aC own cc nL)  (hd : decode cc pc = .ok (.dconst 0, 1)) (k : vs_G p l e R s m args below meth c b D aC nL Q kc ks mem (pc + 1) lv (.double FP.dconst0 :: st)) : vs_G p l e R s m args below meth c b D aC nL Q kc ks mem (pc) lv st := fun H locs ls hP hS hl => lv_dconst0 C.1 C.2.1 hd (k H locs ls hP hS hl)
theorem vs_ldcf (C : vs_X p s m args meth c b D aC own cc nL) {i : Nat} {v : UInt32} (hw : Cond.constantFloat own i v ∈ gT) (hd : decode cc pc = .ok (.ldc i, 2)) (k : vs_G p l e R s m args below meth c b D aC nL Q kc ks mem (pc + 2) lv (.float v :: st)) : vs_G p l e R s m args below meth c b D aC nL Q kc ks mem (pc) lv st := fun H locs ls hP hS hl => lv_ldcf C.1 C.2.1 C.2.2.2.1 (C.2.2.2.2.1 _ hw) hd (k H locs ls hP hS hl)
theorem vs_ldc2 (C : vs_X p s m args meth c b D aC own cc nL) {i : Nat} {v : Int64} (hw : Cond.constantLong own i v ∈ gT) (hd : decode cc pc = .ok (.ldc2_w i, 3)) (k : vs_G p l e R s m args below meth c b D aC nL Q kc ks mem (pc + 3) lv (.long v :: st)) : vs_G p l e R s m args below meth c b D aC nL Q kc ks mem (pc) lv st := fun H locs ls hP hS hl => lv_ldc2 C.1 C.2.1 C.2.2.2.1 (C.2.2.2.2.1 _ hw) hd (k H locs ls hP hS hl)
theorem vs_ldc2d (C : vs_X p s m args meth c b D aC own cc nL) {i : Nat} {v : UInt64} (hw : Cond.constantDouble own i v ∈ gT) (hd : decode cc pc = .ok (.ldc2_w i, 3)) (k : vs_G p l e R s m args below meth c b D aC nL Q kc ks mem (pc + 3) lv (.double v :: st)) : vs_G p l e R s m args below meth c b D aC nL Q kc ks mem (pc) lv st := fun H locs ls hP hS hl => lv_ldc2d C.1 C.2.1 C.2.2.2.1 (C.2.2.2.2.1 _ hw) hd (k H locs ls hP hS hl)
theorem vs_iload_n (C : vs_X p s m args meth c b D aC own cc nL) {i : Fin 4} {x : Int32} (hx : lv[(i : Nat)]? = some (some (.int x))) (hd : decode cc pc = .ok (.iload_n i, 1)) (k : vs_G p l e R s m args below meth c b D aC nL Q kc ks mem (pc + 1) lv (.int x :: st)) : vs_G p l e R s m args below meth c b D aC nL Q kc ks mem (pc) lv st := fun H locs ls hP hS hl => lv_iload_n C.1 C.2.1 hd rfl (hl.2.2 _ _ hx) (k H locs ls hP hS hl)
theorem vs_iload (C : vs_X p s m args meth c b D aC own cc nL) {i : Nat} {x : Int32} (hx : lv[i]? = some (some (.int x))) (hd : decode cc pc = .ok (.iload i, 2)) (k : vs_G p l e R s m args below meth c b D aC nL Q kc ks mem (pc + 2) lv (.int x :: st)) : vs_G p l e R s m args below meth c b D aC nL Q kc ks mem (pc) lv st := fun H locs ls hP hS hl => lv_iload C.1 C.2.1 hd (hl.2.2 _ _ hx) (k H locs ls hP hS hl)
theorem vs_lload_n (C : vs_X p s m args meth c b D aC own cc nL) {i : Fin 4} {x : Int64} (hx : lv[(i : Nat)]? = some (some (.long x))) (hd : decode cc pc = .ok (.lload_n i, 1)) (k : vs_G p l e R s m args below meth c b D aC nL Q kc ks mem (pc + 1) lv (.long x :: st)) : vs_G p l e R s m args below meth c b D aC nL Q kc ks mem (pc) lv st := fun H locs ls hP hS hl => lv_lload_n C.1 C.2.1 hd rfl (hl.2.2 _ _ hx) (k H locs ls hP hS hl)
theorem vs_lload (C : vs_X p s m args meth c b D aC own cc nL) {i : Nat} {x : Int64} (hx : lv[i]? = some (some (.long x))) (hd : decode cc pc = .ok (.lload i, 2)) (k : vs_G p l e R s m args below meth c b D aC nL Q kc ks mem (pc + 2) lv (.long x :: st)) : vs_G p l e R s m args below meth c b D aC nL Q kc ks mem (pc) lv st := fun H locs ls hP hS hl => lv_lload C.1 C.2.1 hd (hl.2.2 _ _ hx) (k H locs ls hP hS hl)
theorem vs_fload_n (C : vs_X p s m args meth c b D aC own cc nL) {i : Fin 4} {x : UInt32} (hx : lv[(i : Nat)]? = some (some (.float x))) (hd : decode cc pc = .ok (.fload_n i, 1)) (k : vs_G p l e R s m args below meth c b D aC nL Q kc ks mem (pc + 1) lv (.float x :: st)) : vs_G p l e R s m args below meth c b D aC nL Q kc ks mem (pc) lv st := fun H locs ls hP hS hl => lv_fload_n C.1 C.2.1 hd rfl (hl.2.2 _ _ hx) (k H locs ls hP hS hl)
theorem vs_fload (C : vs_X p s m args meth c b D aC own cc nL) {i : Nat} {x : UInt32} (hx : lv[i]? = some (some (.float x))) (hd : decode cc pc = .ok (.fload i, 2)) (k : vs_G p l e R s m args below meth c b D aC nL Q kc ks mem (pc + 2) lv (.float x :: st)) : vs_G p l e R s m args below meth c b D aC nL Q kc ks mem (pc) lv st := fun H locs ls hP hS hl => lv_fload C.1 C.2.1 hd (hl.2.2 _ _ hx) (k H locs ls hP hS hl)
theorem vs_dload_n (C : vs_X p s m args meth c b D aC own cc nL) {i : Fin 4} {x : UInt64} (hx : lv[(i : Nat)]? = some (some (.double x))) (hd : decode cc pc = .ok (.dload_n i, 1)) (k : vs_G p l e R s m args below meth c b D aC nL Q kc ks mem (pc + 1) lv (.double x :: st)) : vs_G p l e R s m args below meth c b D aC nL Q kc ks mem (pc) lv st := fun H locs ls hP hS hl => lv_dload_n C.1 C.2.1 hd rfl (hl.2.2 _ _ hx) (k H locs ls hP hS hl)
theorem vs_dload (C : vs_X p s m args meth c b D aC own cc nL) {i : Nat} {x : UInt64} (hx : lv[i]? = some (some (.double x))) (hd : decode cc pc = .ok (.dload i, 2)) (k : vs_G p l e R s m args below meth c b D aC nL Q kc ks mem (pc + 2) lv (.double x :: st)) : vs_G p l e R s m args below meth c b D aC nL Q kc ks mem (pc) lv st := fun H locs ls hP hS hl => lv_dload C.1 C.2.1 hd (hl.2.2 _ _ hx) (k H locs ls hP hS hl)
theorem vs_aload_n (C : vs_X p s m args meth c b D aC own cc nL) {i : Fin 4} {x : Nat} (hx : lv[(i : Nat)]? = some (some (.ref x))) (hd : decode cc pc = .ok (.aload_n i, 1)) (k : vs_G p l e R s m args below meth c b D aC nL Q kc ks mem (pc + 1) lv (.ref x :: st)) : vs_G p l e R s m args below meth c b D aC nL Q kc ks mem (pc) lv st := fun H locs ls hP hS hl => lv_aload_n C.1 C.2.1 hd rfl (hl.2.2 _ _ hx) (k H locs ls hP hS hl)
theorem vs_aload (C : vs_X p s m args meth c b D aC own cc nL) {i : Nat} {x : Nat} (hx : lv[i]? = some (some (.ref x))) (hd : decode cc pc = .ok (.aload i, 2)) (k : vs_G p l e R s m args below meth c b D aC nL Q kc ks mem (pc + 2) lv (.ref x :: st)) : vs_G p l e R s m args below meth c b D aC nL Q kc ks mem (pc) lv st := fun H locs ls hP hS hl => lv_aload C.1 C.2.1 hd (hl.2.2 _ _ hx) (k H locs ls hP hS hl)
theorem vs_aload_nA (C : vs_X p s m args meth c b D aC own cc nL) {i : Fin 4} {x : Nat} (hx : lv[(i : Nat)]? = some (some (.retAddr x))) (hd : decode cc pc = .ok (.aload_n i, 1)) (k : vs_G p l e R s m args below meth c b D aC nL Q kc ks mem (pc + 1) lv (.retAddr x :: st)) : vs_G p l e R s m args below meth c b D aC nL Q kc ks mem (pc) lv st := fun H locs ls hP hS hl => lv_aload_n C.1 C.2.1 hd rfl (hl.2.2 _ _ hx) (k H locs ls hP hS hl)
theorem vs_istore_n (C : vs_X p s m args meth c b D aC own cc nL) {i : Fin 4} {x : Int32} (hd : decode cc pc = .ok (.istore_n i, 1)) (hn : (i : Nat) < nL) (k : vs_G p l e R s m args below meth c b D aC nL Q kc ks mem (pc + 1) (vs_s1 lv (i : Nat) (.int x)) st) : vs_G p l e R s m args below meth c b D aC nL Q kc ks mem (pc) lv (.int x :: st) := fun H locs ls hP hS hl => lv_istore_n C.1 C.2.1 hd rfl (vs_l_has hl) hn rfl (fun ls' hl' => k H locs ls' hP hS (vs_st1 (b := b) (v := .int x) hl'))
theorem vs_istore (C : vs_X p s m args meth c b D aC own cc nL) {i : Nat} {x : Int32} (hd : decode cc pc = .ok (.istore i, 2)) (hn : i < nL) (k : vs_G p l e R s m args below meth c b D aC nL Q kc ks mem (pc + 2) (vs_s1 lv i (.int x)) st) : vs_G p l e R s m args below meth c b D aC nL Q kc ks mem (pc) lv (.int x :: st) := fun H locs ls hP hS hl => lv_istore C.1 C.2.1 hd (vs_l_has hl) hn rfl (fun ls' hl' => k H locs ls' hP hS (vs_st1 (b := b) (v := .int x) hl'))
theorem vs_lstore_n (C : vs_X p s m args meth c b D aC own cc nL) {i : Fin 4} {x : Int64} (hd : decode cc pc = .ok (.lstore_n i, 1)) (hn : (i : Nat) + 1 < nL) (k : vs_G p l e R s m args below meth c b D aC nL Q kc ks mem (pc + 1) (vs_s2 lv (i : Nat) (.long x)) st) : vs_G p l e R s m args below meth c b D aC nL Q kc ks mem (pc) lv (.long x :: st) := fun H locs ls hP hS hl => lv_lstore_n C.1 C.2.1 hd rfl (vs_l_has hl) hn rfl (fun ls' hl' => k H locs ls' hP hS (vs_st2 (b := b) (v := .long x) hl'))
theorem vs_lstore (C : vs_X p s m args meth c b D aC own cc nL) {i : Nat} {x : Int64} (hd : decode cc pc = .ok (.lstore i, 2)) (hn : i + 1 < nL) (k : vs_G p l e R s m args below meth c b D aC nL Q kc ks mem (pc + 2) (vs_s2 lv i (.long x)) st) : vs_G p l e R s m args below meth c b D aC nL Q kc ks mem (pc) lv (.long x :: st) := fun H locs ls hP hS hl => lv_lstore C.1 C.2.1 hd (vs_l_has hl) hn rfl (fun ls' hl' => k H locs ls' hP hS (vs_st2 (b := b) (v := .long x) hl'))
theorem vs_fstore_n (C : vs_X p s m args meth c b D aC own cc nL) {i : Fin 4} {x : UInt32} (hd : decode cc pc = .ok (.fstore_n i, 1)) (hn : (i : Nat) < nL) (k : vs_G p l e R s m args below meth c b D aC nL Q kc ks mem (pc + 1) (vs_s1 lv (i : Nat) (.float x)) st) : vs_G p l e R s m args below meth c b D aC nL Q kc ks mem (pc) lv (.float x :: st) := fun H locs ls hP hS hl => lv_fstore_n C.1 C.2.1 hd rfl (vs_l_has hl) hn rfl (fun ls' hl' => k H locs ls' hP hS (vs_st1 (b := b) (v := .float x) hl'))
theorem vs_fstore (C : vs_X p s m args meth c b D aC own cc nL) {i : Nat} {x : UInt32} (hd : decode cc pc = .ok (.fstore i, 2)) (hn : i < nL) (k : vs_G p l e R s m args below meth c b D aC nL Q kc ks mem (pc + 2) (vs_s1 lv i (.float x)) st) : vs_G p l e R s m args below meth c b D aC nL Q kc ks mem (pc) lv (.float x :: st) := fun H locs ls hP hS hl => lv_fstore C.1 C.2.1 hd (vs_l_has hl) hn rfl (fun ls' hl' => k H locs ls' hP hS (vs_st1 (b := b) (v := .float x) hl'))
theorem vs_dstore_n (C : vs_X p s m args meth c b D aC own cc nL) {i : Fin 4} {x : UInt64} (hd : decode cc pc = .ok (.dstore_n i, 1)) (hn : (i : Nat) + 1 < nL) (k : vs_G p l e R s m args below meth c b D aC nL Q kc ks mem (pc + 1) (vs_s2 lv (i : Nat) (.double x)) st) : vs_G p l e R s m args below meth c b D aC nL Q kc ks mem (pc) lv (.double x :: st) := fun H locs ls hP hS hl => lv_dstore_n C.1 C.2.1 hd rfl (vs_l_has hl) hn rfl (fun ls' hl' => k H locs ls' hP hS (vs_st2 (b := b) (v := .double x) hl'))
theorem vs_dstore (C : vs_X p s m args meth c b D aC own cc nL) {i : Nat} {x : UInt64} (hd : decode cc pc = .ok (.dstore i, 2)) (hn : i + 1 < nL) (k : vs_G p l e R s m args below meth c b D aC nL Q kc ks mem (pc + 2) (vs_s2 lv i (.double x)) st) : vs_G p l e R s m args below meth c b D aC nL Q kc ks mem (pc) lv (.double x :: st) := fun H locs ls hP hS hl => lv_dstore C.1 C.2.1 hd (vs_l_has hl) hn rfl (fun ls' hl' => k H locs ls' hP hS (vs_st2 (b := b) (v := .double x) hl'))
theorem vs_astore_n (C : vs_X p s m args meth c b D aC own cc nL) {i : Fin 4} {x : Nat} (hd : decode cc pc = .ok (.astore_n i, 1)) (hn : (i : Nat) < nL) (k : vs_G p l e R s m args below meth c b D aC nL Q kc ks mem (pc + 1) (vs_s1 lv (i : Nat) (.ref x)) st) : vs_G p l e R s m args below meth c b D aC nL Q kc ks mem (pc) lv (.ref x :: st) := fun H locs ls hP hS hl => lv_astore_n C.1 C.2.1 hd rfl (vs_l_has hl) hn rfl (fun ls' hl' => k H locs ls' hP hS (vs_st1 (b := b) (v := .ref x) hl'))
theorem vs_astore (C : vs_X p s m args meth c b D aC own cc nL) {i : Nat} {x : Nat} (hd : decode cc pc = .ok (.astore i, 2)) (hn : i < nL) (k : vs_G p l e R s m args below meth c b D aC nL Q kc ks mem (pc + 2) (vs_s1 lv i (.ref x)) st) : vs_G p l e R s m args below meth c b D aC nL Q kc ks mem (pc) lv (.ref x :: st) := fun H locs ls hP hS hl => lv_astore C.1 C.2.1 hd (vs_l_has hl) hn rfl (fun ls' hl' => k H locs ls' hP hS (vs_st1 (b := b) (v := .ref x) hl'))
theorem vs_iinc (C : vs_X p s m args meth c b D aC own cc nL) {i : Nat} {n : Int} {x v : Int32} (hd : decode cc pc = .ok (.iinc i n, 3)) (hx : lv[i]? = some (some (.int x))) (hv : x + Int32.ofInt n = v) (hn : i < nL) (k : vs_G p l e R s m args below meth c b D aC nL Q kc ks mem (pc + 3) (vs_s1 lv i (.int v)) st) : vs_G p l e R s m args below meth c b D aC nL Q kc ks mem (pc) lv st := fun H locs ls hP hS hl => by
  obtain ⟨q, hq⟩ := List.getElem?_of_mem (vs_a_in.mpr ⟨_, hx, rfl⟩ : (i, vs_v b (.int x)) ∈ vs_a b lv)
  exact lv_iinc C.1 C.2.1 hd (vs_l_has hl) (k := q) hq hv hn rfl (fun ls' hl' => k H locs ls' hP hS (vs_st1 (b := b) (v := .int v) hl'))
theorem vs_iadd (C : vs_X p s m args meth c b D aC own cc nL) {x y : Int32}  (hd : decode cc pc = .ok (.iadd, 1)) (k : vs_G p l e R s m args below meth c b D aC nL Q kc ks mem (pc + 1) lv (.int (x + y) :: st)) : vs_G p l e R s m args below meth c b D aC nL Q kc ks mem (pc) lv (.int y :: .int x :: st) := fun H locs ls hP hS hl => lv_iadd C.1 C.2.1 hd (k H locs ls hP hS hl)
theorem vs_isub (C : vs_X p s m args meth c b D aC own cc nL) {x y : Int32}  (hd : decode cc pc = .ok (.isub, 1)) (k : vs_G p l e R s m args below meth c b D aC nL Q kc ks mem (pc + 1) lv (.int (x - y) :: st)) : vs_G p l e R s m args below meth c b D aC nL Q kc ks mem (pc) lv (.int y :: .int x :: st) := fun H locs ls hP hS hl => lv_isub C.1 C.2.1 hd (k H locs ls hP hS hl)
theorem vs_imul (C : vs_X p s m args meth c b D aC own cc nL) {x y : Int32}  (hd : decode cc pc = .ok (.imul, 1)) (k : vs_G p l e R s m args below meth c b D aC nL Q kc ks mem (pc + 1) lv (.int (x * y) :: st)) : vs_G p l e R s m args below meth c b D aC nL Q kc ks mem (pc) lv (.int y :: .int x :: st) := fun H locs ls hP hS hl => lv_imul C.1 C.2.1 hd (k H locs ls hP hS hl)
theorem vs_iand (C : vs_X p s m args meth c b D aC own cc nL) {x y : Int32}  (hd : decode cc pc = .ok (.iand, 1)) (k : vs_G p l e R s m args below meth c b D aC nL Q kc ks mem (pc + 1) lv (.int (x &&& y) :: st)) : vs_G p l e R s m args below meth c b D aC nL Q kc ks mem (pc) lv (.int y :: .int x :: st) := fun H locs ls hP hS hl => lv_iand C.1 C.2.1 hd (k H locs ls hP hS hl)
theorem vs_ior (C : vs_X p s m args meth c b D aC own cc nL) {x y : Int32}  (hd : decode cc pc = .ok (.ior, 1)) (k : vs_G p l e R s m args below meth c b D aC nL Q kc ks mem (pc + 1) lv (.int (x ||| y) :: st)) : vs_G p l e R s m args below meth c b D aC nL Q kc ks mem (pc) lv (.int y :: .int x :: st) := fun H locs ls hP hS hl => lv_ior C.1 C.2.1 hd (k H locs ls hP hS hl)
theorem vs_ixor (C : vs_X p s m args meth c b D aC own cc nL) {x y : Int32}  (hd : decode cc pc = .ok (.ixor, 1)) (k : vs_G p l e R s m args below meth c b D aC nL Q kc ks mem (pc + 1) lv (.int (x ^^^ y) :: st)) : vs_G p l e R s m args below meth c b D aC nL Q kc ks mem (pc) lv (.int y :: .int x :: st) := fun H locs ls hP hS hl => lv_ixor C.1 C.2.1 hd (k H locs ls hP hS hl)
theorem vs_ladd (C : vs_X p s m args meth c b D aC own cc nL) {x y : Int64}  (hd : decode cc pc = .ok (.ladd, 1)) (k : vs_G p l e R s m args below meth c b D aC nL Q kc ks mem (pc + 1) lv (.long (x + y) :: st)) : vs_G p l e R s m args below meth c b D aC nL Q kc ks mem (pc) lv (.long y :: .long x :: st) := fun H locs ls hP hS hl => lv_ladd C.1 C.2.1 hd (k H locs ls hP hS hl)
theorem vs_lsub (C : vs_X p s m args meth c b D aC own cc nL) {x y : Int64}  (hd : decode cc pc = .ok (.lsub, 1)) (k : vs_G p l e R s m args below meth c b D aC nL Q kc ks mem (pc + 1) lv (.long (x - y) :: st)) : vs_G p l e R s m args below meth c b D aC nL Q kc ks mem (pc) lv (.long y :: .long x :: st) := fun H locs ls hP hS hl => lv_lsub C.1 C.2.1 hd (k H locs ls hP hS hl)
theorem vs_land (C : vs_X p s m args meth c b D aC own cc nL) {x y : Int64}  (hd : decode cc pc = .ok (.land, 1)) (k : vs_G p l e R s m args below meth c b D aC nL Q kc ks mem (pc + 1) lv (.long (x &&& y) :: st)) : vs_G p l e R s m args below meth c b D aC nL Q kc ks mem (pc) lv (.long y :: .long x :: st) := fun H locs ls hP hS hl => lv_land C.1 C.2.1 hd (k H locs ls hP hS hl)
theorem vs_lor (C : vs_X p s m args meth c b D aC own cc nL) {x y : Int64}  (hd : decode cc pc = .ok (.lor, 1)) (k : vs_G p l e R s m args below meth c b D aC nL Q kc ks mem (pc + 1) lv (.long (x ||| y) :: st)) : vs_G p l e R s m args below meth c b D aC nL Q kc ks mem (pc) lv (.long y :: .long x :: st) := fun H locs ls hP hS hl => lv_lor C.1 C.2.1 hd (k H locs ls hP hS hl)
theorem vs_lxor (C : vs_X p s m args meth c b D aC own cc nL) {x y : Int64}  (hd : decode cc pc = .ok (.lxor, 1)) (k : vs_G p l e R s m args below meth c b D aC nL Q kc ks mem (pc + 1) lv (.long (x ^^^ y) :: st)) : vs_G p l e R s m args below meth c b D aC nL Q kc ks mem (pc) lv (.long y :: .long x :: st) := fun H locs ls hP hS hl => lv_lxor C.1 C.2.1 hd (k H locs ls hP hS hl)
theorem vs_irem (C : vs_X p s m args meth c b D aC own cc nL) {x y : Int32} (hne : ¬ y = 0) (hd : decode cc pc = .ok (.irem, 1)) (k : vs_G p l e R s m args below meth c b D aC nL Q kc ks mem (pc + 1) lv (.int (x - x / y * y) :: st)) : vs_G p l e R s m args below meth c b D aC nL Q kc ks mem (pc) lv (.int y :: .int x :: st) := fun H locs ls hP hS hl => lv_irem C.1 C.2.1 hd hne (k H locs ls hP hS hl)
theorem vs_ishl (C : vs_X p s m args meth c b D aC own cc nL) {x y : Int32} (hd : decode cc pc = .ok (.ishl, 1)) (k : vs_G p l e R s m args below meth c b D aC nL Q kc ks mem (pc + 1) lv (.int (x <<< (y &&& 31)) :: st)) : vs_G p l e R s m args below meth c b D aC nL Q kc ks mem (pc) lv (.int y :: .int x :: st) := fun H locs ls hP hS hl => lv_ishl C.1 C.2.1 hd (k H locs ls hP hS hl)
theorem vs_ishr (C : vs_X p s m args meth c b D aC own cc nL) {x y : Int32} (hd : decode cc pc = .ok (.ishr, 1)) (k : vs_G p l e R s m args below meth c b D aC nL Q kc ks mem (pc + 1) lv (.int (x >>> (y &&& 31)) :: st)) : vs_G p l e R s m args below meth c b D aC nL Q kc ks mem (pc) lv (.int y :: .int x :: st) := fun H locs ls hP hS hl => lv_ishr C.1 C.2.1 hd (k H locs ls hP hS hl)
theorem vs_iushr (C : vs_X p s m args meth c b D aC own cc nL) {x y : Int32} (hd : decode cc pc = .ok (.iushr, 1)) (k : vs_G p l e R s m args below meth c b D aC nL Q kc ks mem (pc + 1) lv (.int ((x.toUInt32 >>> (y.toUInt32 &&& Int32.toUInt32 31)).toInt32) :: st)) : vs_G p l e R s m args below meth c b D aC nL Q kc ks mem (pc) lv (.int y :: .int x :: st) := fun H locs ls hP hS hl => lv_iushr C.1 C.2.1 hd rfl (k H locs ls hP hS hl)
theorem vs_lushr (C : vs_X p s m args meth c b D aC own cc nL) {x : Int64} {y : Int32} (hd : decode cc pc = .ok (.lushr, 1)) (k : vs_G p l e R s m args below meth c b D aC nL Q kc ks mem (pc + 1) lv (.long ((x.toUInt64 >>> (y.toInt64.toUInt64 &&& Int64.toUInt64 63)).toInt64) :: st)) : vs_G p l e R s m args below meth c b D aC nL Q kc ks mem (pc) lv (.int y :: .long x :: st) := fun H locs ls hP hS hl => lv_lushr C.1 C.2.1 hd rfl (k H locs ls hP hS hl)
theorem vs_lshl (C : vs_X p s m args meth c b D aC own cc nL) {x : Int64} {y : Int32} (hd : decode cc pc = .ok (.lshl, 1)) (k : vs_G p l e R s m args below meth c b D aC nL Q kc ks mem (pc + 1) lv (.long (x <<< (y.toInt64 &&& 63)) :: st)) : vs_G p l e R s m args below meth c b D aC nL Q kc ks mem (pc) lv (.int y :: .long x :: st) := fun H locs ls hP hS hl => lv_lshl C.1 C.2.1 hd rfl (k H locs ls hP hS hl)
theorem vs_lneg (C : vs_X p s m args meth c b D aC own cc nL) {x : Int64} (hd : decode cc pc = .ok (.lneg, 1)) (k : vs_G p l e R s m args below meth c b D aC nL Q kc ks mem (pc + 1) lv (.long (-x) :: st)) : vs_G p l e R s m args below meth c b D aC nL Q kc ks mem (pc) lv (.long x :: st) := fun H locs ls hP hS hl => lv_lneg C.1 C.2.1 hd (k H locs ls hP hS hl)
theorem vs_i2l (C : vs_X p s m args meth c b D aC own cc nL) {x : Int32} (hd : decode cc pc = .ok (.i2l, 1)) (k : vs_G p l e R s m args below meth c b D aC nL Q kc ks mem (pc + 1) lv (.long x.toInt64 :: st)) : vs_G p l e R s m args below meth c b D aC nL Q kc ks mem (pc) lv (.int x :: st) := fun H locs ls hP hS hl => lv_i2l C.1 C.2.1 hd rfl (k H locs ls hP hS hl)
theorem vs_l2i (C : vs_X p s m args meth c b D aC own cc nL) {x : Int64} (hd : decode cc pc = .ok (.l2i, 1)) (k : vs_G p l e R s m args below meth c b D aC nL Q kc ks mem (pc + 1) lv (.int x.toInt32 :: st)) : vs_G p l e R s m args below meth c b D aC nL Q kc ks mem (pc) lv (.long x :: st) := fun H locs ls hP hS hl => lv_l2i C.1 C.2.1 hd rfl (k H locs ls hP hS hl)
theorem vs_i2f (C : vs_X p s m args meth c b D aC own cc nL) {x : Int32} (hd : decode cc pc = .ok (.i2f, 1)) (k : vs_G p l e R s m args below meth c b D aC nL Q kc ks mem (pc + 1) lv (.float (FP.i2f x) :: st)) : vs_G p l e R s m args below meth c b D aC nL Q kc ks mem (pc) lv (.int x :: st) := fun H locs ls hP hS hl => lv_i2f C.1 C.2.1 hd (k H locs ls hP hS hl)
theorem vs_i2d (C : vs_X p s m args meth c b D aC own cc nL) {x : Int32} (hd : decode cc pc = .ok (.i2d, 1)) (k : vs_G p l e R s m args below meth c b D aC nL Q kc ks mem (pc + 1) lv (.double (FP.i2d x) :: st)) : vs_G p l e R s m args below meth c b D aC nL Q kc ks mem (pc) lv (.int x :: st) := fun H locs ls hP hS hl => lv_i2d C.1 C.2.1 hd (k H locs ls hP hS hl)
theorem vs_f2i (C : vs_X p s m args meth c b D aC own cc nL) {x : UInt32} (hd : decode cc pc = .ok (.f2i, 1)) (k : vs_G p l e R s m args below meth c b D aC nL Q kc ks mem (pc + 1) lv (.int (FP.f2i x) :: st)) : vs_G p l e R s m args below meth c b D aC nL Q kc ks mem (pc) lv (.float x :: st) := fun H locs ls hP hS hl => lv_f2i C.1 C.2.1 hd (k H locs ls hP hS hl)
theorem vs_d2f (C : vs_X p s m args meth c b D aC own cc nL) {x : UInt64} (hne : vf_n32 (FP.d2f x)) (hd : decode cc pc = .ok (.d2f, 1)) (k : vs_G p l e R s m args below meth c b D aC nL Q kc ks mem (pc + 1) lv (.float (FP.d2f x) :: st)) : vs_G p l e R s m args below meth c b D aC nL Q kc ks mem (pc) lv (.double x :: st) := fun H locs ls hP hS hl => lv_d2f C.1 C.2.1 hd hne (k H locs ls hP hS hl)
theorem vs_f2d (C : vs_X p s m args meth c b D aC own cc nL) {x : UInt32} (hne : vf_n64 (FP.f2d x)) (hd : decode cc pc = .ok (.f2d, 1)) (k : vs_G p l e R s m args below meth c b D aC nL Q kc ks mem (pc + 1) lv (.double (FP.f2d x) :: st)) : vs_G p l e R s m args below meth c b D aC nL Q kc ks mem (pc) lv (.float x :: st) := fun H locs ls hP hS hl => lv_f2d C.1 C.2.1 hd hne (k H locs ls hP hS hl)
theorem vs_fadd (C : vs_X p s m args meth c b D aC own cc nL) {x y : UInt32} (hne : vf_n32 (FP.fadd x y)) (hd : decode cc pc = .ok (.fadd, 1)) (k : vs_G p l e R s m args below meth c b D aC nL Q kc ks mem (pc + 1) lv (.float (FP.fadd x y) :: st)) : vs_G p l e R s m args below meth c b D aC nL Q kc ks mem (pc) lv (.float y :: .float x :: st) := fun H locs ls hP hS hl => lv_fadd C.1 C.2.1 hd hne (k H locs ls hP hS hl)
theorem vs_fmul (C : vs_X p s m args meth c b D aC own cc nL) {x y : UInt32} (hne : vf_n32 (FP.fmul x y)) (hd : decode cc pc = .ok (.fmul, 1)) (k : vs_G p l e R s m args below meth c b D aC nL Q kc ks mem (pc + 1) lv (.float (FP.fmul x y) :: st)) : vs_G p l e R s m args below meth c b D aC nL Q kc ks mem (pc) lv (.float y :: .float x :: st) := fun H locs ls hP hS hl => lv_fmul C.1 C.2.1 hd hne (k H locs ls hP hS hl)
theorem vs_fdiv (C : vs_X p s m args meth c b D aC own cc nL) {x y : UInt32} (hne : vf_n32 (FP.fdiv x y)) (hd : decode cc pc = .ok (.fdiv, 1)) (k : vs_G p l e R s m args below meth c b D aC nL Q kc ks mem (pc + 1) lv (.float (FP.fdiv x y) :: st)) : vs_G p l e R s m args below meth c b D aC nL Q kc ks mem (pc) lv (.float y :: .float x :: st) := fun H locs ls hP hS hl => lv_fdiv C.1 C.2.1 hd hne (k H locs ls hP hS hl)
theorem vs_dmul (C : vs_X p s m args meth c b D aC own cc nL) {x y : UInt64} (hne : vf_n64 (FP.dmul x y)) (hd : decode cc pc = .ok (.dmul, 1)) (k : vs_G p l e R s m args below meth c b D aC nL Q kc ks mem (pc + 1) lv (.double (FP.dmul x y) :: st)) : vs_G p l e R s m args below meth c b D aC nL Q kc ks mem (pc) lv (.double y :: .double x :: st) := fun H locs ls hP hS hl => lv_dmul C.1 C.2.1 hd hne (k H locs ls hP hS hl)
theorem vs_fcmp (C : vs_X p s m args meth c b D aC own cc nL) {x y : UInt32} {op : CmpOp} (hd : decode cc pc = .ok (.fcmp op, 1)) (k : vs_G p l e R s m args below meth c b D aC nL Q kc ks mem (pc + 1) lv (.int (Op.cmpValue (FP.fcmp x y) op) :: st)) : vs_G p l e R s m args below meth c b D aC nL Q kc ks mem (pc) lv (.float y :: .float x :: st) := fun H locs ls hP hS hl => lv_fcmp C.1 C.2.1 hd (k H locs ls hP hS hl)
theorem vs_dcmp (C : vs_X p s m args meth c b D aC own cc nL) {x y : UInt64} {op : CmpOp} (hd : decode cc pc = .ok (.dcmp op, 1)) (k : vs_G p l e R s m args below meth c b D aC nL Q kc ks mem (pc + 1) lv (.int (Op.cmpValue (FP.dcmp x y) op) :: st)) : vs_G p l e R s m args below meth c b D aC nL Q kc ks mem (pc) lv (.double y :: .double x :: st) := fun H locs ls hP hS hl => lv_dcmp C.1 C.2.1 hd (k H locs ls hP hS hl)
theorem vs_dup (C : vs_X p s m args meth c b D aC own cc nL) {v : Value} (hc : v.category = 1) (hd : decode cc pc = .ok (.dup, 1)) (k : vs_G p l e R s m args below meth c b D aC nL Q kc ks mem (pc + 1) lv (v :: v :: st)) : vs_G p l e R s m args below meth c b D aC nL Q kc ks mem (pc) lv (v :: st) := fun H locs ls hP hS hl => lv_dup C.1 C.2.1 hd (by rw [vs_v_cat]; exact hc) (k H locs ls hP hS hl)
theorem vs_dup2 (C : vs_X p s m args meth c b D aC own cc nL) {u v : Value} (hu : u.category = 1) (hv : v.category = 1) (hd : decode cc pc = .ok (.dup2, 1)) (k : vs_G p l e R s m args below meth c b D aC nL Q kc ks mem (pc + 1) lv (u :: v :: u :: v :: st)) : vs_G p l e R s m args below meth c b D aC nL Q kc ks mem (pc) lv (u :: v :: st) := fun H locs ls hP hS hl => lv_dup2_11 C.1 C.2.1 hd (by rw [vs_v_cat]; exact hu) (by rw [vs_v_cat]; exact hv) (k H locs ls hP hS hl)
theorem vs_lcmp (C : vs_X p s m args meth c b D aC own cc nL) {x y : Int64} (hd : decode cc pc = .ok (.lcmp, 1)) (k : vs_G p l e R s m args below meth c b D aC nL Q kc ks mem (pc + 1) lv (.int (lg_cmp x y) :: st)) : vs_G p l e R s m args below meth c b D aC nL Q kc ks mem (pc) lv (.long y :: .long x :: st) := fun H locs ls hP hS hl => W.lcmp C.1 C.2.1 hd (k H locs ls hP hS hl)
theorem vs_tableIn (C : vs_X p s m args meth c b D aC own cc nL) {dflt lo hi : Int} {offs : Array Int} {len : Nat} {x : Int32} {off : Int} {tgt : Nat} (hd : decode cc pc = .ok (.tableswitch dflt lo hi offs, len)) (h1 : ¬ x.toInt < lo) (h2 : ¬ hi < x.toInt) (ho : offs[(x.toInt - lo).toNat]? = some off) (ht : (pc : Int) + off = (tgt : Int)) (k : vs_G p l e R s m args below meth c b D aC nL Q kc ks mem (tgt) lv st) : vs_G p l e R s m args below meth c b D aC nL Q kc ks mem (pc) lv (.int x :: st) := fun H locs ls hP hS hl => lv_tableIn C.1 C.2.1 hd h1 h2 ho ht (k H locs ls hP hS hl)
theorem vs_tableOut (C : vs_X p s m args meth c b D aC own cc nL) {dflt lo hi : Int} {offs : Array Int} {len : Nat} {x : Int32} {tgt : Nat} (hd : decode cc pc = .ok (.tableswitch dflt lo hi offs, len)) (h : x.toInt < lo ∨ hi < x.toInt) (ht : (pc : Int) + dflt = (tgt : Int)) (k : vs_G p l e R s m args below meth c b D aC nL Q kc ks mem (tgt) lv st) : vs_G p l e R s m args below meth c b D aC nL Q kc ks mem (pc) lv (.int x :: st) := fun H locs ls hP hS hl => lv_tableOut C.1 C.2.1 hd h ht (k H locs ls hP hS hl)
theorem vs_if_eq (C : vs_X p s m args meth c b D aC own cc nL) {x : Int32} {off : Int} {tgt : Nat} (hd : decode cc pc = .ok (.ifCond .eq off, 3)) (ht : (pc : Int) + off = (tgt : Int)) (kt : x = 0 → vs_G p l e R s m args below meth c b D aC nL Q kc ks mem (tgt) lv st) (kf : ¬ (x = 0) → vs_G p l e R s m args below meth c b D aC nL Q kc ks mem (pc + 3) lv st) : vs_G p l e R s m args below meth c b D aC nL Q kc ks mem (pc) lv (.int x :: st) := fun H locs ls hP hS hl => lv_if_eq C.1 C.2.1 hd ht (fun h => kt h H locs ls hP hS hl) (fun h => kf h H locs ls hP hS hl)
theorem vs_icmp_eq (C : vs_X p s m args meth c b D aC own cc nL) {x y : Int32} {off : Int} {tgt : Nat} (hd : decode cc pc = .ok (.if_icmp .eq off, 3)) (ht : (pc : Int) + off = (tgt : Int)) (kt : x = y → vs_G p l e R s m args below meth c b D aC nL Q kc ks mem (tgt) lv st) (kf : ¬ (x = y) → vs_G p l e R s m args below meth c b D aC nL Q kc ks mem (pc + 3) lv st) : vs_G p l e R s m args below meth c b D aC nL Q kc ks mem (pc) lv (.int y :: .int x :: st) := fun H locs ls hP hS hl => lv_icmp_eq C.1 C.2.1 hd ht (fun h => kt h H locs ls hP hS hl) (fun h => kf h H locs ls hP hS hl)
theorem vs_if_ne (C : vs_X p s m args meth c b D aC own cc nL) {x : Int32} {off : Int} {tgt : Nat} (hd : decode cc pc = .ok (.ifCond .ne off, 3)) (ht : (pc : Int) + off = (tgt : Int)) (kt : ¬ x = 0 → vs_G p l e R s m args below meth c b D aC nL Q kc ks mem (tgt) lv st) (kf : x = 0 → vs_G p l e R s m args below meth c b D aC nL Q kc ks mem (pc + 3) lv st) : vs_G p l e R s m args below meth c b D aC nL Q kc ks mem (pc) lv (.int x :: st) := fun H locs ls hP hS hl => lv_if_ne C.1 C.2.1 hd ht (fun h => kt h H locs ls hP hS hl) (fun h => kf h H locs ls hP hS hl)
theorem vs_icmp_ne (C : vs_X p s m args meth c b D aC own cc nL) {x y : Int32} {off : Int} {tgt : Nat} (hd : decode cc pc = .ok (.if_icmp .ne off, 3)) (ht : (pc : Int) + off = (tgt : Int)) (kt : ¬ x = y → vs_G p l e R s m args below meth c b D aC nL Q kc ks mem (tgt) lv st) (kf : x = y → vs_G p l e R s m args below meth c b D aC nL Q kc ks mem (pc + 3) lv st) : vs_G p l e R s m args below meth c b D aC nL Q kc ks mem (pc) lv (.int y :: .int x :: st) := fun H locs ls hP hS hl => lv_icmp_ne C.1 C.2.1 hd ht (fun h => kt h H locs ls hP hS hl) (fun h => kf h H locs ls hP hS hl)
theorem vs_if_lt (C : vs_X p s m args meth c b D aC own cc nL) {x : Int32} {off : Int} {tgt : Nat} (hd : decode cc pc = .ok (.ifCond .lt off, 3)) (ht : (pc : Int) + off = (tgt : Int)) (kt : x < 0 → vs_G p l e R s m args below meth c b D aC nL Q kc ks mem (tgt) lv st) (kf : ¬ (x < 0) → vs_G p l e R s m args below meth c b D aC nL Q kc ks mem (pc + 3) lv st) : vs_G p l e R s m args below meth c b D aC nL Q kc ks mem (pc) lv (.int x :: st) := fun H locs ls hP hS hl => lv_if_lt C.1 C.2.1 hd ht (fun h => kt h H locs ls hP hS hl) (fun h => kf h H locs ls hP hS hl)
theorem vs_icmp_lt (C : vs_X p s m args meth c b D aC own cc nL) {x y : Int32} {off : Int} {tgt : Nat} (hd : decode cc pc = .ok (.if_icmp .lt off, 3)) (ht : (pc : Int) + off = (tgt : Int)) (kt : x < y → vs_G p l e R s m args below meth c b D aC nL Q kc ks mem (tgt) lv st) (kf : ¬ (x < y) → vs_G p l e R s m args below meth c b D aC nL Q kc ks mem (pc + 3) lv st) : vs_G p l e R s m args below meth c b D aC nL Q kc ks mem (pc) lv (.int y :: .int x :: st) := fun H locs ls hP hS hl => lv_icmp_lt C.1 C.2.1 hd ht (fun h => kt h H locs ls hP hS hl) (fun h => kf h H locs ls hP hS hl)
theorem vs_if_ge (C : vs_X p s m args meth c b D aC own cc nL) {x : Int32} {off : Int} {tgt : Nat} (hd : decode cc pc = .ok (.ifCond .ge off, 3)) (ht : (pc : Int) + off = (tgt : Int)) (kt : 0 ≤ x → vs_G p l e R s m args below meth c b D aC nL Q kc ks mem (tgt) lv st) (kf : ¬ (0 ≤ x) → vs_G p l e R s m args below meth c b D aC nL Q kc ks mem (pc + 3) lv st) : vs_G p l e R s m args below meth c b D aC nL Q kc ks mem (pc) lv (.int x :: st) := fun H locs ls hP hS hl => lv_if_ge C.1 C.2.1 hd ht (fun h => kt h H locs ls hP hS hl) (fun h => kf h H locs ls hP hS hl)
theorem vs_icmp_ge (C : vs_X p s m args meth c b D aC own cc nL) {x y : Int32} {off : Int} {tgt : Nat} (hd : decode cc pc = .ok (.if_icmp .ge off, 3)) (ht : (pc : Int) + off = (tgt : Int)) (kt : y ≤ x → vs_G p l e R s m args below meth c b D aC nL Q kc ks mem (tgt) lv st) (kf : ¬ (y ≤ x) → vs_G p l e R s m args below meth c b D aC nL Q kc ks mem (pc + 3) lv st) : vs_G p l e R s m args below meth c b D aC nL Q kc ks mem (pc) lv (.int y :: .int x :: st) := fun H locs ls hP hS hl => lv_icmp_ge C.1 C.2.1 hd ht (fun h => kt h H locs ls hP hS hl) (fun h => kf h H locs ls hP hS hl)
theorem vs_if_gt (C : vs_X p s m args meth c b D aC own cc nL) {x : Int32} {off : Int} {tgt : Nat} (hd : decode cc pc = .ok (.ifCond .gt off, 3)) (ht : (pc : Int) + off = (tgt : Int)) (kt : 0 < x → vs_G p l e R s m args below meth c b D aC nL Q kc ks mem (tgt) lv st) (kf : ¬ (0 < x) → vs_G p l e R s m args below meth c b D aC nL Q kc ks mem (pc + 3) lv st) : vs_G p l e R s m args below meth c b D aC nL Q kc ks mem (pc) lv (.int x :: st) := fun H locs ls hP hS hl => lv_if_gt C.1 C.2.1 hd ht (fun h => kt h H locs ls hP hS hl) (fun h => kf h H locs ls hP hS hl)
theorem vs_icmp_gt (C : vs_X p s m args meth c b D aC own cc nL) {x y : Int32} {off : Int} {tgt : Nat} (hd : decode cc pc = .ok (.if_icmp .gt off, 3)) (ht : (pc : Int) + off = (tgt : Int)) (kt : y < x → vs_G p l e R s m args below meth c b D aC nL Q kc ks mem (tgt) lv st) (kf : ¬ (y < x) → vs_G p l e R s m args below meth c b D aC nL Q kc ks mem (pc + 3) lv st) : vs_G p l e R s m args below meth c b D aC nL Q kc ks mem (pc) lv (.int y :: .int x :: st) := fun H locs ls hP hS hl => lv_icmp_gt C.1 C.2.1 hd ht (fun h => kt h H locs ls hP hS hl) (fun h => kf h H locs ls hP hS hl)
theorem vs_if_le (C : vs_X p s m args meth c b D aC own cc nL) {x : Int32} {off : Int} {tgt : Nat} (hd : decode cc pc = .ok (.ifCond .le off, 3)) (ht : (pc : Int) + off = (tgt : Int)) (kt : x ≤ 0 → vs_G p l e R s m args below meth c b D aC nL Q kc ks mem (tgt) lv st) (kf : ¬ (x ≤ 0) → vs_G p l e R s m args below meth c b D aC nL Q kc ks mem (pc + 3) lv st) : vs_G p l e R s m args below meth c b D aC nL Q kc ks mem (pc) lv (.int x :: st) := fun H locs ls hP hS hl => lv_if_le C.1 C.2.1 hd ht (fun h => kt h H locs ls hP hS hl) (fun h => kf h H locs ls hP hS hl)
theorem vs_icmp_le (C : vs_X p s m args meth c b D aC own cc nL) {x y : Int32} {off : Int} {tgt : Nat} (hd : decode cc pc = .ok (.if_icmp .le off, 3)) (ht : (pc : Int) + off = (tgt : Int)) (kt : x ≤ y → vs_G p l e R s m args below meth c b D aC nL Q kc ks mem (tgt) lv st) (kf : ¬ (x ≤ y) → vs_G p l e R s m args below meth c b D aC nL Q kc ks mem (pc + 3) lv st) : vs_G p l e R s m args below meth c b D aC nL Q kc ks mem (pc) lv (.int y :: .int x :: st) := fun H locs ls hP hS hl => lv_icmp_le C.1 C.2.1 hd ht (fun h => kt h H locs ls hP hS hl) (fun h => kf h H locs ls hP hS hl)
theorem vs_goto (C : vs_X p s m args meth c b D aC own cc nL) {off : Int} {tgt : Nat} (hd : decode cc pc = .ok (.goto off, 3)) (ht : (pc : Int) + off = (tgt : Int)) (k : vs_G p l e R s m args below meth c b D aC nL Q kc ks mem (tgt) lv st) : vs_G p l e R s m args below meth c b D aC nL Q kc ks mem (pc) lv st := fun H locs ls hP hS hl => lv_goto C.1 C.2.1 hd ht (k H locs ls hP hS hl)
end Rows
end
section
theorem vs_w_set0 {b : Nat} {aC : Nat → ClassId} {mem : List vs_C} {i : Nat} {y : vs_C} : vs_w b aC 0 (mem.set i y) = (vs_w b aC 0 mem).set i (b + i, vs_c b aC y) := by
  rw [vs_w_set, Nat.zero_add]
theorem vs_w_app0 {b : Nat} {aC : Nat → ClassId} {mem : List vs_C} {y : vs_C} : vs_w b aC 0 (mem ++ [y]) = vs_w b aC 0 mem ++ [(b + mem.length, vs_c b aC y)] := by
  rw [vs_w_app, Nat.zero_add]
theorem vs_size {b : Nat} {D : va_G} {aC : Nat → ClassId} {mem : List vs_C} {H : Heap} (hP : va_P D vwCl (vs_w b aC 0 mem) H) (hb : b ≤ H.size) : b + mem.length ≤ H.size := by
  cases hm : mem.length with
  | zero => exact hb
  | succ n =>
    have hlt : n < mem.length := by omega
    have := (hP n _ (vs_w_at (b := b) (aC := aC) (List.getElem?_eq_getElem hlt))).lt
    simp only at this
    omega
/-- entry idx of own's pool is field k of class ci, of type ty -/
def vs_F (own : String) (idx ci k : Nat) (ty : FieldType) (fin : Bool) : Prop := ∃ (Cn : String) (T : u_T) (N : Nat) (ty0 : Nat → FieldType), vwCl[ci]? = some (Cn, T, N) ∧ (∀ w ∈ u_ws Cn T N, w ∈ gT) ∧ (∀ k, k < N → parseFieldDescriptor (T k).2.2.1 = some (ty0 k)) ∧ (∀ a, a < N → ∀ b, b < N → a ≠ b → (T a).2.1 ≠ (T b).2.1) ∧ k < N ∧ ty0 k = ty ∧ (T k).2.2.2 = fin ∧ (T k).1 = Cn ∧ (Cond.fieldLink own idx (T k).1 (T k).2.1 (T k).2.2.1 ∈ gT ∨ ∃ host, Cond.fieldLinkNest own idx (T k).1 (T k).2.1 (T k).2.2.1 host ∈ gN)
/-- entry idx of own's pool is class ci, whose new object has the fields fs -/
def vs_N (own : String) (idx ci n : Nat) (fs : List Value) : Prop := ∃ (Cn : String) (T : u_T) (ty0 : Nat → FieldType), vwCl[ci]? = some (Cn, T, n) ∧ (∀ w ∈ u_ws Cn T n, w ∈ gT) ∧ (∀ k, k < n → parseFieldDescriptor (T k).2.2.1 = some (ty0 k)) ∧ Cond.classLink own idx Cn ∈ gT ∧ Cond.instantiable Cn n ∈ gT ∧ Cond.initialized Cn ∈ gT ∧ (∀ j, j < n → defaultValue (ty0 j) = vp_V fs j) ∧ ∀ b, fs.map (vs_v b) = fs
section Heap
variable {p : Program} {l : Launch} {e : Env} {R : Room} {s : State} {m : MethodId} {args : Array Value} {below : List Frame} {meth : Method} {c : Code} {b : Nat} {D : va_G} {aC : Nat → ClassId} {nL : Nat} {Q : State → Prop} {kc ks : Nat} {mem : List vs_C} {pc : Nat} {lv : List (Option Value)} {st : List Value} {own : String} {cc : ByteArray}
theorem vs_get (C : vs_X p s m args meth c b D aC own cc nL) {idx ci k p0 : Nat} {ty : FieldType} {fin : Bool} {fs : List Value} {v : Value} (hF : vs_F own idx ci k ty fin) (hd : decode cc pc = .ok (.getfield idx, 3)) (hm : mem[p0]? = some (.inr (ci, fs))) (hv : fs[k]? = some v) (kk : vs_G p l e R s m args below meth c b D aC nL Q kc ks mem (pc + 3) lv (v :: st)) : vs_G p l e R s m args below meth c b D aC nL Q kc ks mem pc lv (.ref p0 :: st) := by
  intro H locs ls hP hS hl
  obtain ⟨Cn, T, N, ty0, h1, h2, h3, h4, h5, h6, h7, h8, hlk⟩ := hF
  have he := vs_w_at (b := b) (aC := aC) hm
  have hv' : (fs.map (vs_v b))[k]? = some (vs_v b v) := by rw [List.getElem?_map, hv]; rfl
  rcases hlk with hlk | ⟨host, hlk⟩
  · exact va_get (D := D) (ci := ci) (C := Cn) (T := T) (N := N) C.1 C.2.1 C.2.2.2.2.1 h2 C.2.2.2.1 C.2.2.2.2.2.1 hP p0 he h1 k h5 (C.2.2.2.2.1 _ hlk) (fun _ h => h) hv' hd (kk H locs ls hP hS hl)
  · exact va_getN (D := D) (ci := ci) (C := Cn) (T := T) (N := N) C.1 C.2.1 C.2.2.2.2.1 h2 C.2.2.2.1 C.2.2.2.2.2.1 hP p0 he h1 k h5 (va_Nw.use rfl (C.2.2.2.2.2.2.2.2.2 _ hlk)) (fun _ h => h) hv' hd (kk H locs ls hP hS hl)
theorem vs_put (C : vs_X p s m args meth c b D aC own cc nL) {idx ci k p0 : Nat} {ty : FieldType} {fs : List Value} {v : Value} (hF : vs_F own idx ci k ty false) (hd : decode cc pc = .ok (.putfield idx, 3)) (hm : mem[p0]? = some (.inr (ci, fs))) (hn : narrow ty (vs_v b v) = vs_v b v) (hf : fits ty (vs_v b v) = true) (hk : k < fs.length) (kk : vs_G p l e R s m args below meth c b D aC nL Q kc ks (mem.set p0 (.inr (ci, fs.set k v))) (pc + 3) lv st) : vs_G p l e R s m args below meth c b D aC nL Q kc ks mem pc lv (v :: .ref p0 :: st) := by
  intro H locs ls hP hS hl
  obtain ⟨Cn, T, N, ty0, h1, h2, h3, h4, h5, h6, h7, h8, hlk⟩ := hF
  have he := vs_w_at (b := b) (aC := aC) hm
  have hgo : ∀ (H1 : Heap) (locs1 : List Loc), va_P D vwCl ((vs_w b aC 0 mem).set p0 (b + p0, .inr (ci, (fs.map (vs_v b)).set k (vs_v b v)))) H1 → va_D (fun q => b ≤ q) ((vs_w b aC 0 mem).set p0 (b + p0, .inr (ci, (fs.map (vs_v b)).set k (vs_v b v)))) → va_S (fun q => b ≤ q) s.heap H1 locs1 → W p l e R s m args below meth c H1 locs1 kc ks Q (F0 m (pc + 3) ls (st.map (vs_v b))) := by
    intro H1 locs1 hP1 _ hS1
    refine kk H1 locs1 ls ?_ hS1 hl
    rw [vs_w_set0]
    simpa [vs_c, List.map_set] using hP1
  rcases hlk with hlk | ⟨host, hlk⟩
  · exact va_put (D := D) (ci := ci) (C := Cn) (T := T) (N := N) C.1 C.2.1 C.2.2.2.2.1 h2 ty0 h3 h4 C.2.2.2.1 C.2.2.2.2.2.1 hP vs_w_D hS p0 he h1 k h5 (C.2.2.2.2.1 _ hlk) (fun _ h => h) h7 (by rw [← h6]; exact h3 k h5) hn hf (by simpa using hk) hd hgo
  · exact va_putN (D := D) (ci := ci) (C := Cn) (T := T) (N := N) C.1 C.2.1 C.2.2.2.2.1 h2 ty0 h3 h4 C.2.2.2.1 C.2.2.2.2.2.1 hP vs_w_D hS p0 he h1 k h5 (va_Nw.use rfl (C.2.2.2.2.2.2.2.2.2 _ hlk)) (fun _ h => h) h7 (by rw [← h6]; exact h3 k h5) hn hf (by simpa using hk) hd hgo
theorem vs_putF (C : vs_X p s m args meth c b D aC own cc nL) {idx ci k p0 : Nat} {ty : FieldType} {fs : List Value} {v : Value} (hF : vs_F own idx ci k ty true) (hin : meth.name = "<init>") (ho : (vwCl[ci]?).map (fun q => q.1) = some own) (hlk : ∀ Cn T N, vwCl[ci]? = some (Cn, T, N) → Cond.fieldLink own idx (T k).1 (T k).2.1 (T k).2.2.1 ∈ gT) (hd : decode cc pc = .ok (.putfield idx, 3)) (hm : mem[p0]? = some (.inr (ci, fs))) (hn : narrow ty (vs_v b v) = vs_v b v) (hf : fits ty (vs_v b v) = true) (hk : k < fs.length) (kk : vs_G p l e R s m args below meth c b D aC nL Q kc ks (mem.set p0 (.inr (ci, fs.set k v))) (pc + 3) lv st) : vs_G p l e R s m args below meth c b D aC nL Q kc ks mem pc lv (v :: .ref p0 :: st) := by
  intro H locs ls hP hS hl
  obtain ⟨Cn, T, N, ty0, h1, h2, h3, h4, h5, h6, h7, h8, -⟩ := hF
  have he := vs_w_at (b := b) (aC := aC) hm
  have hCn : Cn = own := by rw [h1] at ho; exact Option.some.inj ho
  refine va_putF (D := D) (ci := ci) (C := Cn) (T := T) (N := N) C.1 C.2.1 C.2.2.2.2.1 h2 ty0 h3 h4 C.2.2.2.1 C.2.2.2.2.2.1 hP vs_w_D hS p0 he h1 k h5 (C.2.2.2.2.1 _ (hlk _ _ _ h1)) (fun _ h => h) h7 hin (h8.trans hCn) (by rw [← h6]; exact h3 k h5) hn hf (by simpa using hk) hd ?_
  intro H1 locs1 hP1 _ hS1
  refine kk H1 locs1 ls ?_ hS1 hl
  rw [vs_w_set0]
  simpa [vs_c, List.map_set] using hP1
theorem vs_new (C : vs_X p s m args meth c b D aC own cc nL) {idx ci n : Nat} {fs : List Value} (hN : vs_N own idx ci n fs) (hd : decode cc pc = .ok (.new idx, 3)) (hsz : s.heap.size + kc ≤ b + mem.length) (hcells : kc + 1 ≤ R.cells) (hslots : ks + n ≤ R.slots) (kk : vs_G p l e R s m args below meth c b D aC nL Q (kc + 1) (ks + n) (mem ++ [.inr (ci, fs)]) (pc + 3) lv (.ref mem.length :: st)) : vs_G p l e R s m args below meth c b D aC nL Q kc ks mem pc lv st := by
  intro H locs ls hP hS hl T hT X
  obtain ⟨Cn, Tt, ty0, h1, h2, h3, h4, h5, h6, h7, h8⟩ := hN
  have hup : H.size ≤ s.heap.size + kc := by
    have := X.same.2.2.1
    rw [← hT]
    exact this
  have hlo := vs_size hP (Nat.le_trans C.2.2.2.2.2.2.1 hS.1)
  have hH : H.size = b + mem.length := by omega
  have hKn := C.2.2.2.2.2.1.1 ci _ h1
  refine W.newcK C.1 C.2.1 C.2.2.2.1 (C.2.2.2.2.1 _ h4) (C.2.2.2.2.1 _ h5) (C.2.2.2.2.1 _ h6) (g := F0 m pc ls (st.map (vs_v b))) rfl hd hcells hslots hKn.2.1 hH (fun H1 kC hkC e1 z1 o1 => ?_) T hT X
  refine kk H1 locs ls ?_ ⟨Nat.le_trans hS.1 (by omega), fun x g1 g2 => (o1 x (by have := hS.1; omega)).trans (hS.2.1 x g1 g2), hS.2.2⟩ hl
  rw [vs_w_app0]
  refine va_P.app (hP.kept (fun k x hx => o1 x.1 (by rw [← hH]; exact (hP k x hx).lt))) (fun k x hx => ?_)
  have hz : k < 1 := (List.getElem?_eq_some_iff.mp hx).1
  rw [show k = 0 by omega] at hx
  cases hx
  exact ⟨_, h1, (u_born ty0 C.2.2.2.2.1 h2 hKn hkC e1 h3).to (fun j hj => by show defaultValue (ty0 j) = vp_V (fs.map (vs_v b)) j; rw [h8 b]; exact h7 j hj)⟩
/-- a new array of n: of kind t (its place in vs_t) -/
theorem vs_newa (C : vs_X p s m args meth c b D aC own cc nL) {atype : ArrayType} {ty : FieldType} {t N : Nat} {n : Int32} {a0 : vp_A} (hw : Cond.arrayClass ty ∈ gT) (hty : newarray.typeOf atype = ty) (ht : (vs_t aC)[t]? = some (aC t, ty)) (hobj : ∀ cA U, va_RA U cA ty = (U.vm.findClass ("[" ++ ty.toString) = some cA)) (ha : ∀ cA : ClassId, vp_cell cA a0 = arrV cA N (fun _ => defaultValue ty)) (hd : decode cc pc = .ok (.newarray atype, 2)) (hn : ¬ n < 0) (hN : n.toNatClampNeg = N) (hbytes : N * componentBytes ty ≤ 536870912) (hsz : s.heap.size + kc ≤ b + mem.length) (hcells : kc + 1 ≤ R.cells) (hslots : ks + N ≤ R.slots) (kk : vs_G p l e R s m args below meth c b D aC nL Q (kc + 1) (ks + N) (mem ++ [.inl (t, a0)]) (pc + 2) lv (.ref mem.length :: st)) : vs_G p l e R s m args below meth c b D aC nL Q kc ks mem pc lv (.int n :: st) := by
  intro H locs ls hP hS hl T hT X
  subst hty
  have hup : H.size ≤ s.heap.size + kc := by
    have := X.same.2.2.1
    rw [← hT]
    exact this
  have hlo := vs_size hP (Nat.le_trans C.2.2.2.2.2.2.1 hS.1)
  have hH : H.size = b + mem.length := by omega
  have hra := (C.2.2.2.2.2.1.2 t _ ht).2
  rw [hobj] at hra
  refine va_newaK C.1 C.2.1 (C.2.2.2.2.1 _ hw) (g := F0 m pc ls (.int n :: st.map (vs_v b))) rfl hd rfl hn hN hbytes hcells hslots hH (fun H1 cA e1 z1 o1 hAr hNm => ?_) T hT X
  have hcA : cA = aC t := Option.some.inj (hNm.symm.trans hra)
  subst hcA
  refine kk H1 locs ls ?_ ⟨Nat.le_trans hS.1 (by omega), fun x g1 g2 => (o1 x (by have := hS.1; omega)).trans (hS.2.1 x g1 g2), hS.2.2⟩ hl
  rw [vs_w_app0]
  refine va_P.app (hP.kept (fun k x hx => o1 x.1 (by rw [← hH]; exact (hP k x hx).lt))) (fun k x hx => ?_)
  have hz : k < 1 := (List.getElem?_eq_some_iff.mp hx).1
  rw [show k = 0 by omega] at hx
  cases hx
  show H1[b + mem.length]? = some (vp_cell _ _)
  rw [ha]
  exact e1
end Heap
end
section
section Arr
variable {p : Program} {l : Launch} {e : Env} {R : Room} {s : State} {m : MethodId} {args : Array Value} {below : List Frame} {meth : Method} {c : Code} {b : Nat} {D : va_G} {aC : Nat → ClassId} {nL : Nat} {Q : State → Prop} {kc ks : Nat} {mem : List vs_C} {pc : Nat} {lv : List (Option Value)} {st : List Value} {own : String} {cc : ByteArray}
theorem vs_iald (C : vs_X p s m args meth c b D aC own cc nL) {p0 n : Nat} {f : Nat → Int32} {j : Int32} (hd : decode cc pc = .ok (.iaload, 1)) (hm : mem[p0]? = some (.inl (0, n, .inl f))) (hin : vp_in j n) (kk : vs_G p l e R s m args below meth c b D aC nL Q kc ks mem (pc + 1) lv (.int (f j.toNatClampNeg) :: st)) : vs_G p l e R s m args below meth c b D aC nL Q kc ks mem pc lv (.int j :: .ref p0 :: st) := fun H locs ls hP hS hl => va_iald C.1 C.2.1 C.2.2.2.2.2.1 hP p0 0 (vs_w_at (b := b) (aC := aC) hm) rfl hin hd (kk H locs ls hP hS hl)
theorem vs_iast (C : vs_X p s m args meth c b D aC own cc nL) {p0 n : Nat} {f : Nat → Int32} {j : Int32} {x : Int32} (hd : decode cc pc = .ok (.iastore, 1)) (hm : mem[p0]? = some (.inl (0, n, .inl f))) (hin : vp_in j n) (kk : vs_G p l e R s m args below meth c b D aC nL Q kc ks (mem.set p0 (.inl (0, n, .inl (upd f j.toNatClampNeg x)))) (pc + 1) lv st) : vs_G p l e R s m args below meth c b D aC nL Q kc ks mem pc lv (.int x :: .int j :: .ref p0 :: st) := fun H locs ls hP hS hl => va_iast C.1 C.2.1 C.2.2.2.2.2.1 hP vs_w_D hS p0 0 (vs_w_at (b := b) (aC := aC) hm) rfl hin hd (fun H1 locs1 hP1 _ hS1 => kk H1 locs1 ls (by rw [vs_w_set0]; exact hP1) hS1 hl)
theorem vs_lald (C : vs_X p s m args meth c b D aC own cc nL) {p0 n : Nat} {f : Nat → Int64} {j : Int32} (hd : decode cc pc = .ok (.laload, 1)) (hm : mem[p0]? = some (.inl (1, n, .inr (.inl f)))) (hin : vp_in j n) (kk : vs_G p l e R s m args below meth c b D aC nL Q kc ks mem (pc + 1) lv (.long (f j.toNatClampNeg) :: st)) : vs_G p l e R s m args below meth c b D aC nL Q kc ks mem pc lv (.int j :: .ref p0 :: st) := fun H locs ls hP hS hl => va_lald C.1 C.2.1 C.2.2.2.2.2.1 hP p0 1 (vs_w_at (b := b) (aC := aC) hm) rfl hin hd (kk H locs ls hP hS hl)
theorem vs_last (C : vs_X p s m args meth c b D aC own cc nL) {p0 n : Nat} {f : Nat → Int64} {j : Int32} {x : Int64} (hd : decode cc pc = .ok (.lastore, 1)) (hm : mem[p0]? = some (.inl (1, n, .inr (.inl f)))) (hin : vp_in j n) (kk : vs_G p l e R s m args below meth c b D aC nL Q kc ks (mem.set p0 (.inl (1, n, .inr (.inl (vp_updL f j.toNatClampNeg x))))) (pc + 1) lv st) : vs_G p l e R s m args below meth c b D aC nL Q kc ks mem pc lv (.long x :: .int j :: .ref p0 :: st) := fun H locs ls hP hS hl => va_last C.1 C.2.1 C.2.2.2.2.2.1 hP vs_w_D hS p0 1 (vs_w_at (b := b) (aC := aC) hm) rfl hin hd (fun H1 locs1 hP1 _ hS1 => kk H1 locs1 ls (by rw [vs_w_set0]; exact hP1) hS1 hl)
theorem vs_fald (C : vs_X p s m args meth c b D aC own cc nL) {p0 n : Nat} {f : Nat → UInt32} {j : Int32} (hd : decode cc pc = .ok (.faload, 1)) (hm : mem[p0]? = some (.inl (2, n, .inr (.inr (.inl f))))) (hin : vp_in j n) (kk : vs_G p l e R s m args below meth c b D aC nL Q kc ks mem (pc + 1) lv (.float (f j.toNatClampNeg) :: st)) : vs_G p l e R s m args below meth c b D aC nL Q kc ks mem pc lv (.int j :: .ref p0 :: st) := fun H locs ls hP hS hl => va_fald C.1 C.2.1 C.2.2.2.2.2.1 hP p0 2 (vs_w_at (b := b) (aC := aC) hm) rfl hin hd (kk H locs ls hP hS hl)
theorem vs_fast (C : vs_X p s m args meth c b D aC own cc nL) {p0 n : Nat} {f : Nat → UInt32} {j : Int32} {x : UInt32} (hd : decode cc pc = .ok (.fastore, 1)) (hm : mem[p0]? = some (.inl (2, n, .inr (.inr (.inl f))))) (hin : vp_in j n) (kk : vs_G p l e R s m args below meth c b D aC nL Q kc ks (mem.set p0 (.inl (2, n, .inr (.inr (.inl (vf_upd f j.toNatClampNeg x)))))) (pc + 1) lv st) : vs_G p l e R s m args below meth c b D aC nL Q kc ks mem pc lv (.float x :: .int j :: .ref p0 :: st) := fun H locs ls hP hS hl => va_fast C.1 C.2.1 C.2.2.2.2.2.1 hP vs_w_D hS p0 2 (vs_w_at (b := b) (aC := aC) hm) rfl hin hd (fun H1 locs1 hP1 _ hS1 => kk H1 locs1 ls (by rw [vs_w_set0]; exact hP1) hS1 hl)
theorem vs_zald (C : vs_X p s m args meth c b D aC own cc nL) {p0 n : Nat} {f : Nat → Int32} {j : Int32} (hd : decode cc pc = .ok (.baload, 1)) (hm : mem[p0]? = some (.inl (3, n, .inl f))) (hin : vp_in j n) (kk : vs_G p l e R s m args below meth c b D aC nL Q kc ks mem (pc + 1) lv (.int (f j.toNatClampNeg) :: st)) : vs_G p l e R s m args below meth c b D aC nL Q kc ks mem pc lv (.int j :: .ref p0 :: st) := fun H locs ls hP hS hl => va_zald C.1 C.2.1 C.2.2.2.2.2.1 hP p0 3 (vs_w_at (b := b) (aC := aC) hm) rfl hin hd (kk H locs ls hP hS hl)
theorem vs_zast (C : vs_X p s m args meth c b D aC own cc nL) {p0 n : Nat} {f : Nat → Int32} {j : Int32} {x : Int32} (hd : decode cc pc = .ok (.bastore, 1)) (hm : mem[p0]? = some (.inl (3, n, .inl f))) (hin : vp_in j n) (kk : vs_G p l e R s m args below meth c b D aC nL Q kc ks (mem.set p0 (.inl (3, n, .inl (upd f j.toNatClampNeg (vp_nar .boolean x))))) (pc + 1) lv st) : vs_G p l e R s m args below meth c b D aC nL Q kc ks mem pc lv (.int x :: .int j :: .ref p0 :: st) := fun H locs ls hP hS hl => va_zast C.1 C.2.1 C.2.2.2.2.2.1 hP vs_w_D hS p0 3 (vs_w_at (b := b) (aC := aC) hm) rfl hin hd (fun H1 locs1 hP1 _ hS1 => kk H1 locs1 ls (by rw [vs_w_set0]; exact hP1) hS1 hl)
theorem vs_dald (C : vs_X p s m args meth c b D aC own cc nL) {p0 n : Nat} {f : Nat → UInt64} {j : Int32} (hd : decode cc pc = .ok (.daload, 1)) (hm : mem[p0]? = some (.inl (4, n, .inr (.inr (.inr (.inl f)))))) (hin : vp_in j n) (kk : vs_G p l e R s m args below meth c b D aC nL Q kc ks mem (pc + 1) lv (.double (f j.toNatClampNeg) :: st)) : vs_G p l e R s m args below meth c b D aC nL Q kc ks mem pc lv (.int j :: .ref p0 :: st) := fun H locs ls hP hS hl => va_dald C.1 C.2.1 C.2.2.2.2.2.1 hP p0 4 (vs_w_at (b := b) (aC := aC) hm) rfl hin hd (kk H locs ls hP hS hl)
theorem vs_dast (C : vs_X p s m args meth c b D aC own cc nL) {p0 n : Nat} {f : Nat → UInt64} {j : Int32} {x : UInt64} (hd : decode cc pc = .ok (.dastore, 1)) (hm : mem[p0]? = some (.inl (4, n, .inr (.inr (.inr (.inl f)))))) (hin : vp_in j n) (kk : vs_G p l e R s m args below meth c b D aC nL Q kc ks (mem.set p0 (.inl (4, n, .inr (.inr (.inr (.inl (vf_upd f j.toNatClampNeg x))))))) (pc + 1) lv st) : vs_G p l e R s m args below meth c b D aC nL Q kc ks mem pc lv (.double x :: .int j :: .ref p0 :: st) := fun H locs ls hP hS hl => va_dast C.1 C.2.1 C.2.2.2.2.2.1 hP vs_w_D hS p0 4 (vs_w_at (b := b) (aC := aC) hm) rfl hin hd (fun H1 locs1 hP1 _ hS1 => kk H1 locs1 ls (by rw [vs_w_set0]; exact hP1) hS1 hl)
theorem vs_alen (C : vs_X p s m args meth c b D aC own cc nL) {p0 t : Nat} {x : vp_A} {ty : FieldType} {v : Int32} (ht : (vs_t aC)[t]? = some (aC t, ty)) (hv : Int32.ofNat x.1 = v) (hd : decode cc pc = .ok (.arraylength, 1)) (hm : mem[p0]? = some (.inl (t, x))) (kk : vs_G p l e R s m args below meth c b D aC nL Q kc ks mem (pc + 1) lv (.int v :: st)) : vs_G p l e R s m args below meth c b D aC nL Q kc ks mem pc lv (.ref p0 :: st) := fun H locs ls hP hS hl => va_alen C.1 C.2.1 C.2.2.2.2.2.1 hP p0 t (vs_w_at (b := b) (aC := aC) hm) ht hv hd (kk H locs ls hP hS hl)
end Arr
end
section
/-- exception kinds -/
def vs_n : Nat → String
  | 0 => "java/lang/IllegalArgumentException"
  | 1 => "java/lang/IllegalStateException"
  | 2 => "java/util/NoSuchElementException"
  | 3 => "java/lang/IndexOutOfBoundsException"
  | _ => "java/lang/UnsupportedOperationException"
/-- how an invocation ends: with a value (by position), or thrown: kind k -/
def vs_o (b : Nat) (t : State) (r : Option Value ⊕ Nat) (oc : Outcome) : Prop := match r with
  | .inl v => oc = .returned (v.map (vs_v b))
  | .inr k => ∃ (x : Addr) (cell : Cell), oc = .threw x ∧ t.heap[x]? = some cell ∧ t.vm.findClass (vs_n k) = some cell.cls ∧ cell.vm.isStatics = false
def vs_Q (b : Nat) (D : va_G) (aC : Nat → ClassId) (tg : Bool) (post : (Option Value ⊕ Nat) → List vs_C → Prop) : Array Value → State → Outcome → State → Prop := fun _ st oc t => ∃ (r : Option Value ⊕ Nat) (mem' : List vs_C), vs_o b t r oc ∧ post r mem' ∧ va_P D vwCl (vs_w b aC 0 mem') t.heap ∧ (tg = true → t.heap.size = b + mem'.length) ∧ va_F (fun q => b ≤ q) st t
def vs_Fr (st t : State) (L : List Loc) (k n : Nat) : Prop := st.WarmedH t.vm ∧ st.sameButNew ({ t with vm := st.vm } : State) L k n
def vs_P (b : Nat) (D : va_G) (aC : Nat → ClassId) (tg : Bool) (av : List Value) (mem : List vs_C) : Array Value → State → Prop := fun v U => v = (av.map (vs_v b)).toArray ∧ va_P D vwCl (vs_w b aC 0 mem) U.heap ∧ va_K D vwCl (vs_t aC) U ∧ b ≤ U.heap.size ∧ (tg = true → U.heap.size = b + mem.length) ∧ vs_Z b U U.heap ∧ (∀ w ∈ gN, va_Nw w U)
/-- THE CONTRACT of y at these arguments and this memory: it ends, and 'post' holds of its end -/
def vs_M (l : Launch) (b : Nat) (D : va_G) (aC : Nat → ClassId) (tg : Bool) (y : MethodName) (cw : Cond) (rm : Room) (av : List Value) (mem : List vs_C) (post : (Option Value ⊕ Nat) → List vs_C → Prop) : Prop :=
  MetFree l y (headSpec (cw :: gT) rm) (vs_P b D aC tg av mem) (fun _ _ _ _ _ => True) (fun a st o t => vs_Q b D aC tg post a st o t ∧ ∃ L, vs_Fr st t L rm.cells rm.slots ∧ ∀ q ∈ L, b ≤ q.base)
/-- the end of a walk -/
def vs_E (below : List Frame) (args : Array Value) (s : State) (b : Nat) (D : va_G) (aC : Nat → ClassId) (tg : Bool) (post : (Option Value ⊕ Nat) → List vs_C → Prop) (rm : Room) : State → Prop := fun t => ∃ o, t.status = .running ∧ Ended t below o ∧ (vs_Q b D aC tg post args s o t ∧ ∃ L, vs_Fr s t L rm.cells rm.slots ∧ ∀ q ∈ L, b ≤ q.base)
theorem vs_P_blind {b : Nat} {D : va_G} {aC : Nat → ClassId} {tg : Bool} {av : List Value} {mem : List vs_C} : FrameBlind (vs_P b D aC tg av mem) := by
  intro a U g mk q
  obtain ⟨q0, qP, qK, qb, qt, qZ, qN⟩ := q
  exact ⟨q0, qP, va_K.moved (u := U) (U := U.calling g mk a) (Vm.Alike.refl U.vm) qK, qb, qt, qZ.moved (u := U) (U := U.calling g mk a) (Vm.Alike.refl U.vm) (fun _ _ => rfl), fun w hw => va_Nw.same (u := U) (U := U.calling g mk a) (gN_tab hw) rfl (qN w hw)⟩
theorem vs_M.of {l : Launch} {b : Nat} {D : va_G} {aC : Nat → ClassId} {tg : Bool} {y : MethodName} {cc : ByteArray} {mL : Nat} {rt : Option FieldType} {rm : Room} {av : List Value} {mem : List vs_C} {post : (Option Value ⊕ Nat) → List vs_C → Prop} (hy : plainName y.cls = true) (hlen : (vs_e av).length ≤ mL)
    (body : ∀ p e s m args below meth c, vs_X p s m args meth c b D aC y.cls cc mL → meth.name = y.name → meth.sig.returnType = rt → c.exceptionTable.isEmpty = true → (tg = true → s.heap.size = b + mem.length) → vs_G p l e rm s m args below meth c b D aC mL (vs_E below args s b D aC tg post rm) 0 0 mem 0 (vs_e0 mL av) []) : vs_M l b D aC tg y (.code y cc mL rt) rm av mem post := by
  refine MetFree.of_bodyS (code := cc) (maxLocals := mL) (ret := rt) hy ?_ ?_
  · intro args s m h hn
    obtain ⟨meth, c, h1, h2, h3, h4, h5, h6, -, -⟩ := Cond.code_spec hn (atoms_spec (ws := Cond.code y cc mL rt :: gT) h _ List.mem_cons_self)
    exact ⟨meth, c, h1, h2, h3, h4, h5, h6⟩
  · intro p e s m args below meth c s₁ B hml hP _
    obtain ⟨rfl, qP, qK, qb, qt, qZ, qN⟩ := hP
    have hts := atoms_spec (ws := Cond.code y cc mL rt :: gT) B.pre
    have hh0 : s₁.heap = s.heap := by rw [B.state]; rfl
    have hG := body p e s m _ below meth c ⟨B.exec, B.bytes, hml, findClass_of_methodNamed B.named, fun w h => hts w (List.mem_cons_of_mem _ h), qK, qb, B.notSynchronized, qZ, qN⟩ (name_of_methodNamed B.named B.method).1 B.returns (B.noHandlers (hts _ List.mem_cons_self)) qt
    have hW := hG s.heap [] _ qP va_S.rf (vs_entry (b := b) (nL := mL) (av := av) hlen)
    rw [List.map_nil, ← lg_entry_eq] at hW
    obtain ⟨t, a1, o, b1, b2, b3⟩ := hW s₁ hh0 (Stand.of_body B)
    exact ⟨t, o, a1, b1, b2, b3⟩
/-- a contract without throws is one of the kit's -/
theorem vs_M.met {l : Launch} {b : Nat} {D : va_G} {aC : Nat → ClassId} {tg : Bool} {y : MethodName} {cw : Cond} {rm : Room} {av : List Value} {mem : List vs_C} {post : (Option Value ⊕ Nat) → List vs_C → Prop} (h : vs_M l b D aC tg y cw rm av mem post) (hno : ∀ k mem', ¬ post (.inr k) mem') : Met l y (cw :: gT) rm (vs_P b D aC tg av mem) (vs_Q b D aC tg post) rm.cells rm.slots (fun q => b ≤ q) := by
  intro p e ha hc hk s m args below hf happ hP hK
  obtain ⟨n, o, h1, h2, h3, hq, L, ⟨f1, f2⟩, h5⟩ := h p e ha hc hk s m args below hf happ hP hK
  refine ⟨n, o, h1, h2, h3, hq, L, ⟨?_, f1, f2⟩, h5⟩
  obtain ⟨r, mem', ho, hp, -⟩ := hq
  cases r with
  | inl v => exact ⟨_, ho⟩
  | inr k => exact absurd hp (hno k mem')
/-- the words on a method -/
def vs_Y (y : MethodName) (cc : ByteArray) (mL : Nat) (rt : Option FieldType) (n : Nat) : Prop := Cond.code y cc mL rt ∈ gT ∧ Cond.initialized y.cls ∈ gT ∧ y.cls ≠ "java/lang/invoke/MethodHandle" ∧ y.cls ≠ "java/lang/invoke/VarHandle" ∧ (parseMethodDescriptor y.desc).map (fun d => d.parameters.length) = some n
def vs_L (own : String) (idx : Nat) (y : MethodName) : Prop := Cond.methodLink own idx y ∈ gT ∨ ∃ host, Cond.methodLinkNest own idx y host ∈ gN
theorem gT_sub {cw : Cond} (h : cw ∈ gT) : GoodIn gT (cw :: gT) := fun w hw => (List.mem_cons.mp hw).elim (fun e => by rw [e]; exact gT_good _ h) (gT_good w)
section Calls
variable {p : Program} {l : Launch} {e : Env} {R : Room} {s : State} {m : MethodId} {args : Array Value} {below : List Frame} {meth : Method} {c : Code} {b : Nat} {D : va_G} {aC : Nat → ClassId} {nL : Nat} {Q : State → Prop} {kc ks : Nat} {mem : List vs_C} {pc : Nat} {lv : List (Option Value)} {st : List Value} {own : String} {cc : ByteArray}
theorem vs_after {H : Heap} {locs : List Loc} {ls : Array Slot} {st0 rest : List Value} {a : Array Value} {mc ms : Nat} {tg : Bool} {post : (Option Value ⊕ Nat) → List vs_C → Prop} (hr : va_Run p l e R s m args below meth c H locs kc ks mc ms (F0 m pc ls st0) rest (vs_Q b D aC tg post a) (fun q => b ≤ q)) (hS : va_S (fun q => b ≤ q) s.heap H locs)
    (kk : ∀ (r : Option Value) (mem' : List vs_C) (H1 : Heap) (locs1 : List Loc), post (.inl r) mem' → va_P D vwCl (vs_w b aC 0 mem') H1 → va_S (fun q => b ≤ q) s.heap H1 locs1 → W p l e R s m args below meth c H1 locs1 (kc + mc) (ks + ms) Q (F0 m (pc + 3) ls ((r.map (vs_v b)).toList ++ rest))) : W p l e R s m args below meth c H locs kc ks Q (F0 m pc ls st0) := by
  intro T hT X
  obtain ⟨v, st₀, t, T', L, h0, X', hL, e1, e2, ⟨r, mem', ho, hp, hP, -, hz, hk⟩, st⟩ := hr T hT X
  rw [h0] at hz hk
  cases r with
  | inr k => obtain ⟨x, cell, hx, -⟩ := ho; cases hx
  | inl r =>
    cases ho
    have hS' : va_S (fun q => b ≤ q) s.heap T'.heap (locs ++ L) := ⟨Nat.le_trans hS.1 (by rw [e1]; exact hz), fun q h1 h2 => by rw [e1, hk q (Nat.lt_of_lt_of_le h1 hS.1) h2]; exact hS.2.1 q h1 h2, fun q hq => by
      rcases List.mem_append.mp hq with h | h
      · exact hS.2.2 q h
      · exact hL q h⟩
    obtain ⟨t2, a1, b1⟩ := kk r mem' T'.heap (locs ++ L) hp (by rw [e1]; exact hP) hS' T' rfl X'
    exact ⟨t2, st t2 a1, b1⟩
theorem vs_pre (C : vs_X p s m args meth c b D aC own cc nL) {H : Heap} {locs : List Loc} {av : List Value} {tg : Bool} (hP : va_P D vwCl (vs_w b aC 0 mem) H) (hS : va_S (fun q => b ≤ q) s.heap H locs) (ht : tg = true → H.size = b + mem.length) : ∀ U : State, U.heap = H → s.WarmedH U.vm → vs_P b D aC tg av mem (av.map (vs_v b)).toArray U := by
  intro U hU hW
  refine ⟨rfl, by rw [hU]; exact hP, va_K.moved hW.alike C.2.2.2.2.2.1, by rw [hU]; exact Nat.le_trans C.2.2.2.2.2.2.1 hS.1, by rw [hU]; exact ht, C.2.2.2.2.2.2.2.2.1.moved hW.alike (fun a ha => by rw [hU]; exact hS.2.1 a (Nat.lt_of_lt_of_le ha C.2.2.2.2.2.2.1) (by omega)), fun w hw => gN_warm hw hW (C.2.2.2.2.2.2.2.2.2 w hw)⟩
/-- a method that is called on an object: its memory is given over whole -/
theorem vs_callV (C : vs_X p s m args meth c b D aC own cc nL) {idx n p0 ci mL : Nat} {y : MethodName} {bytes : ByteArray} {rt : Option FieldType} {rm : Room} {As fs : List Value} {tg : Bool} {post : (Option Value ⊕ Nat) → List vs_C → Prop} (hM : vs_M l b D aC tg y (.code y bytes mL rt) rm (.ref p0 :: As) mem post) (hno : ∀ k mem', ¬ post (.inr k) mem') (hY : vs_Y y bytes mL rt n) (hL : vs_L own idx y) (hi : Cond.instanceMethod y ∈ gT) (hs : Cond.selects y.cls y y ∈ gT) (hd : decode cc pc = .ok (.invokevirtual idx, 3)) (hm : mem[p0]? = some (.inr (ci, fs))) (hci : (vwCl[ci]?).map (fun q => q.1) = some y.cls) (hn : As.length = n) (hw : (st.map fun v => v.category).sum ≤ 8) (hR : rm.frames + 1 ≤ R.frames ∧ 8 + (mL + 11) + rm.locals ≤ R.locals) (hf : kc + rm.cells ≤ R.cells ∧ ks + rm.slots ≤ R.slots) (ht : tg = true → s.heap.size + kc ≤ b + mem.length)
    (kk : ∀ (r : Option Value) (mem' : List vs_C), post (.inl r) mem' → vs_G p l e R s m args below meth c b D aC nL Q (kc + rm.cells) (ks + rm.slots) mem' (pc + 3) lv (r.toList ++ st)) : vs_G p l e R s m args below meth c b D aC nL Q kc ks mem pc lv (As.reverse ++ .ref p0 :: st) := by
  intro H locs ls hP hS hl T hT X
  have hup : H.size ≤ s.heap.size + kc := by
    have := X.same.2.2.1
    rw [← hT]
    exact this
  have hlo := vs_size hP (Nat.le_trans C.2.2.2.2.2.2.1 hS.1)
  have hrest : ((st.map (vs_v b)).map fun v => v.category).sum ≤ 8 := by
    rw [List.map_map]
    simpa [Function.comp_def, vs_v_cat] using hw
  have hpre : PreV s H y.cls (b + p0) (vs_P b D aC tg (.ref p0 :: As) mem) (As.map (vs_v b)) := by
    obtain ⟨q, hq, hq1⟩ := Option.map_eq_some_iff.mp hci
    refine ⟨vs_P_blind, ?_, vs_pre C hP hS (fun h => by have := ht h; omega)⟩
    rw [← hq1]
    exact va_recv C.2.2.2.2.2.1 hP hq (vs_w_at (b := b) (aC := aC) hm)
  have hmet := hM.met hno
  have hstack : (F0 m pc ls ((As.reverse ++ .ref p0 :: st).map (vs_v b))).stack = (As.map (vs_v b)).reverse ++ .ref (b + p0) :: st.map (vs_v b) := by
    show (As.reverse ++ .ref p0 :: st).map (vs_v b) = _
    rw [List.map_append, List.map_reverse]
    rfl
  have hgo : ∀ (r : Option Value) (mem' : List vs_C) (H1 : Heap) (locs1 : List Loc), post (.inl r) mem' → va_P D vwCl (vs_w b aC 0 mem') H1 → va_S (fun q => b ≤ q) s.heap H1 locs1 → W p l e R s m args below meth c H1 locs1 (kc + rm.cells) (ks + rm.slots) Q (F0 m (pc + 3) ls ((r.map (vs_v b)).toList ++ st.map (vs_v b))) := by
    intro r mem' H1 locs1 hp hP1 hS1
    have := kk r mem' hp H1 locs1 ls hP1 hS1 hl
    cases r <;> exact this
  have hS5 : CallFix p m c cc nL s args gT own := ⟨C.1, C.2.1, C.2.2.1, C.2.2.2.1, C.2.2.2.2.1⟩
  have hrun : va_Run p l e R s m args below meth c H locs kc ks rm.cells rm.slots (F0 m pc ls ((As.reverse ++ .ref p0 :: st).map (vs_v b))) (st.map (vs_v b)) (vs_Q b D aC tg post (Value.ref (b + p0) :: As.map (vs_v b)).toArray) (fun q => b ≤ q) := by
    rcases hL with hL | ⟨host, hL⟩
    · exact va_runV hS5 hmet (n := n) ⟨callB_of n C.2.2.2.2.1 (gT_sub hY.1) rfl rfl rfl (C.2.2.2.2.1 _ hY.2.1) (C.2.2.2.2.1 _ hL) hY.2.2 hR, C.2.2.2.2.1 _ hi, C.2.2.2.2.1 _ hs⟩ hpre rfl (by simpa using hn) hl.1 hstack (lv_room hrest) hd hf
    · exact va_runVN hS5 hmet (n := n) ⟨va_cnB n C.2.2.2.2.1 (gT_sub hY.1) rfl rfl rfl (C.2.2.2.2.2.2.2.2.2 _ hL) (C.2.2.2.2.1 _ hY.2.1) hY.2.2 hR, C.2.2.2.2.1 _ hi, C.2.2.2.2.1 _ hs⟩ hpre rfl (by simpa using hn) hl.1 hstack (lv_room hrest) hd hf
  exact vs_after hrun hS hgo T hT X
theorem vs_callS (C : vs_X p s m args meth c b D aC own cc nL) {idx n mL : Nat} {y : MethodName} {bytes : ByteArray} {rt : Option FieldType} {rm : Room} {As : List Value} {tg : Bool} {post : (Option Value ⊕ Nat) → List vs_C → Prop} (hM : vs_M l b D aC tg y (.code y bytes mL rt) rm As mem post) (hno : ∀ k mem', ¬ post (.inr k) mem') (hY : vs_Y y bytes mL rt n) (hL : vs_L own idx y) (hi : Cond.static y ∈ gT) (hd : decode cc pc = .ok (.invokestatic idx, 3)) (hn : As.length = n) (hw : (st.map fun v => v.category).sum ≤ 8) (hR : rm.frames + 1 ≤ R.frames ∧ 8 + (mL + 11) + rm.locals ≤ R.locals) (hf : kc + rm.cells ≤ R.cells ∧ ks + rm.slots ≤ R.slots) (ht : tg = true → s.heap.size + kc ≤ b + mem.length)
    (kk : ∀ (r : Option Value) (mem' : List vs_C), post (.inl r) mem' → vs_G p l e R s m args below meth c b D aC nL Q (kc + rm.cells) (ks + rm.slots) mem' (pc + 3) lv (r.toList ++ st)) : vs_G p l e R s m args below meth c b D aC nL Q kc ks mem pc lv (As.reverse ++ st) := by
  intro H locs ls hP hS hl T hT X
  have hup : H.size ≤ s.heap.size + kc := by
    have := X.same.2.2.1
    rw [← hT]
    exact this
  have hlo := vs_size hP (Nat.le_trans C.2.2.2.2.2.2.1 hS.1)
  have hrest : ((st.map (vs_v b)).map fun v => v.category).sum ≤ 8 := by
    rw [List.map_map]
    simpa [Function.comp_def, vs_v_cat] using hw
  have hpre : PreS s H (vs_P b D aC tg As mem) (As.map (vs_v b)) := ⟨vs_P_blind, vs_pre C hP hS (fun h => by have := ht h; omega)⟩
  have hmet := hM.met hno
  have hstack : (F0 m pc ls ((As.reverse ++ st).map (vs_v b))).stack = (As.map (vs_v b)).reverse ++ st.map (vs_v b) := by
    show (As.reverse ++ st).map (vs_v b) = _
    rw [List.map_append, List.map_reverse]
  have hgo : ∀ (r : Option Value) (mem' : List vs_C) (H1 : Heap) (locs1 : List Loc), post (.inl r) mem' → va_P D vwCl (vs_w b aC 0 mem') H1 → va_S (fun q => b ≤ q) s.heap H1 locs1 → W p l e R s m args below meth c H1 locs1 (kc + rm.cells) (ks + rm.slots) Q (F0 m (pc + 3) ls ((r.map (vs_v b)).toList ++ st.map (vs_v b))) := by
    intro r mem' H1 locs1 hp hP1 hS1
    have := kk r mem' hp H1 locs1 ls hP1 hS1 hl
    cases r <;> exact this
  have hS5 : CallFix p m c cc nL s args gT own := ⟨C.1, C.2.1, C.2.2.1, C.2.2.2.1, C.2.2.2.2.1⟩
  have hrun : va_Run p l e R s m args below meth c H locs kc ks rm.cells rm.slots (F0 m pc ls ((As.reverse ++ st).map (vs_v b))) (st.map (vs_v b)) (vs_Q b D aC tg post (As.map (vs_v b)).toArray) (fun q => b ≤ q) := by
    rcases hL with hL | ⟨host, hL⟩
    · exact va_runS hS5 hmet (n := n) ⟨callB_of n C.2.2.2.2.1 (gT_sub hY.1) rfl rfl rfl (C.2.2.2.2.1 _ hY.2.1) (C.2.2.2.2.1 _ hL) hY.2.2 hR, C.2.2.2.2.1 _ hi⟩ hpre rfl (by simpa using hn) hl.1 hstack (lv_room hrest) hd hf
    · exact va_runSN hS5 hmet (n := n) ⟨va_cnB n C.2.2.2.2.1 (gT_sub hY.1) rfl rfl rfl (C.2.2.2.2.2.2.2.2.2 _ hL) (C.2.2.2.2.1 _ hY.2.1) hY.2.2 hR, C.2.2.2.2.1 _ hi, trivial⟩ hpre rfl (by simpa using hn) hl.1 hstack (lv_room hrest) hd hf
  exact vs_after hrun hS hgo T hT X
theorem vs_callI (C : vs_X p s m args meth c b D aC own cc nL) {idx n p0 mL : Nat} {y : MethodName} {bytes : ByteArray} {rm : Room} {As : List Value} {tg : Bool} {post : (Option Value ⊕ Nat) → List vs_C → Prop} (hM : vs_M l b D aC tg y (.code y bytes mL none) rm (.ref p0 :: As) mem post) (hno : ∀ k mem', ¬ post (.inr k) mem') (hY : vs_Y y bytes mL none n) (hL : vs_L own idx y) (hi : Cond.instanceMethod y ∈ gT) (hyn : y.name = "<init>") (hd : decode cc pc = .ok (.invokespecial idx, 3)) (hn : As.length = n) (hw : (st.map fun v => v.category).sum ≤ 8) (hR : rm.frames + 1 ≤ R.frames ∧ 8 + (mL + 11) + rm.locals ≤ R.locals) (hf : kc + rm.cells ≤ R.cells ∧ ks + rm.slots ≤ R.slots) (ht : tg = true → s.heap.size + kc ≤ b + mem.length)
    (kk : ∀ (r : Option Value) (mem' : List vs_C), post (.inl r) mem' → vs_G p l e R s m args below meth c b D aC nL Q (kc + rm.cells) (ks + rm.slots) mem' (pc + 3) lv (r.toList ++ st)) : vs_G p l e R s m args below meth c b D aC nL Q kc ks mem pc lv (As.reverse ++ .ref p0 :: st) := by
  intro H locs ls hP hS hl T hT X
  have hup : H.size ≤ s.heap.size + kc := by
    have := X.same.2.2.1
    rw [← hT]
    exact this
  have hlo := vs_size hP (Nat.le_trans C.2.2.2.2.2.2.1 hS.1)
  have hrest : ((st.map (vs_v b)).map fun v => v.category).sum ≤ 8 := by
    rw [List.map_map]
    simpa [Function.comp_def, vs_v_cat] using hw
  have hpre : PreS s H (vs_P b D aC tg (.ref p0 :: As) mem) (.ref (b + p0) :: As.map (vs_v b)) := ⟨vs_P_blind, vs_pre C hP hS (fun h => by have := ht h; omega)⟩
  have hmet := hM.met hno
  have hstack : (F0 m pc ls ((As.reverse ++ .ref p0 :: st).map (vs_v b))).stack = (As.map (vs_v b)).reverse ++ .ref (b + p0) :: st.map (vs_v b) := by
    show (As.reverse ++ .ref p0 :: st).map (vs_v b) = _
    rw [List.map_append, List.map_reverse]
    rfl
  have hgo : ∀ (r : Option Value) (mem' : List vs_C) (H1 : Heap) (locs1 : List Loc), post (.inl r) mem' → va_P D vwCl (vs_w b aC 0 mem') H1 → va_S (fun q => b ≤ q) s.heap H1 locs1 → W p l e R s m args below meth c H1 locs1 (kc + rm.cells) (ks + rm.slots) Q (F0 m (pc + 3) ls ((r.map (vs_v b)).toList ++ st.map (vs_v b))) := by
    intro r mem' H1 locs1 hp hP1 hS1
    have := kk r mem' hp H1 locs1 ls hP1 hS1 hl
    cases r <;> exact this
  have hS5 : CallFix p m c cc nL s args gT own := ⟨C.1, C.2.1, C.2.2.1, C.2.2.2.1, C.2.2.2.2.1⟩
  have hrun : va_Run p l e R s m args below meth c H locs kc ks rm.cells rm.slots (F0 m pc ls ((As.reverse ++ .ref p0 :: st).map (vs_v b))) (st.map (vs_v b)) (vs_Q b D aC tg post (Value.ref (b + p0) :: As.map (vs_v b)).toArray) (fun q => b ≤ q) := by
    rcases hL with hL | ⟨host, hL⟩
    · exact va_runI hS5 hmet (n := n) ⟨callB_of n C.2.2.2.2.1 (gT_sub hY.1) rfl rfl rfl (C.2.2.2.2.1 _ hY.2.1) (C.2.2.2.2.1 _ hL) hY.2.2 hR, hyn, C.2.2.2.2.1 _ hi⟩ hpre rfl (by simpa using hn) hl.1 hstack (lv_room hrest) hd hf
    · exact va_runIN hS5 hmet (n := n) ⟨va_cnB n C.2.2.2.2.1 (gT_sub hY.1) rfl rfl rfl (C.2.2.2.2.2.2.2.2.2 _ hL) (C.2.2.2.2.1 _ hY.2.1) hY.2.2 hR, hyn, C.2.2.2.2.1 _ hi⟩ hpre rfl (by simpa using hn) hl.1 hstack (lv_room hrest) hd hf
  exact vs_after hrun hS hgo T hT X
theorem W.weak {H : Heap} {locs : List Loc} {g : JFrame} {Q' : State → Prop} (h : ∀ t, Q t → Q' t) (k : W p l e R s m args below meth c H locs kc ks Q g) : W p l e R s m args below meth c H locs kc ks Q' g := fun T hT X => by
  obtain ⟨t, a, q⟩ := k T hT X
  exact ⟨t, a, h t q⟩
end Calls
end
section
section Ends
variable {p : Program} {l : Launch} {e : Env} {R : Room} {s : State} {m : MethodId} {args : Array Value} {below : List Frame} {meth : Method} {c : Code} {b : Nat} {D : va_G} {aC : Nat → ClassId} {nL : Nat} {Q : State → Prop} {kc ks : Nat} {mem : List vs_C} {pc : Nat} {lv : List (Option Value)} {st : List Value} {own : String} {cc : ByteArray} {tg : Bool} {post : (Option Value ⊕ Nat) → List vs_C → Prop} {rm : Room}
theorem vs_toE (t : State) (h : MQ below (vs_Q b D aC tg post) args s rm.cells rm.slots (fun q => b ≤ q) t) : vs_E below args s b D aC tg post rm t := by
  obtain ⟨o, h1, h2, h3, L, ⟨-, h4, h5⟩, h6⟩ := h
  exact ⟨o, h1, h2, h3, L, ⟨h4, h5⟩, h6⟩
theorem vs_up (C : vs_X p s m args meth c b D aC own cc nL) {H : Heap} {locs : List Loc} {T : State} (hP : va_P D vwCl (vs_w b aC 0 mem) H) (hS : va_S (fun q => b ≤ q) s.heap H locs) (hT : T.heap = H) (X : Stand p l e R s m args below meth c T locs kc ks) (ht : tg = true → s.heap.size + kc ≤ b + mem.length) : tg = true → H.size = b + mem.length := by
  intro h
  have h1 := ht h
  have h2 : H.size ≤ s.heap.size + kc := by
    have := X.same.2.2.1
    rw [← hT]
    exact this
  have h3 := vs_size hP (Nat.le_trans C.2.2.2.2.2.2.1 hS.1)
  omega
theorem vs_iret (C : vs_X p s m args meth c b D aC own cc nL) {v : Int32} (hr : meth.sig.returnType = some .int) (hd : decode cc pc = .ok (.ireturn, 1)) (hc : kc ≤ rm.cells ∧ ks ≤ rm.slots) (ht : tg = true → s.heap.size + kc ≤ b + mem.length) (hp : post (.inl (some (.int v))) mem) : vs_G p l e R s m args below meth c b D aC nL (vs_E below args s b D aC tg post rm) kc ks mem pc lv [.int v] := by
  intro H locs ls hP hS hl T hT X
  have hz := vs_up C hP hS hT X ht
  exact W.widen hc.1 hc.2 (W.weak vs_toE (W.iret (Qc := vs_Q b D aC tg post) (free := fun q => b ≤ q) C.1 C.2.1 hr (fun t h1 _ => ⟨.inl (some (.int v)), mem, rfl, hp, by rw [h1]; exact hP, by rw [h1]; exact hz, hS.F h1⟩) hS.2.2 hd C.2.2.2.2.2.2.2.1)) T hT X
theorem vs_lret (C : vs_X p s m args meth c b D aC own cc nL) {v : Int64} (hr : meth.sig.returnType = some .long) (hd : decode cc pc = .ok (.lreturn, 1)) (hc : kc ≤ rm.cells ∧ ks ≤ rm.slots) (ht : tg = true → s.heap.size + kc ≤ b + mem.length) (hp : post (.inl (some (.long v))) mem) : vs_G p l e R s m args below meth c b D aC nL (vs_E below args s b D aC tg post rm) kc ks mem pc lv [.long v] := by
  intro H locs ls hP hS hl T hT X
  have hz := vs_up C hP hS hT X ht
  exact W.widen hc.1 hc.2 (W.weak vs_toE (W.lret (Qc := vs_Q b D aC tg post) (free := fun q => b ≤ q) C.1 C.2.1 hr (fun t h1 _ => ⟨.inl (some (.long v)), mem, rfl, hp, by rw [h1]; exact hP, by rw [h1]; exact hz, hS.F h1⟩) hS.2.2 hd C.2.2.2.2.2.2.2.1)) T hT X
theorem vs_fret (C : vs_X p s m args meth c b D aC own cc nL) {v : UInt32} (hr : meth.sig.returnType = some .float) (hd : decode cc pc = .ok (.freturn, 1)) (hc : kc ≤ rm.cells ∧ ks ≤ rm.slots) (ht : tg = true → s.heap.size + kc ≤ b + mem.length) (hp : post (.inl (some (.float v))) mem) : vs_G p l e R s m args below meth c b D aC nL (vs_E below args s b D aC tg post rm) kc ks mem pc lv [.float v] := by
  intro H locs ls hP hS hl T hT X
  have hz := vs_up C hP hS hT X ht
  exact W.widen hc.1 hc.2 (W.weak vs_toE (W.fret (Qc := vs_Q b D aC tg post) (free := fun q => b ≤ q) C.1 C.2.1 hr (fun t h1 _ => ⟨.inl (some (.float v)), mem, rfl, hp, by rw [h1]; exact hP, by rw [h1]; exact hz, hS.F h1⟩) hS.2.2 hd C.2.2.2.2.2.2.2.1)) T hT X
theorem vs_dret (C : vs_X p s m args meth c b D aC own cc nL) {v : UInt64} (hr : meth.sig.returnType = some .double) (hd : decode cc pc = .ok (.dreturn, 1)) (hc : kc ≤ rm.cells ∧ ks ≤ rm.slots) (ht : tg = true → s.heap.size + kc ≤ b + mem.length) (hp : post (.inl (some (.double v))) mem) : vs_G p l e R s m args below meth c b D aC nL (vs_E below args s b D aC tg post rm) kc ks mem pc lv [.double v] := by
  intro H locs ls hP hS hl T hT X
  have hz := vs_up C hP hS hT X ht
  exact W.widen hc.1 hc.2 (W.weak vs_toE (W.dret (Qc := vs_Q b D aC tg post) (free := fun q => b ≤ q) C.1 C.2.1 hr (fun t h1 _ => ⟨.inl (some (.double v)), mem, rfl, hp, by rw [h1]; exact hP, by rw [h1]; exact hz, hS.F h1⟩) hS.2.2 hd C.2.2.2.2.2.2.2.1)) T hT X
theorem vs_zret (C : vs_X p s m args meth c b D aC own cc nL) {v : Int32} (hr : meth.sig.returnType = some .boolean) (hn : narrow .boolean (.int v) = .int v) (hd : decode cc pc = .ok (.ireturn, 1)) (hc : kc ≤ rm.cells ∧ ks ≤ rm.slots) (ht : tg = true → s.heap.size + kc ≤ b + mem.length) (hp : post (.inl (some (.int v))) mem) : vs_G p l e R s m args below meth c b D aC nL (vs_E below args s b D aC tg post rm) kc ks mem pc lv [.int v] := by
  intro H locs ls hP hS hl T hT X
  have hz := vs_up C hP hS hT X ht
  exact W.widen hc.1 hc.2 (W.weak vs_toE (W.zret (Qc := vs_Q b D aC tg post) (free := fun q => b ≤ q) C.1 C.2.1 hr hn (fun t h1 _ => ⟨.inl (some (.int v)), mem, rfl, hp, by rw [h1]; exact hP, by rw [h1]; exact hz, hS.F h1⟩) hS.2.2 hd C.2.2.2.2.2.2.2.1)) T hT X
theorem vs_vret (C : vs_X p s m args meth c b D aC own cc nL) (hr : meth.sig.returnType = none) (hd : decode cc pc = .ok (.return_, 1)) (hc : kc ≤ rm.cells ∧ ks ≤ rm.slots) (ht : tg = true → s.heap.size + kc ≤ b + mem.length) (hp : post (.inl none) mem) : vs_G p l e R s m args below meth c b D aC nL (vs_E below args s b D aC tg post rm) kc ks mem pc lv [] := by
  intro H locs ls hP hS hl T hT X
  have hz := vs_up C hP hS hT X ht
  exact W.widen hc.1 hc.2 (W.weak vs_toE (W.vret (Qc := vs_Q b D aC tg post) (free := fun q => b ≤ q) C.1 C.2.1 hr (fun t h1 _ => ⟨.inl none, mem, rfl, hp, by rw [h1]; exact hP, by rw [h1]; exact hz, hS.F h1⟩) hS.2.2 hd C.2.2.2.2.2.2.2.1)) T hT X
theorem vs_obj (C : vs_X p s m args meth c b D aC own cc nL) {idx p0 : Nat} (hL : Cond.methodLink own idx objectInit ∈ gT) (hd : decode cc pc = .ok (.invokespecial idx, 3)) (hR : 1 ≤ R.frames ∧ (st.map fun v => v.category).sum + 12 ≤ R.locals) (kk : vs_G p l e R s m args below meth c b D aC nL Q kc ks mem (pc + 3) lv st) : vs_G p l e R s m args below meth c b D aC nL Q kc ks mem pc lv (.ref p0 :: st) := by
  intro H locs ls hP hS hl
  refine W.objInit C.1 C.2.1 C.2.2.2.1 (C.2.2.2.2.1 _ hL) (C.2.2.2.2.1 _ w_27) (C.2.2.2.2.1 _ w_28) (g := F0 m pc ls (.ref (b + p0) :: st.map (vs_v b))) rfl (by rw [C.2.2.1]; exact hl.1) rfl hd hR.1 ?_ (kk H locs ls hP hS hl)
  have : ((st.map (vs_v b)).map fun v => v.category).sum = (st.map fun v => v.category).sum := by
    rw [List.map_map]
    simp [Function.comp_def, vs_v_cat]
  show 2 * 0 + _ + 12 ≤ R.locals
  rw [this]
  have := hR.2
  omega
theorem vs_mmax (C : vs_X p s m args meth c b D aC own cc nL) {idx : Nat} {x y : Int32} (hL : Cond.methodLink own idx Lib.Math.max.name ∈ gT) (hd : decode cc pc = .ok (.invokestatic idx, 3)) (hR : 1 ≤ R.frames ∧ (st.map fun v => v.category).sum + 13 ≤ R.locals) (hc : kc ≤ R.cells ∧ ks ≤ R.slots) (kk : vs_G p l e R s m args below meth c b D aC nL Q kc ks mem (pc + 3) lv (.int (if x < y then y else x) :: st)) : vs_G p l e R s m args below meth c b D aC nL Q kc ks mem pc lv (.int y :: .int x :: st) := by
  intro H locs ls hP hS hl
  refine va_mmax C.1 C.2.1 (by rw [C.2.2.1]; exact hl.1.symm) C.2.2.2.1 (C.2.2.2.2.1 _ hL) (C.2.2.2.2.1 _ w_576) (C.2.2.2.2.1 _ w_18) (C.2.2.2.2.1 _ w_577) hR.1 ?_ hc.1 hc.2 hd (kk H locs ls hP hS hl)
  have : ((st.map (vs_v b)).map fun v => v.category).sum = (st.map fun v => v.category).sum := by
    rw [List.map_map]
    simp [Function.comp_def, vs_v_cat]
  rw [this]
  exact hR.2
theorem vs_mmin (C : vs_X p s m args meth c b D aC own cc nL) {idx : Nat} {x y : Int32} (hL : Cond.methodLink own idx Lib.Math.min.name ∈ gT) (hd : decode cc pc = .ok (.invokestatic idx, 3)) (hR : 1 ≤ R.frames ∧ (st.map fun v => v.category).sum + 13 ≤ R.locals) (hc : kc ≤ R.cells ∧ ks ≤ R.slots) (kk : vs_G p l e R s m args below meth c b D aC nL Q kc ks mem (pc + 3) lv (.int (if y < x then y else x) :: st)) : vs_G p l e R s m args below meth c b D aC nL Q kc ks mem pc lv (.int y :: .int x :: st) := by
  intro H locs ls hP hS hl
  refine va_mmin C.1 C.2.1 (by rw [C.2.2.1]; exact hl.1.symm) C.2.2.2.1 (C.2.2.2.2.1 _ hL) (C.2.2.2.2.1 _ w_599) (C.2.2.2.2.1 _ w_18) (C.2.2.2.2.1 _ w_600) hR.1 ?_ hc.1 hc.2 hd (kk H locs ls hP hS hl)
  have : ((st.map (vs_v b)).map fun v => v.category).sum = (st.map fun v => v.category).sum := by
    rw [List.map_map]
    simp [Function.comp_def, vs_v_cat]
  rw [this]
  exact hR.2
theorem vs_copyi (C : vs_X p s m args meth c b D aC own cc nL) {idx p0 p1 n0 n1 : Nat} {f g : Nat → Int32} {sp dp n : Int32} (hL : Cond.methodLink own idx arraycopyName ∈ gT) (hd : decode cc pc = .ok (.invokestatic idx, 3)) (h0 : mem[p0]? = some (.inl (0, n0, .inl f))) (h1 : mem[p1]? = some (.inl (0, n1, .inl g))) (g1 : ¬ sp < 0) (g2 : ¬ dp < 0) (g3 : ¬ n < 0) (g4 : sp.toNatClampNeg + n.toNatClampNeg ≤ n0) (g5 : dp.toNatClampNeg + n.toNatClampNeg ≤ n1) (hR : 1 ≤ R.frames ∧ (st.map fun v => v.category).sum + (nativeFrameWords "java/lang/System" "arraycopy" 5 + 11) ≤ R.locals) (kk : vs_G p l e R s m args below meth c b D aC nL Q kc ks (mem.set p1 (.inl (0, n1, .inl (va_cpy f g sp.toNatClampNeg dp.toNatClampNeg n.toNatClampNeg)))) (pc + 3) lv st) : vs_G p l e R s m args below meth c b D aC nL Q kc ks mem pc lv (.int n :: .int dp :: .ref p1 :: .int sp :: .ref p0 :: st) := by
  intro H locs ls hP hS hl
  refine va_copyi C.1 C.2.1 (by rw [C.2.2.1]; exact hl.1.symm) C.2.2.2.1 (C.2.2.2.2.1 _ hL) (C.2.2.2.2.1 _ w_272) (C.2.2.2.2.1 _ w_271) (C.2.2.2.2.1 _ w_17) C.2.2.2.2.2.1 hP vs_w_D hS p0 p1 0 0 (vs_w_at (b := b) (aC := aC) h0) (vs_w_at (b := b) (aC := aC) h1) rfl rfl rfl g1 g2 g3 g4 g5 (fun _ _ => rfl) hR.1 ?_ hd (fun H1 locs1 hP1 _ hS1 => kk H1 locs1 ls (by rw [vs_w_set0]; exact hP1) hS1 hl)
  have : ((st.map (vs_v b)).map fun v => v.category).sum = (st.map fun v => v.category).sum := by
    rw [List.map_map]
    simp [Function.comp_def, vs_v_cat]
  rw [this]
  exact hR.2
theorem vs_copyl (C : vs_X p s m args meth c b D aC own cc nL) {idx p0 p1 n0 n1 : Nat} {f g : Nat → Int64} {sp dp n : Int32} (hL : Cond.methodLink own idx arraycopyName ∈ gT) (hd : decode cc pc = .ok (.invokestatic idx, 3)) (h0 : mem[p0]? = some (.inl (1, n0, .inr (.inl f)))) (h1 : mem[p1]? = some (.inl (1, n1, .inr (.inl g)))) (g1 : ¬ sp < 0) (g2 : ¬ dp < 0) (g3 : ¬ n < 0) (g4 : sp.toNatClampNeg + n.toNatClampNeg ≤ n0) (g5 : dp.toNatClampNeg + n.toNatClampNeg ≤ n1) (hR : 1 ≤ R.frames ∧ (st.map fun v => v.category).sum + (nativeFrameWords "java/lang/System" "arraycopy" 5 + 11) ≤ R.locals) (kk : vs_G p l e R s m args below meth c b D aC nL Q kc ks (mem.set p1 (.inl (1, n1, .inr (.inl (va_cpy f g sp.toNatClampNeg dp.toNatClampNeg n.toNatClampNeg))))) (pc + 3) lv st) : vs_G p l e R s m args below meth c b D aC nL Q kc ks mem pc lv (.int n :: .int dp :: .ref p1 :: .int sp :: .ref p0 :: st) := by
  intro H locs ls hP hS hl
  refine va_copyl C.1 C.2.1 (by rw [C.2.2.1]; exact hl.1.symm) C.2.2.2.1 (C.2.2.2.2.1 _ hL) (C.2.2.2.2.1 _ w_272) (C.2.2.2.2.1 _ w_271) (C.2.2.2.2.1 _ w_17) C.2.2.2.2.2.1 hP vs_w_D hS p0 p1 1 1 (vs_w_at (b := b) (aC := aC) h0) (vs_w_at (b := b) (aC := aC) h1) rfl rfl rfl g1 g2 g3 g4 g5 (fun _ _ => rfl) hR.1 ?_ hd (fun H1 locs1 hP1 _ hS1 => kk H1 locs1 ls (by rw [vs_w_set0]; exact hP1) hS1 hl)
  have : ((st.map (vs_v b)).map fun v => v.category).sum = (st.map fun v => v.category).sum := by
    rw [List.map_map]
    simp [Function.comp_def, vs_v_cat]
  rw [this]
  exact hR.2
end Ends
end
