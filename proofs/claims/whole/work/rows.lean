section
-- ===== PART A: goes FIRST, ahead of the names: the tables' words, and 'selects' of the private methods out of them =====
/-- a private method of a class that the tables say can be made, by its rows of tables_1 -/
def lw_okq (q : MethodName × Nat) : Prop := (q.1.cls ≠ "java/lang/invoke/MethodHandle" ∧ q.1.cls ≠ "java/lang/invoke/VarHandle") ∧ Cond.instantiable q.1.cls q.2 ∈ tables_1 ∧ Cond.privateMethod q.1 ∈ tables_1 ∧ Cond.instanceMethod q.1 ∈ tables_1
theorem lw_p0 : lw_okq (⟨"VeilSearch", "appendSegment", "(J)V"⟩, 10) := ⟨⟨by decide +kernel, by decide +kernel⟩, List.mem_of_getElem? (i := 22) (by decide +kernel), List.mem_of_getElem? (i := 238) (by decide +kernel), List.mem_of_getElem? (i := 239) (by decide +kernel)⟩
theorem lw_p1 : lw_okq (⟨"VeilSearch$Filters", "drop", "(I)V"⟩, 6) := ⟨⟨by decide +kernel, by decide +kernel⟩, List.mem_of_getElem? (i := 59) (by decide +kernel), List.mem_of_getElem? (i := 287) (by decide +kernel), List.mem_of_getElem? (i := 288) (by decide +kernel)⟩
theorem lw_p2 : lw_okq (⟨"java/lang/Throwable", "fillInStackTrace", "(I)Ljava/lang/Throwable;"⟩, 6) := ⟨⟨by decide +kernel, by decide +kernel⟩, List.mem_of_getElem? (i := 352) (by decide +kernel), List.mem_of_getElem? (i := 350) (by decide +kernel), List.mem_of_getElem? (i := 351) (by decide +kernel)⟩
theorem lw_p3 : lw_okq (⟨"VeilSearch$Query", "comesLater", "(III)Z"⟩, 7) := ⟨⟨by decide +kernel, by decide +kernel⟩, List.mem_of_getElem? (i := 88) (by decide +kernel), List.mem_of_getElem? (i := 497) (by decide +kernel), List.mem_of_getElem? (i := 498) (by decide +kernel)⟩
theorem lw_p4 : lw_okq (⟨"VeilSearch$Query", "move", "(II)V"⟩, 7) := ⟨⟨by decide +kernel, by decide +kernel⟩, List.mem_of_getElem? (i := 88) (by decide +kernel), List.mem_of_getElem? (i := 501) (by decide +kernel), List.mem_of_getElem? (i := 502) (by decide +kernel)⟩
theorem lw_p5 : lw_okq (⟨"VeilSearch", "filterOf", "(IJI)J"⟩, 10) := ⟨⟨by decide +kernel, by decide +kernel⟩, List.mem_of_getElem? (i := 22) (by decide +kernel), List.mem_of_getElem? (i := 524) (by decide +kernel), List.mem_of_getElem? (i := 525) (by decide +kernel)⟩
theorem lw_p6 : lw_okq (⟨"VeilSearch$Filters", "append", "(IIJ)V"⟩, 6) := ⟨⟨by decide +kernel, by decide +kernel⟩, List.mem_of_getElem? (i := 59) (by decide +kernel), List.mem_of_getElem? (i := 536) (by decide +kernel), List.mem_of_getElem? (i := 537) (by decide +kernel)⟩
theorem lw_p7 : lw_okq (⟨"VeilSearch", "passThrough", "(JJ)V"⟩, 10) := ⟨⟨by decide +kernel, by decide +kernel⟩, List.mem_of_getElem? (i := 22) (by decide +kernel), List.mem_of_getElem? (i := 557) (by decide +kernel), List.mem_of_getElem? (i := 558) (by decide +kernel)⟩
theorem lw_p8 : lw_okq (⟨"VeilSearch", "lookAt", "(J)V"⟩, 10) := ⟨⟨by decide +kernel, by decide +kernel⟩, List.mem_of_getElem? (i := 22) (by decide +kernel), List.mem_of_getElem? (i := 584) (by decide +kernel), List.mem_of_getElem? (i := 585) (by decide +kernel)⟩
theorem lw_p9 : lw_okq (⟨"VeilSearchModel", "fail", "(I)I"⟩, 40) := ⟨⟨by decide +kernel, by decide +kernel⟩, List.mem_of_getElem? (i := 664) (by decide +kernel), List.mem_of_getElem? (i := 807) (by decide +kernel), List.mem_of_getElem? (i := 808) (by decide +kernel)⟩
theorem lw_p10 : lw_okq (⟨"VeilSearchModel", "sizeOf", "(I)I"⟩, 40) := ⟨⟨by decide +kernel, by decide +kernel⟩, List.mem_of_getElem? (i := 664) (by decide +kernel), List.mem_of_getElem? (i := 842) (by decide +kernel), List.mem_of_getElem? (i := 843) (by decide +kernel)⟩
theorem lw_p11 : lw_okq (⟨"VeilSearchModel", "isOther", "()Z"⟩, 40) := ⟨⟨by decide +kernel, by decide +kernel⟩, List.mem_of_getElem? (i := 664) (by decide +kernel), List.mem_of_getElem? (i := 854) (by decide +kernel), List.mem_of_getElem? (i := 855) (by decide +kernel)⟩
theorem lw_p12 : lw_okq (⟨"VeilSearchModel", "isShown", "(I)Z"⟩, 40) := ⟨⟨by decide +kernel, by decide +kernel⟩, List.mem_of_getElem? (i := 664) (by decide +kernel), List.mem_of_getElem? (i := 858) (by decide +kernel), List.mem_of_getElem? (i := 859) (by decide +kernel)⟩
theorem lw_p13 : lw_okq (⟨"VeilSearchModel", "drop", "(I)V"⟩, 40) := ⟨⟨by decide +kernel, by decide +kernel⟩, List.mem_of_getElem? (i := 664) (by decide +kernel), List.mem_of_getElem? (i := 862) (by decide +kernel), List.mem_of_getElem? (i := 863) (by decide +kernel)⟩
theorem lw_p14 : lw_okq (⟨"VeilSearchModel", "arrange", "()V"⟩, 40) := ⟨⟨by decide +kernel, by decide +kernel⟩, List.mem_of_getElem? (i := 664) (by decide +kernel), List.mem_of_getElem? (i := 878) (by decide +kernel), List.mem_of_getElem? (i := 879) (by decide +kernel)⟩
theorem lw_p15 : lw_okq (⟨"VeilSearchModel", "useFilter", "(II)V"⟩, 40) := ⟨⟨by decide +kernel, by decide +kernel⟩, List.mem_of_getElem? (i := 664) (by decide +kernel), List.mem_of_getElem? (i := 882) (by decide +kernel), List.mem_of_getElem? (i := 883) (by decide +kernel)⟩
def lw_privs_1 : List (MethodName × Nat) := [(⟨"VeilSearch", "appendSegment", "(J)V"⟩, 10), (⟨"VeilSearch$Filters", "drop", "(I)V"⟩, 6), (⟨"java/lang/Throwable", "fillInStackTrace", "(I)Ljava/lang/Throwable;"⟩, 6), (⟨"VeilSearch$Query", "comesLater", "(III)Z"⟩, 7), (⟨"VeilSearch$Query", "move", "(II)V"⟩, 7), (⟨"VeilSearch", "filterOf", "(IJI)J"⟩, 10), (⟨"VeilSearch$Filters", "append", "(IIJ)V"⟩, 6), (⟨"VeilSearch", "passThrough", "(JJ)V"⟩, 10), (⟨"VeilSearch", "lookAt", "(J)V"⟩, 10), (⟨"VeilSearchModel", "fail", "(I)I"⟩, 40), (⟨"VeilSearchModel", "sizeOf", "(I)I"⟩, 40), (⟨"VeilSearchModel", "isOther", "()Z"⟩, 40), (⟨"VeilSearchModel", "isShown", "(I)Z"⟩, 40), (⟨"VeilSearchModel", "drop", "(I)V"⟩, 40), (⟨"VeilSearchModel", "arrange", "()V"⟩, 40), (⟨"VeilSearchModel", "useFilter", "(II)V"⟩, 40)]
theorem lw_r1 : ∀ q ∈ lw_privs_1, lw_okq q := List.forall_mem_cons.mpr ⟨lw_p0, List.forall_mem_cons.mpr ⟨lw_p1, List.forall_mem_cons.mpr ⟨lw_p2, List.forall_mem_cons.mpr ⟨lw_p3, List.forall_mem_cons.mpr ⟨lw_p4, List.forall_mem_cons.mpr ⟨lw_p5, List.forall_mem_cons.mpr ⟨lw_p6, List.forall_mem_cons.mpr ⟨lw_p7, List.forall_mem_cons.mpr ⟨lw_p8, List.forall_mem_cons.mpr ⟨lw_p9, List.forall_mem_cons.mpr ⟨lw_p10, List.forall_mem_cons.mpr ⟨lw_p11, List.forall_mem_cons.mpr ⟨lw_p12, List.forall_mem_cons.mpr ⟨lw_p13, List.forall_mem_cons.mpr ⟨lw_p14, List.forall_mem_cons.mpr ⟨lw_p15, fun _ h => absurd h List.not_mem_nil⟩⟩⟩⟩⟩⟩⟩⟩⟩⟩⟩⟩⟩⟩⟩⟩
theorem lw_p16 : lw_okq (⟨"VeilSearchModel", "isLeft", "(II)Z"⟩, 40) := ⟨⟨by decide +kernel, by decide +kernel⟩, List.mem_of_getElem? (i := 664) (by decide +kernel), List.mem_of_getElem? (i := 886) (by decide +kernel), List.mem_of_getElem? (i := 887) (by decide +kernel)⟩
theorem lw_p17 : lw_okq (⟨"VeilSearchModel", "behindBlock", "(II)I"⟩, 40) := ⟨⟨by decide +kernel, by decide +kernel⟩, List.mem_of_getElem? (i := 664) (by decide +kernel), List.mem_of_getElem? (i := 890) (by decide +kernel), List.mem_of_getElem? (i := 891) (by decide +kernel)⟩
theorem lw_p18 : lw_okq (⟨"VeilSearchModel", "scoreOf", "(IIII)F"⟩, 40) := ⟨⟨by decide +kernel, by decide +kernel⟩, List.mem_of_getElem? (i := 664) (by decide +kernel), List.mem_of_getElem? (i := 894) (by decide +kernel), List.mem_of_getElem? (i := 895) (by decide +kernel)⟩
theorem lw_p19 : lw_okq (⟨"VeilSearchModel", "isOpen", "(II)Z"⟩, 40) := ⟨⟨by decide +kernel, by decide +kernel⟩, List.mem_of_getElem? (i := 664) (by decide +kernel), List.mem_of_getElem? (i := 898) (by decide +kernel), List.mem_of_getElem? (i := 899) (by decide +kernel)⟩
theorem lw_p20 : lw_okq (⟨"VeilSearchModel", "lookAt", "(IIIII)V"⟩, 40) := ⟨⟨by decide +kernel, by decide +kernel⟩, List.mem_of_getElem? (i := 664) (by decide +kernel), List.mem_of_getElem? (i := 902) (by decide +kernel), List.mem_of_getElem? (i := 903) (by decide +kernel)⟩
theorem lw_p21 : lw_okq (⟨"VeilSearchModel", "isFound", "(II)Z"⟩, 40) := ⟨⟨by decide +kernel, by decide +kernel⟩, List.mem_of_getElem? (i := 664) (by decide +kernel), List.mem_of_getElem? (i := 906) (by decide +kernel), List.mem_of_getElem? (i := 907) (by decide +kernel)⟩
theorem lw_p22 : lw_okq (⟨"VeilSearchModel", "mayRead", "(II)Z"⟩, 40) := ⟨⟨by decide +kernel, by decide +kernel⟩, List.mem_of_getElem? (i := 664) (by decide +kernel), List.mem_of_getElem? (i := 910) (by decide +kernel), List.mem_of_getElem? (i := 911) (by decide +kernel)⟩
theorem lw_p23 : lw_okq (⟨"VeilSearchModel", "tokens", "(IZ)I"⟩, 40) := ⟨⟨by decide +kernel, by decide +kernel⟩, List.mem_of_getElem? (i := 664) (by decide +kernel), List.mem_of_getElem? (i := 914) (by decide +kernel), List.mem_of_getElem? (i := 915) (by decide +kernel)⟩
theorem lw_p24 : lw_okq (⟨"VeilSearchModel", "enter", "(IFI)V"⟩, 40) := ⟨⟨by decide +kernel, by decide +kernel⟩, List.mem_of_getElem? (i := 664) (by decide +kernel), List.mem_of_getElem? (i := 918) (by decide +kernel), List.mem_of_getElem? (i := 919) (by decide +kernel)⟩
def lw_privs_2 : List (MethodName × Nat) := [(⟨"VeilSearchModel", "isLeft", "(II)Z"⟩, 40), (⟨"VeilSearchModel", "behindBlock", "(II)I"⟩, 40), (⟨"VeilSearchModel", "scoreOf", "(IIII)F"⟩, 40), (⟨"VeilSearchModel", "isOpen", "(II)Z"⟩, 40), (⟨"VeilSearchModel", "lookAt", "(IIIII)V"⟩, 40), (⟨"VeilSearchModel", "isFound", "(II)Z"⟩, 40), (⟨"VeilSearchModel", "mayRead", "(II)Z"⟩, 40), (⟨"VeilSearchModel", "tokens", "(IZ)I"⟩, 40), (⟨"VeilSearchModel", "enter", "(IFI)V"⟩, 40)]
theorem lw_r2 : ∀ q ∈ lw_privs_2, lw_okq q := List.forall_mem_cons.mpr ⟨lw_p16, List.forall_mem_cons.mpr ⟨lw_p17, List.forall_mem_cons.mpr ⟨lw_p18, List.forall_mem_cons.mpr ⟨lw_p19, List.forall_mem_cons.mpr ⟨lw_p20, List.forall_mem_cons.mpr ⟨lw_p21, List.forall_mem_cons.mpr ⟨lw_p22, List.forall_mem_cons.mpr ⟨lw_p23, List.forall_mem_cons.mpr ⟨lw_p24, fun _ h => absurd h List.not_mem_nil⟩⟩⟩⟩⟩⟩⟩⟩⟩
def lw_privs : List (MethodName × Nat) := lw_privs_1 ++ (lw_privs_2)
def lw_tbl : List Cond := k2_sels lw_privs ++ tables_1
theorem lw_privs_ok : ∀ q ∈ lw_privs, lw_okq q := by
  show ∀ q ∈ lw_privs_1 ++ (lw_privs_2), lw_okq q
  exact List.forall_mem_append.mpr ⟨lw_r1, lw_r2⟩

/-- the words that stay true in every warmer state: all of them that a callee may be given -/
def gT : List Cond := lw_tbl.filter goodWord
theorem gT_in (i : Nat) {w : Cond} (h : tables_1[i]? = some w) (hg : goodWord w = true) : w ∈ gT := List.mem_filter.mpr ⟨List.mem_append_right _ (List.mem_of_getElem? h), hg⟩
theorem gT_i1 {w : Cond} : w ∈ tables_1_1 → w ∈ tables_1 := List.mem_append_left _
theorem gT_in1 (i : Nat) {w : Cond} (h : tables_1_1[i]? = some w) (hg : goodWord w = true) : w ∈ gT := List.mem_filter.mpr ⟨List.mem_append_right _ (gT_i1 (List.mem_of_getElem? h)), hg⟩
theorem gT_i2 {w : Cond} : w ∈ tables_1_2 → w ∈ tables_1 := fun h => List.mem_append_right _ (List.mem_append_left _ h)
theorem gT_in2 (i : Nat) {w : Cond} (h : tables_1_2[i]? = some w) (hg : goodWord w = true) : w ∈ gT := List.mem_filter.mpr ⟨List.mem_append_right _ (gT_i2 (List.mem_of_getElem? h)), hg⟩
theorem gT_i3 {w : Cond} : w ∈ tables_1_3 → w ∈ tables_1 := fun h => List.mem_append_right _ (List.mem_append_right _ (List.mem_append_left _ h))
theorem gT_in3 (i : Nat) {w : Cond} (h : tables_1_3[i]? = some w) (hg : goodWord w = true) : w ∈ gT := List.mem_filter.mpr ⟨List.mem_append_right _ (gT_i3 (List.mem_of_getElem? h)), hg⟩
theorem gT_i4 {w : Cond} : w ∈ tables_1_4 → w ∈ tables_1 := fun h => List.mem_append_right _ (List.mem_append_right _ (List.mem_append_right _ h))
theorem gT_in4 (i : Nat) {w : Cond} (h : tables_1_4[i]? = some w) (hg : goodWord w = true) : w ∈ gT := List.mem_filter.mpr ⟨List.mem_append_right _ (gT_i4 (List.mem_of_getElem? h)), hg⟩
theorem gS_in (i : Nat) {q : MethodName × Nat} (h : lw_privs[i]? = some q) : Cond.selects q.1.cls q.1 q.1 ∈ gT := List.mem_filter.mpr ⟨List.mem_append_left _ (List.mem_map.mpr ⟨q, List.mem_of_getElem? h, rfl⟩), rfl⟩
theorem gT_tbl {w : Cond} (h : w ∈ gT) : w ∈ lw_tbl := (List.mem_filter.mp h).1
/-- words that stay true too, but by rows of their own -/
def gN_is : Cond → Bool
  | .fieldLinkNest .. | .methodLinkNest .. | .declares _ | .castable .. => true
  | _ => false
def gN : List Cond := lw_tbl.filter gN_is
theorem gN_in1 (i : Nat) {w : Cond} (h : tables_1_1[i]? = some w) (hg : gN_is w = true) : w ∈ gN := List.mem_filter.mpr ⟨List.mem_append_right _ (gT_i1 (List.mem_of_getElem? h)), hg⟩
theorem gN_in2 (i : Nat) {w : Cond} (h : tables_1_2[i]? = some w) (hg : gN_is w = true) : w ∈ gN := List.mem_filter.mpr ⟨List.mem_append_right _ (gT_i2 (List.mem_of_getElem? h)), hg⟩
theorem gN_in3 (i : Nat) {w : Cond} (h : tables_1_3[i]? = some w) (hg : gN_is w = true) : w ∈ gN := List.mem_filter.mpr ⟨List.mem_append_right _ (gT_i3 (List.mem_of_getElem? h)), hg⟩
theorem gN_in4 (i : Nat) {w : Cond} (h : tables_1_4[i]? = some w) (hg : gN_is w = true) : w ∈ gN := List.mem_filter.mpr ⟨List.mem_append_right _ (gT_i4 (List.mem_of_getElem? h)), hg⟩
theorem gN_tab {w : Cond} (h : w ∈ gN) : w.onTables = true := by
  have := (List.mem_filter.mp h).2
  cases w <;> first | rfl | simp [gN_is] at this
theorem gN_warm {w : Cond} (h : w ∈ gN) {s U : State} (hW : s.WarmedH U.vm) (hz : va_Nw w s) : va_Nw w U := by
  have := (List.mem_filter.mp h).2
  cases w <;> first | exact va_Nw.warmF hW hz | exact va_Nw.warmM hW hz | exact va_Nw.warmD hW hz | exact va_Nw.warmC hW hz | simp [gN_is] at this
theorem gT_good : GoodIn gT gT := fun w h => ⟨h, good_of_word (List.mem_filter.mp h).2⟩
end
section
theorem w_0 : (Jvm.Cond.initialized "VeilSearchLaw") ∈ gT := gT_in1 0 rfl rfl
theorem w_1 : (Jvm.Cond.initialized "VeilSearch") ∈ gT := gT_in1 1 rfl rfl
theorem w_2 : (Jvm.Cond.initialized "VeilSearch$Documents") ∈ gT := gT_in1 2 rfl rfl
theorem w_3 : (Jvm.Cond.initialized "VeilSearch$Filters") ∈ gT := gT_in1 3 rfl rfl
theorem w_4 : (Jvm.Cond.initialized "VeilSearch$Query") ∈ gT := gT_in1 4 rfl rfl
theorem w_5 : (Jvm.Cond.initialized "VeilSearch$Hits") ∈ gT := gT_in1 5 rfl rfl
theorem w_6 : (Jvm.Cond.initialized "VeilSearch$View") ∈ gT := gT_in1 6 rfl rfl
theorem w_7 : (Jvm.Cond.initialized "VeilSearch$Rights") ∈ gT := gT_in1 7 rfl rfl
theorem w_8 : (Jvm.Cond.initialized "VeilSearch$Segments") ∈ gT := gT_in1 8 rfl rfl
theorem w_9 : (Jvm.Cond.initialized "VeilSearchModel") ∈ gT := gT_in1 9 rfl rfl
theorem w_10 : (Jvm.Cond.initialized "java/lang/Throwable") ∈ gT := gT_in1 10 rfl rfl
theorem w_11 : (Jvm.Cond.initialized "java/lang/Exception") ∈ gT := gT_in1 11 rfl rfl
theorem w_12 : (Jvm.Cond.initialized "java/lang/RuntimeException") ∈ gT := gT_in1 12 rfl rfl
theorem w_13 : (Jvm.Cond.initialized "java/lang/IllegalArgumentException") ∈ gT := gT_in1 13 rfl rfl
theorem w_14 : (Jvm.Cond.initialized "java/lang/IllegalStateException") ∈ gT := gT_in1 14 rfl rfl
theorem w_15 : (Jvm.Cond.initialized "java/util/NoSuchElementException") ∈ gT := gT_in1 15 rfl rfl
theorem w_16 : (Jvm.Cond.initialized "java/lang/Long") ∈ gT := gT_in1 16 rfl rfl
theorem w_17 : (Jvm.Cond.initialized "java/lang/System") ∈ gT := gT_in1 17 rfl rfl
theorem w_18 : (Jvm.Cond.initialized "java/lang/Math") ∈ gT := gT_in1 18 rfl rfl
theorem w_19 : (Jvm.Cond.initialized "java/lang/IndexOutOfBoundsException") ∈ gT := gT_in1 19 rfl rfl
theorem w_20 : (Jvm.Cond.initialized "java/lang/UnsupportedOperationException") ∈ gT := gT_in1 20 rfl rfl
theorem w_21 : (Jvm.Cond.classLink "VeilSearchLaw" (8 : Nat) "VeilSearch") ∈ gT := gT_in1 21 rfl rfl
theorem w_22 : (Jvm.Cond.instantiable "VeilSearch" (10 : Nat)) ∈ gT := gT_in1 22 rfl rfl
theorem w_23 : (Jvm.Cond.methodLink "VeilSearchLaw" (71 : Nat) ({ cls := "VeilSearch", name := "<init>", desc := "()V" } : Jvm.MethodName)) ∈ gT := gT_in1 23 rfl rfl
theorem w_24 : (Jvm.Cond.instanceMethod ({ cls := "VeilSearch", name := "<init>", desc := "()V" } : Jvm.MethodName)) ∈ gT := gT_in1 24 rfl rfl
theorem w_25 : (Jvm.Cond.code ({ cls := "VeilSearch", name := "<init>", desc := "()V" } : Jvm.MethodName) prog_1_method_1_code (1 : Nat) (Option.none : Option Jvm.ClassFile.FieldType)) ∈ gT := gT_in1 25 rfl rfl
theorem w_26 : (Jvm.Cond.methodLink "VeilSearch" (3 : Nat) ({ cls := "java/lang/Object", name := "<init>", desc := "()V" } : Jvm.MethodName)) ∈ gT := gT_in1 26 rfl rfl
theorem w_27 : (Jvm.Cond.instanceMethod ({ cls := "java/lang/Object", name := "<init>", desc := "()V" } : Jvm.MethodName)) ∈ gT := gT_in1 27 rfl rfl
theorem w_28 : (Jvm.Cond.code ({ cls := "java/lang/Object", name := "<init>", desc := "()V" } : Jvm.MethodName) object_method_1_code (1 : Nat) (Option.none : Option Jvm.ClassFile.FieldType)) ∈ gT := gT_in1 28 rfl rfl
theorem w_29 : (Jvm.Cond.classLink "VeilSearch" (9 : Nat) "VeilSearch$Documents") ∈ gT := gT_in1 29 rfl rfl
theorem w_30 : (Jvm.Cond.instantiable "VeilSearch$Documents" (5 : Nat)) ∈ gT := gT_in1 30 rfl rfl
theorem w_31 : (Jvm.Cond.methodLinkNest "VeilSearch" (11 : Nat) ({ cls := "VeilSearch$Documents", name := "<init>", desc := "()V" } : Jvm.MethodName) "VeilSearch") ∈ gN := gN_in1 31 rfl rfl
theorem w_32 : (Jvm.Cond.instanceMethod ({ cls := "VeilSearch$Documents", name := "<init>", desc := "()V" } : Jvm.MethodName)) ∈ gT := gT_in1 32 rfl rfl
theorem w_33 : (Jvm.Cond.code ({ cls := "VeilSearch$Documents", name := "<init>", desc := "()V" } : Jvm.MethodName) prog_2_method_1_code (1 : Nat) (Option.none : Option Jvm.ClassFile.FieldType)) ∈ gT := gT_in1 33 rfl rfl
theorem w_34 : (Jvm.Cond.methodLink "VeilSearch$Documents" (3 : Nat) ({ cls := "java/lang/Object", name := "<init>", desc := "()V" } : Jvm.MethodName)) ∈ gT := gT_in1 34 rfl rfl
theorem w_35 : (Jvm.Cond.fieldLink "VeilSearch$Documents" (9 : Nat) "VeilSearch$Documents" "codes" "[I") ∈ gT := gT_in1 35 rfl rfl
theorem w_36 : (Jvm.Cond.fieldLinkNest "VeilSearch" (93 : Nat) "VeilSearch$Documents" "codes" "[I" "VeilSearch") ∈ gN := gN_in1 36 rfl rfl
theorem w_37 : (Jvm.Cond.fieldLinkNest "VeilSearch$Query" (51 : Nat) "VeilSearch$Documents" "codes" "[I" "VeilSearch") ∈ gN := gN_in1 37 rfl rfl
theorem w_38 : (Jvm.Cond.fieldLink "VeilSearch$Documents" (15 : Nat) "VeilSearch$Documents" "values" "[I") ∈ gT := gT_in1 38 rfl rfl
theorem w_39 : (Jvm.Cond.fieldLinkNest "VeilSearch" (107 : Nat) "VeilSearch$Documents" "values" "[I" "VeilSearch") ∈ gN := gN_in1 39 rfl rfl
theorem w_40 : (Jvm.Cond.fieldLink "VeilSearch$Documents" (18 : Nat) "VeilSearch$Documents" "allowed" "[I") ∈ gT := gT_in1 40 rfl rfl
theorem w_41 : (Jvm.Cond.fieldLinkNest "VeilSearch" (110 : Nat) "VeilSearch$Documents" "allowed" "[I" "VeilSearch") ∈ gN := gN_in1 41 rfl rfl
theorem w_42 : (Jvm.Cond.fieldLink "VeilSearch$Documents" (21 : Nat) "VeilSearch$Documents" "denied" "[I") ∈ gT := gT_in1 42 rfl rfl
theorem w_43 : (Jvm.Cond.fieldLinkNest "VeilSearch" (113 : Nat) "VeilSearch$Documents" "denied" "[I" "VeilSearch") ∈ gN := gN_in1 43 rfl rfl
theorem w_44 : (Jvm.Cond.fieldLink "VeilSearch$Documents" (24 : Nat) "VeilSearch$Documents" "ids" "I") ∈ gT := gT_in1 44 rfl rfl
theorem w_45 : (Jvm.Cond.fieldLinkNest "VeilSearch" (96 : Nat) "VeilSearch$Documents" "ids" "I" "VeilSearch") ∈ gN := gN_in1 45 rfl rfl
theorem w_46 : (Jvm.Cond.laysFinal "VeilSearch$Documents" "VeilSearch$Documents" "codes" "[I") ∈ gT := gT_in1 46 rfl rfl
theorem w_48 : (Jvm.Cond.laysFinal "VeilSearch$Documents" "VeilSearch$Documents" "values" "[I") ∈ gT := gT_in1 48 rfl rfl
theorem w_50 : (Jvm.Cond.laysFinal "VeilSearch$Documents" "VeilSearch$Documents" "allowed" "[I") ∈ gT := gT_in1 50 rfl rfl
theorem w_52 : (Jvm.Cond.laysFinal "VeilSearch$Documents" "VeilSearch$Documents" "denied" "[I") ∈ gT := gT_in1 52 rfl rfl
theorem w_54 : (Jvm.Cond.lays "VeilSearch$Documents" "VeilSearch$Documents" "ids" "I") ∈ gT := gT_in1 54 rfl rfl
theorem w_56 : (Jvm.Cond.superclass "VeilSearch$Documents" "java/lang/Object") ∈ gT := gT_in1 56 rfl rfl
theorem w_57 : (Jvm.Cond.arrayClass Jvm.ClassFile.FieldType.int) ∈ gT := gT_in1 57 rfl rfl
theorem w_58 : (Jvm.Cond.classLink "VeilSearch" (16 : Nat) "VeilSearch$Filters") ∈ gT := gT_in1 58 rfl rfl
theorem w_59 : (Jvm.Cond.instantiable "VeilSearch$Filters" (6 : Nat)) ∈ gT := gT_in1 59 rfl rfl
theorem w_60 : (Jvm.Cond.methodLinkNest "VeilSearch" (18 : Nat) ({ cls := "VeilSearch$Filters", name := "<init>", desc := "()V" } : Jvm.MethodName) "VeilSearch") ∈ gN := gN_in1 60 rfl rfl
theorem w_61 : (Jvm.Cond.instanceMethod ({ cls := "VeilSearch$Filters", name := "<init>", desc := "()V" } : Jvm.MethodName)) ∈ gT := gT_in1 61 rfl rfl
theorem w_62 : (Jvm.Cond.code ({ cls := "VeilSearch$Filters", name := "<init>", desc := "()V" } : Jvm.MethodName) prog_3_method_1_code (1 : Nat) (Option.none : Option Jvm.ClassFile.FieldType)) ∈ gT := gT_in1 62 rfl rfl
theorem w_63 : (Jvm.Cond.methodLink "VeilSearch$Filters" (3 : Nat) ({ cls := "java/lang/Object", name := "<init>", desc := "()V" } : Jvm.MethodName)) ∈ gT := gT_in1 63 rfl rfl
theorem w_64 : (Jvm.Cond.fieldLink "VeilSearch$Filters" (9 : Nat) "VeilSearch$Filters" "segments" "[I") ∈ gT := gT_in1 64 rfl rfl
theorem w_65 : (Jvm.Cond.fieldLink "VeilSearch$Filters" (15 : Nat) "VeilSearch$Filters" "users" "[I") ∈ gT := gT_in1 65 rfl rfl
theorem w_66 : (Jvm.Cond.fieldLink "VeilSearch$Filters" (18 : Nat) "VeilSearch$Filters" "readable" "[J") ∈ gT := gT_in1 66 rfl rfl
theorem w_67 : (Jvm.Cond.fieldLink "VeilSearch$Filters" (22 : Nat) "VeilSearch$Filters" "kept" "I") ∈ gT := gT_in1 67 rfl rfl
theorem w_68 : (Jvm.Cond.fieldLinkNest "VeilSearch" (170 : Nat) "VeilSearch$Filters" "kept" "I" "VeilSearch") ∈ gN := gN_in1 68 rfl rfl
theorem w_69 : (Jvm.Cond.fieldLink "VeilSearch$Filters" (26 : Nat) "VeilSearch$Filters" "made" "I") ∈ gT := gT_in1 69 rfl rfl
theorem w_70 : (Jvm.Cond.fieldLinkNest "VeilSearch" (225 : Nat) "VeilSearch$Filters" "made" "I" "VeilSearch") ∈ gN := gN_in1 70 rfl rfl
theorem w_71 : (Jvm.Cond.fieldLink "VeilSearch$Filters" (29 : Nat) "VeilSearch$Filters" "reused" "I") ∈ gT := gT_in1 71 rfl rfl
theorem w_72 : (Jvm.Cond.fieldLinkNest "VeilSearch" (228 : Nat) "VeilSearch$Filters" "reused" "I" "VeilSearch") ∈ gN := gN_in1 72 rfl rfl
theorem w_73 : (Jvm.Cond.laysFinal "VeilSearch$Filters" "VeilSearch$Filters" "segments" "[I") ∈ gT := gT_in1 73 rfl rfl
theorem w_75 : (Jvm.Cond.laysFinal "VeilSearch$Filters" "VeilSearch$Filters" "users" "[I") ∈ gT := gT_in1 75 rfl rfl
theorem w_77 : (Jvm.Cond.laysFinal "VeilSearch$Filters" "VeilSearch$Filters" "readable" "[J") ∈ gT := gT_in1 77 rfl rfl
theorem w_79 : (Jvm.Cond.lays "VeilSearch$Filters" "VeilSearch$Filters" "kept" "I") ∈ gT := gT_in1 79 rfl rfl
theorem w_81 : (Jvm.Cond.lays "VeilSearch$Filters" "VeilSearch$Filters" "made" "I") ∈ gT := gT_in1 81 rfl rfl
theorem w_83 : (Jvm.Cond.lays "VeilSearch$Filters" "VeilSearch$Filters" "reused" "I") ∈ gT := gT_in1 83 rfl rfl
theorem w_85 : (Jvm.Cond.superclass "VeilSearch$Filters" "java/lang/Object") ∈ gT := gT_in1 85 rfl rfl
theorem w_86 : (Jvm.Cond.arrayClass Jvm.ClassFile.FieldType.long) ∈ gT := gT_in1 86 rfl rfl
theorem w_87 : (Jvm.Cond.classLink "VeilSearch" (23 : Nat) "VeilSearch$Query") ∈ gT := gT_in1 87 rfl rfl
theorem w_88 : (Jvm.Cond.instantiable "VeilSearch$Query" (7 : Nat)) ∈ gT := gT_in1 88 rfl rfl
theorem w_89 : (Jvm.Cond.methodLinkNest "VeilSearch" (25 : Nat) ({ cls := "VeilSearch$Query", name := "<init>", desc := "()V" } : Jvm.MethodName) "VeilSearch") ∈ gN := gN_in1 89 rfl rfl
theorem w_90 : (Jvm.Cond.instanceMethod ({ cls := "VeilSearch$Query", name := "<init>", desc := "()V" } : Jvm.MethodName)) ∈ gT := gT_in1 90 rfl rfl
theorem w_91 : (Jvm.Cond.code ({ cls := "VeilSearch$Query", name := "<init>", desc := "()V" } : Jvm.MethodName) prog_5_method_1_code (1 : Nat) (Option.none : Option Jvm.ClassFile.FieldType)) ∈ gT := gT_in1 91 rfl rfl
theorem w_92 : (Jvm.Cond.methodLink "VeilSearch$Query" (3 : Nat) ({ cls := "java/lang/Object", name := "<init>", desc := "()V" } : Jvm.MethodName)) ∈ gT := gT_in1 92 rfl rfl
theorem w_93 : (Jvm.Cond.fieldLink "VeilSearch$Query" (9 : Nat) "VeilSearch$Query" "sorts" "[I") ∈ gT := gT_in1 93 rfl rfl
theorem w_94 : (Jvm.Cond.fieldLink "VeilSearch$Query" (15 : Nat) "VeilSearch$Query" "terms" "[I") ∈ gT := gT_in1 94 rfl rfl
theorem w_95 : (Jvm.Cond.fieldLink "VeilSearch$Query" (18 : Nat) "VeilSearch$Query" "fields" "[I") ∈ gT := gT_in1 95 rfl rfl
theorem w_96 : (Jvm.Cond.fieldLink "VeilSearch$Query" (21 : Nat) "VeilSearch$Query" "weights" "[F") ∈ gT := gT_in1 96 rfl rfl
theorem w_97 : (Jvm.Cond.fieldLink "VeilSearch$Query" (25 : Nat) "VeilSearch$Query" "open" "[Z") ∈ gT := gT_in1 97 rfl rfl
theorem w_98 : (Jvm.Cond.fieldLink "VeilSearch$Query" (29 : Nat) "VeilSearch$Query" "veiledMust" "Z") ∈ gT := gT_in1 98 rfl rfl
theorem w_99 : (Jvm.Cond.fieldLink "VeilSearch$Query" (33 : Nat) "VeilSearch$Query" "size" "I") ∈ gT := gT_in1 99 rfl rfl
theorem w_100 : (Jvm.Cond.fieldLinkNest "VeilSearch" (176 : Nat) "VeilSearch$Query" "size" "I" "VeilSearch") ∈ gN := gN_in1 100 rfl rfl
theorem w_101 : (Jvm.Cond.laysFinal "VeilSearch$Query" "VeilSearch$Query" "sorts" "[I") ∈ gT := gT_in1 101 rfl rfl
theorem w_103 : (Jvm.Cond.laysFinal "VeilSearch$Query" "VeilSearch$Query" "terms" "[I") ∈ gT := gT_in1 103 rfl rfl
theorem w_105 : (Jvm.Cond.laysFinal "VeilSearch$Query" "VeilSearch$Query" "fields" "[I") ∈ gT := gT_in1 105 rfl rfl
theorem w_107 : (Jvm.Cond.laysFinal "VeilSearch$Query" "VeilSearch$Query" "weights" "[F") ∈ gT := gT_in1 107 rfl rfl
theorem w_109 : (Jvm.Cond.laysFinal "VeilSearch$Query" "VeilSearch$Query" "open" "[Z") ∈ gT := gT_in1 109 rfl rfl
theorem w_111 : (Jvm.Cond.lays "VeilSearch$Query" "VeilSearch$Query" "veiledMust" "Z") ∈ gT := gT_in1 111 rfl rfl
theorem w_113 : (Jvm.Cond.lays "VeilSearch$Query" "VeilSearch$Query" "size" "I") ∈ gT := gT_in1 113 rfl rfl
theorem w_115 : (Jvm.Cond.superclass "VeilSearch$Query" "java/lang/Object") ∈ gT := gT_in1 115 rfl rfl
theorem w_116 : (Jvm.Cond.arrayClass Jvm.ClassFile.FieldType.float) ∈ gT := gT_in1 116 rfl rfl
theorem w_117 : (Jvm.Cond.arrayClass Jvm.ClassFile.FieldType.boolean) ∈ gT := gT_in1 117 rfl rfl
theorem w_118 : (Jvm.Cond.classLink "VeilSearch" (30 : Nat) "VeilSearch$Hits") ∈ gT := gT_in1 118 rfl rfl
theorem w_119 : (Jvm.Cond.instantiable "VeilSearch$Hits" (4 : Nat)) ∈ gT := gT_in1 119 rfl rfl
theorem w_120 : (Jvm.Cond.methodLinkNest "VeilSearch" (32 : Nat) ({ cls := "VeilSearch$Hits", name := "<init>", desc := "()V" } : Jvm.MethodName) "VeilSearch") ∈ gN := gN_in1 120 rfl rfl
theorem w_121 : (Jvm.Cond.instanceMethod ({ cls := "VeilSearch$Hits", name := "<init>", desc := "()V" } : Jvm.MethodName)) ∈ gT := gT_in1 121 rfl rfl
theorem w_122 : (Jvm.Cond.code ({ cls := "VeilSearch$Hits", name := "<init>", desc := "()V" } : Jvm.MethodName) prog_4_method_1_code (1 : Nat) (Option.none : Option Jvm.ClassFile.FieldType)) ∈ gT := gT_in1 122 rfl rfl
theorem w_123 : (Jvm.Cond.methodLink "VeilSearch$Hits" (3 : Nat) ({ cls := "java/lang/Object", name := "<init>", desc := "()V" } : Jvm.MethodName)) ∈ gT := gT_in1 123 rfl rfl
theorem w_124 : (Jvm.Cond.fieldLink "VeilSearch$Hits" (9 : Nat) "VeilSearch$Hits" "ids" "[I") ∈ gT := gT_in1 124 rfl rfl
theorem w_125 : (Jvm.Cond.fieldLinkNest "VeilSearch" (207 : Nat) "VeilSearch$Hits" "ids" "[I" "VeilSearch") ∈ gN := gN_in1 125 rfl rfl
theorem w_126 : (Jvm.Cond.fieldLink "VeilSearch$Hits" (15 : Nat) "VeilSearch$Hits" "scores" "[F") ∈ gT := gT_in1 126 rfl rfl
theorem w_127 : (Jvm.Cond.fieldLinkNest "VeilSearch" (209 : Nat) "VeilSearch$Hits" "scores" "[F" "VeilSearch") ∈ gN := gN_in1 127 rfl rfl
theorem w_128 : (Jvm.Cond.fieldLink "VeilSearch$Hits" (19 : Nat) "VeilSearch$Hits" "size" "I") ∈ gT := gT_in1 128 rfl rfl
theorem w_129 : (Jvm.Cond.fieldLinkNest "VeilSearch" (203 : Nat) "VeilSearch$Hits" "size" "I" "VeilSearch") ∈ gN := gN_in1 129 rfl rfl
theorem w_130 : (Jvm.Cond.fieldLink "VeilSearch$Hits" (23 : Nat) "VeilSearch$Hits" "most" "I") ∈ gT := gT_in1 130 rfl rfl
theorem w_131 : (Jvm.Cond.fieldLinkNest "VeilSearch" (260 : Nat) "VeilSearch$Hits" "most" "I" "VeilSearch") ∈ gN := gN_in1 131 rfl rfl
theorem w_132 : (Jvm.Cond.laysFinal "VeilSearch$Hits" "VeilSearch$Hits" "ids" "[I") ∈ gT := gT_in1 132 rfl rfl
theorem w_134 : (Jvm.Cond.laysFinal "VeilSearch$Hits" "VeilSearch$Hits" "scores" "[F") ∈ gT := gT_in1 134 rfl rfl
theorem w_136 : (Jvm.Cond.lays "VeilSearch$Hits" "VeilSearch$Hits" "size" "I") ∈ gT := gT_in1 136 rfl rfl
theorem w_138 : (Jvm.Cond.lays "VeilSearch$Hits" "VeilSearch$Hits" "most" "I") ∈ gT := gT_in1 138 rfl rfl
theorem w_140 : (Jvm.Cond.superclass "VeilSearch$Hits" "java/lang/Object") ∈ gT := gT_in1 140 rfl rfl
theorem w_141 : (Jvm.Cond.classLink "VeilSearch" (37 : Nat) "VeilSearch$View") ∈ gT := gT_in1 141 rfl rfl
theorem w_142 : (Jvm.Cond.instantiable "VeilSearch$View" (3 : Nat)) ∈ gT := gT_in1 142 rfl rfl
theorem w_143 : (Jvm.Cond.methodLinkNest "VeilSearch" (39 : Nat) ({ cls := "VeilSearch$View", name := "<init>", desc := "()V" } : Jvm.MethodName) "VeilSearch") ∈ gN := gN_in1 143 rfl rfl
theorem w_144 : (Jvm.Cond.instanceMethod ({ cls := "VeilSearch$View", name := "<init>", desc := "()V" } : Jvm.MethodName)) ∈ gT := gT_in1 144 rfl rfl
theorem w_145 : (Jvm.Cond.code ({ cls := "VeilSearch$View", name := "<init>", desc := "()V" } : Jvm.MethodName) prog_8_method_1_code (1 : Nat) (Option.none : Option Jvm.ClassFile.FieldType)) ∈ gT := gT_in1 145 rfl rfl
theorem w_146 : (Jvm.Cond.methodLink "VeilSearch$View" (1 : Nat) ({ cls := "java/lang/Object", name := "<init>", desc := "()V" } : Jvm.MethodName)) ∈ gT := gT_in1 146 rfl rfl
theorem w_147 : (Jvm.Cond.classLink "VeilSearch$View" (7 : Nat) "VeilSearch$Rights") ∈ gT := gT_in1 147 rfl rfl
theorem w_148 : (Jvm.Cond.instantiable "VeilSearch$Rights" (3 : Nat)) ∈ gT := gT_in1 148 rfl rfl
theorem w_149 : (Jvm.Cond.methodLinkNest "VeilSearch$View" (9 : Nat) ({ cls := "VeilSearch$Rights", name := "<init>", desc := "()V" } : Jvm.MethodName) "VeilSearch") ∈ gN := gN_in1 149 rfl rfl
theorem w_150 : (Jvm.Cond.instanceMethod ({ cls := "VeilSearch$Rights", name := "<init>", desc := "()V" } : Jvm.MethodName)) ∈ gT := gT_in1 150 rfl rfl
theorem w_151 : (Jvm.Cond.code ({ cls := "VeilSearch$Rights", name := "<init>", desc := "()V" } : Jvm.MethodName) prog_6_method_1_code (1 : Nat) (Option.none : Option Jvm.ClassFile.FieldType)) ∈ gT := gT_in1 151 rfl rfl
theorem w_152 : (Jvm.Cond.methodLink "VeilSearch$Rights" (3 : Nat) ({ cls := "java/lang/Object", name := "<init>", desc := "()V" } : Jvm.MethodName)) ∈ gT := gT_in1 152 rfl rfl
theorem w_153 : (Jvm.Cond.fieldLink "VeilSearch$Rights" (9 : Nat) "VeilSearch$Rights" "groupsOf" "[I") ∈ gT := gT_in1 153 rfl rfl
theorem w_154 : (Jvm.Cond.fieldLink "VeilSearch$Rights" (15 : Nat) "VeilSearch$Rights" "levels" "[I") ∈ gT := gT_in1 154 rfl rfl
theorem w_155 : (Jvm.Cond.fieldLinkNest "VeilSearch" (78 : Nat) "VeilSearch$Rights" "levels" "[I" "VeilSearch") ∈ gN := gN_in1 155 rfl rfl
theorem w_156 : (Jvm.Cond.fieldLink "VeilSearch$Rights" (18 : Nat) "VeilSearch$Rights" "clearances" "[I") ∈ gT := gT_in1 156 rfl rfl
theorem w_157 : (Jvm.Cond.fieldLinkNest "VeilSearch" (82 : Nat) "VeilSearch$Rights" "clearances" "[I" "VeilSearch") ∈ gN := gN_in1 157 rfl rfl
theorem w_158 : (Jvm.Cond.laysFinal "VeilSearch$Rights" "VeilSearch$Rights" "groupsOf" "[I") ∈ gT := gT_in1 158 rfl rfl
theorem w_160 : (Jvm.Cond.laysFinal "VeilSearch$Rights" "VeilSearch$Rights" "levels" "[I") ∈ gT := gT_in1 160 rfl rfl
theorem w_162 : (Jvm.Cond.laysFinal "VeilSearch$Rights" "VeilSearch$Rights" "clearances" "[I") ∈ gT := gT_in1 162 rfl rfl
theorem w_164 : (Jvm.Cond.superclass "VeilSearch$Rights" "java/lang/Object") ∈ gT := gT_in1 164 rfl rfl
theorem w_165 : (Jvm.Cond.classLink "VeilSearch$View" (16 : Nat) "VeilSearch$Segments") ∈ gT := gT_in1 165 rfl rfl
theorem w_166 : (Jvm.Cond.instantiable "VeilSearch$Segments" (3 : Nat)) ∈ gT := gT_in1 166 rfl rfl
theorem w_167 : (Jvm.Cond.methodLinkNest "VeilSearch$View" (18 : Nat) ({ cls := "VeilSearch$Segments", name := "<init>", desc := "()V" } : Jvm.MethodName) "VeilSearch") ∈ gN := gN_in1 167 rfl rfl
theorem w_168 : (Jvm.Cond.instanceMethod ({ cls := "VeilSearch$Segments", name := "<init>", desc := "()V" } : Jvm.MethodName)) ∈ gT := gT_in1 168 rfl rfl
theorem w_169 : (Jvm.Cond.code ({ cls := "VeilSearch$Segments", name := "<init>", desc := "()V" } : Jvm.MethodName) prog_7_method_1_code (1 : Nat) (Option.none : Option Jvm.ClassFile.FieldType)) ∈ gT := gT_in1 169 rfl rfl
theorem w_170 : (Jvm.Cond.methodLink "VeilSearch$Segments" (3 : Nat) ({ cls := "java/lang/Object", name := "<init>", desc := "()V" } : Jvm.MethodName)) ∈ gT := gT_in1 170 rfl rfl
theorem w_171 : (Jvm.Cond.fieldLink "VeilSearch$Segments" (9 : Nat) "VeilSearch$Segments" "numbers" "[I") ∈ gT := gT_in1 171 rfl rfl
theorem w_172 : (Jvm.Cond.fieldLinkNest "VeilSearch" (189 : Nat) "VeilSearch$Segments" "numbers" "[I" "VeilSearch") ∈ gN := gN_in1 172 rfl rfl
theorem w_173 : (Jvm.Cond.fieldLink "VeilSearch$Segments" (15 : Nat) "VeilSearch$Segments" "ids" "[J") ∈ gT := gT_in1 173 rfl rfl
theorem w_174 : (Jvm.Cond.fieldLinkNest "VeilSearch" (192 : Nat) "VeilSearch$Segments" "ids" "[J" "VeilSearch") ∈ gN := gN_in1 174 rfl rfl
theorem w_175 : (Jvm.Cond.fieldLink "VeilSearch$Segments" (19 : Nat) "VeilSearch$Segments" "size" "I") ∈ gT := gT_in1 175 rfl rfl
theorem w_176 : (Jvm.Cond.fieldLinkNest "VeilSearch" (139 : Nat) "VeilSearch$Segments" "size" "I" "VeilSearch") ∈ gN := gN_in1 176 rfl rfl
theorem w_177 : (Jvm.Cond.laysFinal "VeilSearch$Segments" "VeilSearch$Segments" "numbers" "[I") ∈ gT := gT_in1 177 rfl rfl
theorem w_179 : (Jvm.Cond.laysFinal "VeilSearch$Segments" "VeilSearch$Segments" "ids" "[J") ∈ gT := gT_in1 179 rfl rfl
theorem w_181 : (Jvm.Cond.lays "VeilSearch$Segments" "VeilSearch$Segments" "size" "I") ∈ gT := gT_in1 181 rfl rfl
theorem w_183 : (Jvm.Cond.superclass "VeilSearch$Segments" "java/lang/Object") ∈ gT := gT_in1 183 rfl rfl
theorem w_184 : (Jvm.Cond.fieldLink "VeilSearch$View" (10 : Nat) "VeilSearch$View" "rights" "LVeilSearch$Rights;") ∈ gT := gT_in1 184 rfl rfl
theorem w_185 : (Jvm.Cond.fieldLinkNest "VeilSearch" (68 : Nat) "VeilSearch$View" "rights" "LVeilSearch$Rights;" "VeilSearch") ∈ gN := gN_in1 185 rfl rfl
theorem w_186 : (Jvm.Cond.fieldLink "VeilSearch$View" (19 : Nat) "VeilSearch$View" "segments" "LVeilSearch$Segments;") ∈ gT := gT_in1 186 rfl rfl
theorem w_187 : (Jvm.Cond.fieldLinkNest "VeilSearch" (135 : Nat) "VeilSearch$View" "segments" "LVeilSearch$Segments;" "VeilSearch") ∈ gN := gN_in1 187 rfl rfl
theorem w_188 : (Jvm.Cond.fieldLink "VeilSearch$View" (23 : Nat) "VeilSearch$View" "removed" "J") ∈ gT := gT_in1 188 rfl rfl
theorem w_189 : (Jvm.Cond.fieldLinkNest "VeilSearch" (123 : Nat) "VeilSearch$View" "removed" "J" "VeilSearch") ∈ gN := gN_in1 189 rfl rfl
theorem w_190 : (Jvm.Cond.laysFinal "VeilSearch$View" "VeilSearch$View" "rights" "LVeilSearch$Rights;") ∈ gT := gT_in1 190 rfl rfl
theorem w_192 : (Jvm.Cond.laysFinal "VeilSearch$View" "VeilSearch$View" "segments" "LVeilSearch$Segments;") ∈ gT := gT_in1 192 rfl rfl
theorem w_194 : (Jvm.Cond.lays "VeilSearch$View" "VeilSearch$View" "removed" "J") ∈ gT := gT_in1 194 rfl rfl
theorem w_196 : (Jvm.Cond.superclass "VeilSearch$View" "java/lang/Object") ∈ gT := gT_in1 196 rfl rfl
theorem w_197 : (Jvm.Cond.fieldLink "VeilSearch" (12 : Nat) "VeilSearch" "documents" "LVeilSearch$Documents;") ∈ gT := gT_in1 197 rfl rfl
theorem w_198 : (Jvm.Cond.fieldLink "VeilSearch" (19 : Nat) "VeilSearch" "filters" "LVeilSearch$Filters;") ∈ gT := gT_in1 198 rfl rfl
theorem w_199 : (Jvm.Cond.fieldLink "VeilSearch" (26 : Nat) "VeilSearch" "query" "LVeilSearch$Query;") ∈ gT := gT_in1 199 rfl rfl
theorem w_200 : (Jvm.Cond.fieldLink "VeilSearch" (33 : Nat) "VeilSearch" "hits" "LVeilSearch$Hits;") ∈ gT := gT_in1 200 rfl rfl
theorem w_201 : (Jvm.Cond.fieldLink "VeilSearch" (40 : Nat) "VeilSearch" "now" "LVeilSearch$View;") ∈ gT := gT_in1 201 rfl rfl
theorem w_202 : (Jvm.Cond.fieldLink "VeilSearch" (44 : Nat) "VeilSearch" "seen" "LVeilSearch$View;") ∈ gT := gT_in1 202 rfl rfl
theorem w_203 : (Jvm.Cond.fieldLink "VeilSearch" (47 : Nat) "VeilSearch" "buffer" "J") ∈ gT := gT_in1 203 rfl rfl
theorem w_204 : (Jvm.Cond.fieldLink "VeilSearch" (51 : Nat) "VeilSearch" "segmentsMade" "I") ∈ gT := gT_in1 204 rfl rfl
theorem w_205 : (Jvm.Cond.fieldLink "VeilSearch" (55 : Nat) "VeilSearch" "blocksLooked" "I") ∈ gT := gT_in1 205 rfl rfl
theorem w_206 : (Jvm.Cond.fieldLink "VeilSearch" (58 : Nat) "VeilSearch" "documentsFound" "I") ∈ gT := gT_in1 206 rfl rfl
theorem w_207 : (Jvm.Cond.laysFinal "VeilSearch" "VeilSearch" "documents" "LVeilSearch$Documents;") ∈ gT := gT_in1 207 rfl rfl
theorem w_209 : (Jvm.Cond.laysFinal "VeilSearch" "VeilSearch" "filters" "LVeilSearch$Filters;") ∈ gT := gT_in1 209 rfl rfl
theorem w_211 : (Jvm.Cond.laysFinal "VeilSearch" "VeilSearch" "query" "LVeilSearch$Query;") ∈ gT := gT_in1 211 rfl rfl
theorem w_213 : (Jvm.Cond.laysFinal "VeilSearch" "VeilSearch" "hits" "LVeilSearch$Hits;") ∈ gT := gT_in1 213 rfl rfl
theorem w_215 : (Jvm.Cond.laysFinal "VeilSearch" "VeilSearch" "now" "LVeilSearch$View;") ∈ gT := gT_in1 215 rfl rfl
theorem w_217 : (Jvm.Cond.laysFinal "VeilSearch" "VeilSearch" "seen" "LVeilSearch$View;") ∈ gT := gT_in1 217 rfl rfl
theorem w_219 : (Jvm.Cond.lays "VeilSearch" "VeilSearch" "buffer" "J") ∈ gT := gT_in1 219 rfl rfl
theorem w_221 : (Jvm.Cond.lays "VeilSearch" "VeilSearch" "segmentsMade" "I") ∈ gT := gT_in1 221 rfl rfl
theorem w_223 : (Jvm.Cond.lays "VeilSearch" "VeilSearch" "blocksLooked" "I") ∈ gT := gT_in1 223 rfl rfl
theorem w_225 : (Jvm.Cond.lays "VeilSearch" "VeilSearch" "documentsFound" "I") ∈ gT := gT_in1 225 rfl rfl
theorem w_227 : (Jvm.Cond.superclass "VeilSearch" "java/lang/Object") ∈ gT := gT_in1 227 rfl rfl
theorem w_228 : (Jvm.Cond.methodLink "VeilSearchLaw" (114 : Nat) ({ cls := "VeilSearch", name := "merge", desc := "()I" } : Jvm.MethodName)) ∈ gT := gT_in1 228 rfl rfl
theorem w_229 : (Jvm.Cond.instanceMethod ({ cls := "VeilSearch", name := "merge", desc := "()I" } : Jvm.MethodName)) ∈ gT := gT_in1 229 rfl rfl
theorem w_230 : (Jvm.Cond.selects "VeilSearch" ({ cls := "VeilSearch", name := "merge", desc := "()I" } : Jvm.MethodName) ({ cls := "VeilSearch", name := "merge", desc := "()I" } : Jvm.MethodName)) ∈ gT := gT_in1 230 rfl rfl
theorem w_231 : (Jvm.Cond.code ({ cls := "VeilSearch", name := "merge", desc := "()I" } : Jvm.MethodName) prog_1_method_10_code (5 : Nat) (Option.some Jvm.ClassFile.FieldType.int)) ∈ gT := gT_in1 231 rfl rfl
theorem w_232 : (Jvm.Cond.methodLink "VeilSearch" (154 : Nat) ({ cls := "VeilSearch$Segments", name := "allIds", desc := "()J" } : Jvm.MethodName)) ∈ gT := gT_in1 232 rfl rfl
theorem w_233 : (Jvm.Cond.instanceMethod ({ cls := "VeilSearch$Segments", name := "allIds", desc := "()J" } : Jvm.MethodName)) ∈ gT := gT_in1 233 rfl rfl
theorem w_234 : (Jvm.Cond.selects "VeilSearch$Segments" ({ cls := "VeilSearch$Segments", name := "allIds", desc := "()J" } : Jvm.MethodName) ({ cls := "VeilSearch$Segments", name := "allIds", desc := "()J" } : Jvm.MethodName)) ∈ gT := gT_in1 234 rfl rfl
theorem w_235 : (Jvm.Cond.code ({ cls := "VeilSearch$Segments", name := "allIds", desc := "()J" } : Jvm.MethodName) prog_7_method_3_code (4 : Nat) (Option.some Jvm.ClassFile.FieldType.long)) ∈ gT := gT_in1 235 rfl rfl
theorem w_236 : (Jvm.Cond.constantLong "VeilSearch" (133 : Nat) (-1 : Int64)) ∈ gT := gT_in1 236 rfl rfl
theorem w_237 : (Jvm.Cond.methodLink "VeilSearch" (150 : Nat) ({ cls := "VeilSearch", name := "appendSegment", desc := "(J)V" } : Jvm.MethodName)) ∈ gT := gT_in1 237 rfl rfl
theorem w_239 : (Jvm.Cond.instanceMethod ({ cls := "VeilSearch", name := "appendSegment", desc := "(J)V" } : Jvm.MethodName)) ∈ gT := gT_in1 239 rfl rfl
theorem w_240 : (Jvm.Cond.code ({ cls := "VeilSearch", name := "appendSegment", desc := "(J)V" } : Jvm.MethodName) prog_1_method_24_code (3 : Nat) (Option.none : Option Jvm.ClassFile.FieldType)) ∈ gT := gT_in2 0 rfl rfl
theorem w_241 : (Jvm.Cond.methodLink "VeilSearch" (237 : Nat) ({ cls := "VeilSearch$Segments", name := "append", desc := "(IJ)V" } : Jvm.MethodName)) ∈ gT := gT_in2 1 rfl rfl
theorem w_242 : (Jvm.Cond.instanceMethod ({ cls := "VeilSearch$Segments", name := "append", desc := "(IJ)V" } : Jvm.MethodName)) ∈ gT := gT_in2 2 rfl rfl
theorem w_243 : (Jvm.Cond.selects "VeilSearch$Segments" ({ cls := "VeilSearch$Segments", name := "append", desc := "(IJ)V" } : Jvm.MethodName) ({ cls := "VeilSearch$Segments", name := "append", desc := "(IJ)V" } : Jvm.MethodName)) ∈ gT := gT_in2 3 rfl rfl
theorem w_244 : (Jvm.Cond.code ({ cls := "VeilSearch$Segments", name := "append", desc := "(IJ)V" } : Jvm.MethodName) prog_7_method_2_code (4 : Nat) (Option.none : Option Jvm.ClassFile.FieldType)) ∈ gT := gT_in2 4 rfl rfl
theorem w_245 : (Jvm.Cond.methodLink "VeilSearch" (144 : Nat) ({ cls := "java/lang/Long", name := "bitCount", desc := "(J)I" } : Jvm.MethodName)) ∈ gT := gT_in2 5 rfl rfl
theorem w_246 : (Jvm.Cond.static ({ cls := "java/lang/Long", name := "bitCount", desc := "(J)I" } : Jvm.MethodName)) ∈ gT := gT_in2 6 rfl rfl
theorem w_247 : (Jvm.Cond.code ({ cls := "java/lang/Long", name := "bitCount", desc := "(J)I" } : Jvm.MethodName) prog_15_method_50_code (2 : Nat) (Option.some Jvm.ClassFile.FieldType.int)) ∈ gT := gT_in2 7 rfl rfl
theorem w_248 : (Jvm.Cond.constantLong "java/lang/Long" (314 : Nat) (6148914691236517205 : Int64)) ∈ gT := gT_in2 8 rfl rfl
theorem w_249 : (Jvm.Cond.constantLong "java/lang/Long" (316 : Nat) (3689348814741910323 : Int64)) ∈ gT := gT_in2 9 rfl rfl
theorem w_250 : (Jvm.Cond.constantLong "java/lang/Long" (318 : Nat) (1085102592571150095 : Int64)) ∈ gT := gT_in2 10 rfl rfl
theorem w_251 : (Jvm.Cond.methodLink "VeilSearchLaw" (118 : Nat) ({ cls := "VeilSearch", name := "refresh", desc := "()I" } : Jvm.MethodName)) ∈ gT := gT_in2 11 rfl rfl
theorem w_252 : (Jvm.Cond.instanceMethod ({ cls := "VeilSearch", name := "refresh", desc := "()I" } : Jvm.MethodName)) ∈ gT := gT_in2 12 rfl rfl
theorem w_253 : (Jvm.Cond.selects "VeilSearch" ({ cls := "VeilSearch", name := "refresh", desc := "()I" } : Jvm.MethodName) ({ cls := "VeilSearch", name := "refresh", desc := "()I" } : Jvm.MethodName)) ∈ gT := gT_in2 13 rfl rfl
theorem w_254 : (Jvm.Cond.code ({ cls := "VeilSearch", name := "refresh", desc := "()I" } : Jvm.MethodName) prog_1_method_11_code (2 : Nat) (Option.some Jvm.ClassFile.FieldType.int)) ∈ gT := gT_in2 14 rfl rfl
theorem w_255 : (Jvm.Cond.methodLink "VeilSearch" (158 : Nat) ({ cls := "VeilSearch$Rights", name := "sameAs", desc := "(LVeilSearch$Rights;)Z" } : Jvm.MethodName)) ∈ gT := gT_in2 15 rfl rfl
theorem w_256 : (Jvm.Cond.instanceMethod ({ cls := "VeilSearch$Rights", name := "sameAs", desc := "(LVeilSearch$Rights;)Z" } : Jvm.MethodName)) ∈ gT := gT_in2 16 rfl rfl
theorem w_257 : (Jvm.Cond.selects "VeilSearch$Rights" ({ cls := "VeilSearch$Rights", name := "sameAs", desc := "(LVeilSearch$Rights;)Z" } : Jvm.MethodName) ({ cls := "VeilSearch$Rights", name := "sameAs", desc := "(LVeilSearch$Rights;)Z" } : Jvm.MethodName)) ∈ gT := gT_in2 17 rfl rfl
theorem w_258 : (Jvm.Cond.code ({ cls := "VeilSearch$Rights", name := "sameAs", desc := "(LVeilSearch$Rights;)Z" } : Jvm.MethodName) prog_6_method_5_code (2 : Nat) (Option.some Jvm.ClassFile.FieldType.boolean)) ∈ gT := gT_in2 18 rfl rfl
theorem w_259 : (Jvm.Cond.methodLink "VeilSearch$Rights" (21 : Nat) ({ cls := "VeilSearch$Rights", name := "sameRow", desc := "([I[I)Z" } : Jvm.MethodName)) ∈ gT := gT_in2 19 rfl rfl
theorem w_260 : (Jvm.Cond.static ({ cls := "VeilSearch$Rights", name := "sameRow", desc := "([I[I)Z" } : Jvm.MethodName)) ∈ gT := gT_in2 20 rfl rfl
theorem w_261 : (Jvm.Cond.code ({ cls := "VeilSearch$Rights", name := "sameRow", desc := "([I[I)Z" } : Jvm.MethodName) prog_6_method_6_code (3 : Nat) (Option.some Jvm.ClassFile.FieldType.boolean)) ∈ gT := gT_in2 21 rfl rfl
theorem w_262 : (Jvm.Cond.methodLink "VeilSearch" (162 : Nat) ({ cls := "VeilSearch$View", name := "takeOver", desc := "(LVeilSearch$View;)V" } : Jvm.MethodName)) ∈ gT := gT_in2 22 rfl rfl
theorem w_263 : (Jvm.Cond.instanceMethod ({ cls := "VeilSearch$View", name := "takeOver", desc := "(LVeilSearch$View;)V" } : Jvm.MethodName)) ∈ gT := gT_in2 23 rfl rfl
theorem w_264 : (Jvm.Cond.selects "VeilSearch$View" ({ cls := "VeilSearch$View", name := "takeOver", desc := "(LVeilSearch$View;)V" } : Jvm.MethodName) ({ cls := "VeilSearch$View", name := "takeOver", desc := "(LVeilSearch$View;)V" } : Jvm.MethodName)) ∈ gT := gT_in2 24 rfl rfl
theorem w_265 : (Jvm.Cond.code ({ cls := "VeilSearch$View", name := "takeOver", desc := "(LVeilSearch$View;)V" } : Jvm.MethodName) prog_8_method_3_code (2 : Nat) (Option.none : Option Jvm.ClassFile.FieldType)) ∈ gT := gT_in2 25 rfl rfl
theorem w_266 : (Jvm.Cond.methodLink "VeilSearch$View" (33 : Nat) ({ cls := "VeilSearch$Rights", name := "takeOver", desc := "(LVeilSearch$Rights;)V" } : Jvm.MethodName)) ∈ gT := gT_in2 26 rfl rfl
theorem w_267 : (Jvm.Cond.instanceMethod ({ cls := "VeilSearch$Rights", name := "takeOver", desc := "(LVeilSearch$Rights;)V" } : Jvm.MethodName)) ∈ gT := gT_in2 27 rfl rfl
theorem w_268 : (Jvm.Cond.selects "VeilSearch$Rights" ({ cls := "VeilSearch$Rights", name := "takeOver", desc := "(LVeilSearch$Rights;)V" } : Jvm.MethodName) ({ cls := "VeilSearch$Rights", name := "takeOver", desc := "(LVeilSearch$Rights;)V" } : Jvm.MethodName)) ∈ gT := gT_in2 28 rfl rfl
theorem w_269 : (Jvm.Cond.code ({ cls := "VeilSearch$Rights", name := "takeOver", desc := "(LVeilSearch$Rights;)V" } : Jvm.MethodName) prog_6_method_7_code (2 : Nat) (Option.none : Option Jvm.ClassFile.FieldType)) ∈ gT := gT_in2 29 rfl rfl
theorem w_270 : (Jvm.Cond.methodLink "VeilSearch$Rights" (25 : Nat) ({ cls := "java/lang/System", name := "arraycopy", desc := "(Ljava/lang/Object;ILjava/lang/Object;II)V" } : Jvm.MethodName)) ∈ gT := gT_in2 30 rfl rfl
theorem w_271 : (Jvm.Cond.static ({ cls := "java/lang/System", name := "arraycopy", desc := "(Ljava/lang/Object;ILjava/lang/Object;II)V" } : Jvm.MethodName)) ∈ gT := gT_in2 31 rfl rfl
theorem w_272 : (Jvm.Cond.native ({ cls := "java/lang/System", name := "arraycopy", desc := "(Ljava/lang/Object;ILjava/lang/Object;II)V" } : Jvm.MethodName)) ∈ gT := gT_in2 32 rfl rfl
theorem w_273 : (Jvm.Cond.methodLink "VeilSearch$View" (37 : Nat) ({ cls := "VeilSearch$Segments", name := "takeOver", desc := "(LVeilSearch$Segments;)V" } : Jvm.MethodName)) ∈ gT := gT_in2 33 rfl rfl
theorem w_274 : (Jvm.Cond.instanceMethod ({ cls := "VeilSearch$Segments", name := "takeOver", desc := "(LVeilSearch$Segments;)V" } : Jvm.MethodName)) ∈ gT := gT_in2 34 rfl rfl
theorem w_275 : (Jvm.Cond.selects "VeilSearch$Segments" ({ cls := "VeilSearch$Segments", name := "takeOver", desc := "(LVeilSearch$Segments;)V" } : Jvm.MethodName) ({ cls := "VeilSearch$Segments", name := "takeOver", desc := "(LVeilSearch$Segments;)V" } : Jvm.MethodName)) ∈ gT := gT_in2 35 rfl rfl
theorem w_276 : (Jvm.Cond.code ({ cls := "VeilSearch$Segments", name := "takeOver", desc := "(LVeilSearch$Segments;)V" } : Jvm.MethodName) prog_7_method_5_code (2 : Nat) (Option.none : Option Jvm.ClassFile.FieldType)) ∈ gT := gT_in2 36 rfl rfl
theorem w_277 : (Jvm.Cond.methodLink "VeilSearch$Segments" (23 : Nat) ({ cls := "java/lang/System", name := "arraycopy", desc := "(Ljava/lang/Object;ILjava/lang/Object;II)V" } : Jvm.MethodName)) ∈ gT := gT_in2 37 rfl rfl
theorem w_278 : (Jvm.Cond.methodLink "VeilSearch" (166 : Nat) ({ cls := "VeilSearch$Filters", name := "dropAllBut", desc := "(LVeilSearch$Segments;)V" } : Jvm.MethodName)) ∈ gT := gT_in2 38 rfl rfl
theorem w_279 : (Jvm.Cond.instanceMethod ({ cls := "VeilSearch$Filters", name := "dropAllBut", desc := "(LVeilSearch$Segments;)V" } : Jvm.MethodName)) ∈ gT := gT_in2 39 rfl rfl
theorem w_280 : (Jvm.Cond.selects "VeilSearch$Filters" ({ cls := "VeilSearch$Filters", name := "dropAllBut", desc := "(LVeilSearch$Segments;)V" } : Jvm.MethodName) ({ cls := "VeilSearch$Filters", name := "dropAllBut", desc := "(LVeilSearch$Segments;)V" } : Jvm.MethodName)) ∈ gT := gT_in2 40 rfl rfl
theorem w_281 : (Jvm.Cond.code ({ cls := "VeilSearch$Filters", name := "dropAllBut", desc := "(LVeilSearch$Segments;)V" } : Jvm.MethodName) prog_3_method_5_code (3 : Nat) (Option.none : Option Jvm.ClassFile.FieldType)) ∈ gT := gT_in2 41 rfl rfl
theorem w_282 : (Jvm.Cond.methodLink "VeilSearch$Filters" (40 : Nat) ({ cls := "VeilSearch$Segments", name := "hasNumber", desc := "(I)Z" } : Jvm.MethodName)) ∈ gT := gT_in2 42 rfl rfl
theorem w_283 : (Jvm.Cond.instanceMethod ({ cls := "VeilSearch$Segments", name := "hasNumber", desc := "(I)Z" } : Jvm.MethodName)) ∈ gT := gT_in2 43 rfl rfl
theorem w_284 : (Jvm.Cond.selects "VeilSearch$Segments" ({ cls := "VeilSearch$Segments", name := "hasNumber", desc := "(I)Z" } : Jvm.MethodName) ({ cls := "VeilSearch$Segments", name := "hasNumber", desc := "(I)Z" } : Jvm.MethodName)) ∈ gT := gT_in2 44 rfl rfl
theorem w_285 : (Jvm.Cond.code ({ cls := "VeilSearch$Segments", name := "hasNumber", desc := "(I)Z" } : Jvm.MethodName) prog_7_method_4_code (3 : Nat) (Option.some Jvm.ClassFile.FieldType.boolean)) ∈ gT := gT_in2 45 rfl rfl
theorem w_286 : (Jvm.Cond.methodLink "VeilSearch$Filters" (32 : Nat) ({ cls := "VeilSearch$Filters", name := "drop", desc := "(I)V" } : Jvm.MethodName)) ∈ gT := gT_in2 46 rfl rfl
theorem w_288 : (Jvm.Cond.instanceMethod ({ cls := "VeilSearch$Filters", name := "drop", desc := "(I)V" } : Jvm.MethodName)) ∈ gT := gT_in2 48 rfl rfl
theorem w_289 : (Jvm.Cond.code ({ cls := "VeilSearch$Filters", name := "drop", desc := "(I)V" } : Jvm.MethodName) prog_3_method_7_code (3 : Nat) (Option.none : Option Jvm.ClassFile.FieldType)) ∈ gT := gT_in2 49 rfl rfl
theorem w_290 : (Jvm.Cond.methodLink "VeilSearch" (173 : Nat) ({ cls := "VeilSearch$View", name := "livingIds", desc := "()J" } : Jvm.MethodName)) ∈ gT := gT_in2 50 rfl rfl
theorem w_291 : (Jvm.Cond.instanceMethod ({ cls := "VeilSearch$View", name := "livingIds", desc := "()J" } : Jvm.MethodName)) ∈ gT := gT_in2 51 rfl rfl
theorem w_292 : (Jvm.Cond.selects "VeilSearch$View" ({ cls := "VeilSearch$View", name := "livingIds", desc := "()J" } : Jvm.MethodName) ({ cls := "VeilSearch$View", name := "livingIds", desc := "()J" } : Jvm.MethodName)) ∈ gT := gT_in2 52 rfl rfl
theorem w_293 : (Jvm.Cond.code ({ cls := "VeilSearch$View", name := "livingIds", desc := "()J" } : Jvm.MethodName) prog_8_method_2_code (1 : Nat) (Option.some Jvm.ClassFile.FieldType.long)) ∈ gT := gT_in2 53 rfl rfl
theorem w_294 : (Jvm.Cond.methodLink "VeilSearch$View" (27 : Nat) ({ cls := "VeilSearch$Segments", name := "allIds", desc := "()J" } : Jvm.MethodName)) ∈ gT := gT_in2 54 rfl rfl
theorem w_295 : (Jvm.Cond.constantLong "VeilSearch$View" (31 : Nat) (-1 : Int64)) ∈ gT := gT_in2 55 rfl rfl
theorem w_296 : (Jvm.Cond.methodLink "VeilSearchLaw" (126 : Nat) ({ cls := "VeilSearch", name := "clear", desc := "()I" } : Jvm.MethodName)) ∈ gT := gT_in2 56 rfl rfl
theorem w_297 : (Jvm.Cond.instanceMethod ({ cls := "VeilSearch", name := "clear", desc := "()I" } : Jvm.MethodName)) ∈ gT := gT_in2 57 rfl rfl
theorem w_298 : (Jvm.Cond.selects "VeilSearch" ({ cls := "VeilSearch", name := "clear", desc := "()I" } : Jvm.MethodName) ({ cls := "VeilSearch", name := "clear", desc := "()I" } : Jvm.MethodName)) ∈ gT := gT_in2 58 rfl rfl
theorem w_299 : (Jvm.Cond.code ({ cls := "VeilSearch", name := "clear", desc := "()I" } : Jvm.MethodName) prog_1_method_13_code (2 : Nat) (Option.some Jvm.ClassFile.FieldType.int)) ∈ gT := gT_in2 59 rfl rfl
theorem w_300 : (Jvm.Cond.methodLink "VeilSearchLaw" (75 : Nat) ({ cls := "VeilSearchLaw", name := "member", desc := "(LVeilSearch;IIZ[J)I" } : Jvm.MethodName)) ∈ gT := gT_in2 60 rfl rfl
theorem w_301 : (Jvm.Cond.static ({ cls := "VeilSearchLaw", name := "member", desc := "(LVeilSearch;IIZ[J)I" } : Jvm.MethodName)) ∈ gT := gT_in2 61 rfl rfl
theorem w_302 : (Jvm.Cond.codeWith ({ cls := "VeilSearchLaw", name := "member", desc := "(LVeilSearch;IIZ[J)I" } : Jvm.MethodName) method_3_code (6 : Nat) (Option.some Jvm.ClassFile.FieldType.int) [((0 : Nat), (19 : Nat), (22 : Nat), (13 : Nat))]) ∈ gT := gT_in2 62 rfl rfl
theorem w_303 : (Jvm.Cond.classLink "VeilSearchLaw" (13 : Nat) "java/lang/IllegalArgumentException") ∈ gT := gT_in2 63 rfl rfl
theorem w_304 : (Jvm.Cond.methodLink "VeilSearchLaw" (7 : Nat) ({ cls := "VeilSearch", name := "member", desc := "(IIZ)Z" } : Jvm.MethodName)) ∈ gT := gT_in2 64 rfl rfl
theorem w_305 : (Jvm.Cond.instanceMethod ({ cls := "VeilSearch", name := "member", desc := "(IIZ)Z" } : Jvm.MethodName)) ∈ gT := gT_in2 65 rfl rfl
theorem w_306 : (Jvm.Cond.selects "VeilSearch" ({ cls := "VeilSearch", name := "member", desc := "(IIZ)Z" } : Jvm.MethodName) ({ cls := "VeilSearch", name := "member", desc := "(IIZ)Z" } : Jvm.MethodName)) ∈ gT := gT_in2 66 rfl rfl
theorem w_307 : (Jvm.Cond.code ({ cls := "VeilSearch", name := "member", desc := "(IIZ)Z" } : Jvm.MethodName) prog_1_method_2_code (4 : Nat) (Option.some Jvm.ClassFile.FieldType.boolean)) ∈ gT := gT_in2 67 rfl rfl
theorem w_308 : (Jvm.Cond.methodLink "VeilSearch" (61 : Nat) ({ cls := "VeilSearch", name := "isBelow", desc := "(II)Z" } : Jvm.MethodName)) ∈ gT := gT_in2 68 rfl rfl
theorem w_309 : (Jvm.Cond.static ({ cls := "VeilSearch", name := "isBelow", desc := "(II)Z" } : Jvm.MethodName)) ∈ gT := gT_in2 69 rfl rfl
theorem w_310 : (Jvm.Cond.code ({ cls := "VeilSearch", name := "isBelow", desc := "(II)Z" } : Jvm.MethodName) prog_1_method_19_code (2 : Nat) (Option.some Jvm.ClassFile.FieldType.boolean)) ∈ gT := gT_in2 70 rfl rfl
theorem w_311 : (Jvm.Cond.classLink "VeilSearch" (65 : Nat) "java/lang/IllegalArgumentException") ∈ gT := gT_in2 71 rfl rfl
theorem w_312 : (Jvm.Cond.instantiable "java/lang/IllegalArgumentException" (6 : Nat)) ∈ gT := gT_in2 72 rfl rfl
theorem w_313 : (Jvm.Cond.castable "java/lang/IllegalArgumentException" "java/lang/IllegalArgumentException") ∈ gN := gN_in2 73 rfl rfl
theorem w_314 : (Jvm.Cond.declares ({ cls := "java/lang/RuntimeException", name := "<init>", desc := "()V" } : Jvm.MethodName)) ∈ gN := gN_in2 74 rfl rfl
theorem w_315 : (Jvm.Cond.declares ({ cls := "java/lang/RuntimeException", name := "<init>", desc := "(Ljava/lang/String;)V" } : Jvm.MethodName)) ∈ gN := gN_in2 75 rfl rfl
theorem w_316 : (Jvm.Cond.declares ({ cls := "java/lang/Exception", name := "<init>", desc := "()V" } : Jvm.MethodName)) ∈ gN := gN_in2 76 rfl rfl
theorem w_317 : (Jvm.Cond.declares ({ cls := "java/lang/Exception", name := "<init>", desc := "(Ljava/lang/String;)V" } : Jvm.MethodName)) ∈ gN := gN_in2 77 rfl rfl
theorem w_318 : (Jvm.Cond.declares ({ cls := "java/lang/Throwable", name := "<init>", desc := "()V" } : Jvm.MethodName)) ∈ gN := gN_in2 78 rfl rfl
theorem w_319 : (Jvm.Cond.declares ({ cls := "java/lang/Throwable", name := "<init>", desc := "(Ljava/lang/String;)V" } : Jvm.MethodName)) ∈ gN := gN_in2 79 rfl rfl
theorem w_320 : (Jvm.Cond.selects "java/lang/IllegalArgumentException" ({ cls := "java/lang/Throwable", name := "fillInStackTrace", desc := "(I)Ljava/lang/Throwable;" } : Jvm.MethodName) ({ cls := "java/lang/Throwable", name := "fillInStackTrace", desc := "(I)Ljava/lang/Throwable;" } : Jvm.MethodName)) ∈ gT := gT_in2 80 rfl rfl
theorem w_321 : (Jvm.Cond.selects "java/lang/IllegalArgumentException" ({ cls := "java/lang/Throwable", name := "fillInStackTrace", desc := "()Ljava/lang/Throwable;" } : Jvm.MethodName) ({ cls := "java/lang/Throwable", name := "fillInStackTrace", desc := "()Ljava/lang/Throwable;" } : Jvm.MethodName)) ∈ gT := gT_in2 81 rfl rfl
theorem w_322 : (Jvm.Cond.lays "java/lang/IllegalArgumentException" "java/lang/Throwable" "cause" "Ljava/lang/Throwable;") ∈ gT := gT_in2 82 rfl rfl
theorem w_323 : (Jvm.Cond.lays "java/lang/Throwable" "java/lang/Throwable" "cause" "Ljava/lang/Throwable;") ∈ gT := gT_in2 83 rfl rfl
theorem w_324 : (Jvm.Cond.lays "java/lang/IllegalArgumentException" "java/lang/Throwable" "stackTrace" "[Ljava/lang/StackTraceElement;") ∈ gT := gT_in2 84 rfl rfl
theorem w_325 : (Jvm.Cond.lays "java/lang/Throwable" "java/lang/Throwable" "stackTrace" "[Ljava/lang/StackTraceElement;") ∈ gT := gT_in2 85 rfl rfl
theorem w_326 : (Jvm.Cond.lays "java/lang/IllegalArgumentException" "java/lang/Throwable" "suppressedExceptions" "Ljava/util/List;") ∈ gT := gT_in2 86 rfl rfl
theorem w_327 : (Jvm.Cond.lays "java/lang/Throwable" "java/lang/Throwable" "suppressedExceptions" "Ljava/util/List;") ∈ gT := gT_in2 87 rfl rfl
theorem w_328 : (Jvm.Cond.lays "java/lang/IllegalArgumentException" "java/lang/Throwable" "detailMessage" "Ljava/lang/String;") ∈ gT := gT_in2 88 rfl rfl
theorem w_329 : (Jvm.Cond.lays "java/lang/Throwable" "java/lang/Throwable" "detailMessage" "Ljava/lang/String;") ∈ gT := gT_in2 89 rfl rfl
theorem w_330 : (Jvm.Cond.lays "java/lang/IllegalArgumentException" "java/lang/Throwable" "backtrace" "Ljava/lang/Object;") ∈ gT := gT_in2 90 rfl rfl
theorem w_331 : (Jvm.Cond.lays "java/lang/Throwable" "java/lang/Throwable" "backtrace" "Ljava/lang/Object;") ∈ gT := gT_in2 91 rfl rfl
theorem w_332 : (Jvm.Cond.fieldLink "java/lang/Throwable" (198 : Nat) "java/lang/Throwable" "backtrace" "Ljava/lang/Object;") ∈ gT := gT_in2 92 rfl rfl
theorem w_333 : (Jvm.Cond.superclass "java/lang/Throwable" "java/lang/Object") ∈ gT := gT_in2 93 rfl rfl
theorem w_334 : (Jvm.Cond.instanceMethod ({ cls := "java/lang/Throwable", name := "<init>", desc := "()V" } : Jvm.MethodName)) ∈ gT := gT_in2 94 rfl rfl
theorem w_335 : (Jvm.Cond.code ({ cls := "java/lang/Throwable", name := "<init>", desc := "()V" } : Jvm.MethodName) prog_19_method_1_code (1 : Nat) (Option.none : Option Jvm.ClassFile.FieldType)) ∈ gT := gT_in2 95 rfl rfl
theorem w_336 : (Jvm.Cond.methodLink "java/lang/Throwable" (1 : Nat) ({ cls := "java/lang/Object", name := "<init>", desc := "()V" } : Jvm.MethodName)) ∈ gT := gT_in2 96 rfl rfl
theorem w_337 : (Jvm.Cond.fieldLink "java/lang/Throwable" (13 : Nat) "java/lang/Throwable" "UNASSIGNED_STACK" "[Ljava/lang/StackTraceElement;") ∈ gT := gT_in2 97 rfl rfl
theorem w_339 : (Jvm.Cond.fieldLink "java/lang/Throwable" (20 : Nat) "java/lang/Throwable" "SUPPRESSED_SENTINEL" "Ljava/util/List;") ∈ gT := gT_in2 99 rfl rfl
theorem w_341 : (Jvm.Cond.methodLink "java/lang/Throwable" (27 : Nat) ({ cls := "java/lang/Throwable", name := "fillInStackTrace", desc := "()Ljava/lang/Throwable;" } : Jvm.MethodName)) ∈ gT := gT_in2 101 rfl rfl
theorem w_342 : (Jvm.Cond.instanceMethod ({ cls := "java/lang/Throwable", name := "fillInStackTrace", desc := "()Ljava/lang/Throwable;" } : Jvm.MethodName)) ∈ gT := gT_in2 102 rfl rfl
theorem w_343 : (Jvm.Cond.sameMethod "java/lang/Throwable" "java/lang/Throwable" "fillInStackTrace" "()Ljava/lang/Throwable;") ∈ gT := gT_in2 103 rfl rfl
theorem w_344 : (Jvm.Cond.selects "java/lang/IllegalStateException" ({ cls := "java/lang/Throwable", name := "fillInStackTrace", desc := "()Ljava/lang/Throwable;" } : Jvm.MethodName) ({ cls := "java/lang/Throwable", name := "fillInStackTrace", desc := "()Ljava/lang/Throwable;" } : Jvm.MethodName)) ∈ gT := gT_in2 104 rfl rfl
theorem w_345 : (Jvm.Cond.selects "java/lang/IndexOutOfBoundsException" ({ cls := "java/lang/Throwable", name := "fillInStackTrace", desc := "()Ljava/lang/Throwable;" } : Jvm.MethodName) ({ cls := "java/lang/Throwable", name := "fillInStackTrace", desc := "()Ljava/lang/Throwable;" } : Jvm.MethodName)) ∈ gT := gT_in2 105 rfl rfl
theorem w_346 : (Jvm.Cond.selects "java/lang/UnsupportedOperationException" ({ cls := "java/lang/Throwable", name := "fillInStackTrace", desc := "()Ljava/lang/Throwable;" } : Jvm.MethodName) ({ cls := "java/lang/Throwable", name := "fillInStackTrace", desc := "()Ljava/lang/Throwable;" } : Jvm.MethodName)) ∈ gT := gT_in2 106 rfl rfl
theorem w_347 : (Jvm.Cond.selects "java/util/NoSuchElementException" ({ cls := "java/lang/Throwable", name := "fillInStackTrace", desc := "()Ljava/lang/Throwable;" } : Jvm.MethodName) ({ cls := "java/lang/Throwable", name := "fillInStackTrace", desc := "()Ljava/lang/Throwable;" } : Jvm.MethodName)) ∈ gT := gT_in2 107 rfl rfl
theorem w_348 : (Jvm.Cond.codeSync ({ cls := "java/lang/Throwable", name := "fillInStackTrace", desc := "()Ljava/lang/Throwable;" } : Jvm.MethodName) prog_19_method_18_code (1 : Nat) (Option.some (Jvm.ClassFile.FieldType.object "java/lang/Throwable"))) ∈ gT := gT_in2 108 rfl rfl
theorem w_349 : (Jvm.Cond.methodLink "java/lang/Throwable" (202 : Nat) ({ cls := "java/lang/Throwable", name := "fillInStackTrace", desc := "(I)Ljava/lang/Throwable;" } : Jvm.MethodName)) ∈ gT := gT_in2 109 rfl rfl
theorem w_351 : (Jvm.Cond.instanceMethod ({ cls := "java/lang/Throwable", name := "fillInStackTrace", desc := "(I)Ljava/lang/Throwable;" } : Jvm.MethodName)) ∈ gT := gT_in2 111 rfl rfl
theorem w_352 : (Jvm.Cond.instantiable "java/lang/Throwable" (6 : Nat)) ∈ gT := gT_in2 112 rfl rfl
theorem w_353 : (Jvm.Cond.native ({ cls := "java/lang/Throwable", name := "fillInStackTrace", desc := "(I)Ljava/lang/Throwable;" } : Jvm.MethodName)) ∈ gT := gT_in2 113 rfl rfl
theorem w_354 : (Jvm.Cond.methodLink "VeilSearch" (67 : Nat) ({ cls := "java/lang/IllegalArgumentException", name := "<init>", desc := "()V" } : Jvm.MethodName)) ∈ gT := gT_in2 114 rfl rfl
theorem w_355 : (Jvm.Cond.instanceMethod ({ cls := "java/lang/IllegalArgumentException", name := "<init>", desc := "()V" } : Jvm.MethodName)) ∈ gT := gT_in2 115 rfl rfl
theorem w_356 : (Jvm.Cond.code ({ cls := "java/lang/IllegalArgumentException", name := "<init>", desc := "()V" } : Jvm.MethodName) prog_12_method_1_code (1 : Nat) (Option.none : Option Jvm.ClassFile.FieldType)) ∈ gT := gT_in2 116 rfl rfl
theorem w_357 : (Jvm.Cond.methodLink "java/lang/IllegalArgumentException" (1 : Nat) ({ cls := "java/lang/RuntimeException", name := "<init>", desc := "()V" } : Jvm.MethodName)) ∈ gT := gT_in2 117 rfl rfl
theorem w_358 : (Jvm.Cond.instanceMethod ({ cls := "java/lang/RuntimeException", name := "<init>", desc := "()V" } : Jvm.MethodName)) ∈ gT := gT_in2 118 rfl rfl
theorem w_359 : (Jvm.Cond.code ({ cls := "java/lang/RuntimeException", name := "<init>", desc := "()V" } : Jvm.MethodName) prog_17_method_1_code (1 : Nat) (Option.none : Option Jvm.ClassFile.FieldType)) ∈ gT := gT_in2 119 rfl rfl
theorem w_360 : (Jvm.Cond.methodLink "java/lang/RuntimeException" (1 : Nat) ({ cls := "java/lang/Exception", name := "<init>", desc := "()V" } : Jvm.MethodName)) ∈ gT := gT_in2 120 rfl rfl
theorem w_361 : (Jvm.Cond.instanceMethod ({ cls := "java/lang/Exception", name := "<init>", desc := "()V" } : Jvm.MethodName)) ∈ gT := gT_in2 121 rfl rfl
theorem w_362 : (Jvm.Cond.code ({ cls := "java/lang/Exception", name := "<init>", desc := "()V" } : Jvm.MethodName) prog_11_method_1_code (1 : Nat) (Option.none : Option Jvm.ClassFile.FieldType)) ∈ gT := gT_in2 122 rfl rfl
theorem w_363 : (Jvm.Cond.methodLink "java/lang/Exception" (1 : Nat) ({ cls := "java/lang/Throwable", name := "<init>", desc := "()V" } : Jvm.MethodName)) ∈ gT := gT_in2 123 rfl rfl
theorem w_364 : (Jvm.Cond.fieldLink "java/lang/Throwable" (198 : Nat) "java/lang/Throwable" "backtrace" "Ljava/lang/Object;") ∈ gT := gT_in2 124 rfl rfl
theorem w_365 : (Jvm.Cond.fieldLink "java/lang/Throwable" (7 : Nat) "java/lang/Throwable" "cause" "Ljava/lang/Throwable;") ∈ gT := gT_in2 125 rfl rfl
theorem w_366 : (Jvm.Cond.fieldLink "java/lang/Throwable" (17 : Nat) "java/lang/Throwable" "stackTrace" "[Ljava/lang/StackTraceElement;") ∈ gT := gT_in2 126 rfl rfl
theorem w_367 : (Jvm.Cond.fieldLink "java/lang/Throwable" (24 : Nat) "java/lang/Throwable" "suppressedExceptions" "Ljava/util/List;") ∈ gT := gT_in2 127 rfl rfl
theorem w_372 : (Jvm.Cond.lays "java/lang/IllegalArgumentException" "java/lang/Throwable" "depth" "I") ∈ gT := gT_in2 132 rfl rfl
theorem w_375 : (Jvm.Cond.superclass "java/lang/IllegalArgumentException" "java/lang/RuntimeException") ∈ gT := gT_in2 135 rfl rfl
theorem w_376 : (Jvm.Cond.methodLink "VeilSearch" (72 : Nat) ({ cls := "VeilSearch$Rights", name := "join", desc := "(IIZ)Z" } : Jvm.MethodName)) ∈ gT := gT_in2 136 rfl rfl
theorem w_377 : (Jvm.Cond.instanceMethod ({ cls := "VeilSearch$Rights", name := "join", desc := "(IIZ)Z" } : Jvm.MethodName)) ∈ gT := gT_in2 137 rfl rfl
theorem w_378 : (Jvm.Cond.selects "VeilSearch$Rights" ({ cls := "VeilSearch$Rights", name := "join", desc := "(IIZ)Z" } : Jvm.MethodName) ({ cls := "VeilSearch$Rights", name := "join", desc := "(IIZ)Z" } : Jvm.MethodName)) ∈ gT := gT_in2 138 rfl rfl
theorem w_379 : (Jvm.Cond.code ({ cls := "VeilSearch$Rights", name := "join", desc := "(IIZ)Z" } : Jvm.MethodName) prog_6_method_2_code (5 : Nat) (Option.some Jvm.ClassFile.FieldType.boolean)) ∈ gT := gT_in2 139 rfl rfl
theorem w_380 : (Jvm.Cond.methodLink "VeilSearchLaw" (84 : Nat) ({ cls := "VeilSearchLaw", name := "level", desc := "(LVeilSearch;III[J)I" } : Jvm.MethodName)) ∈ gT := gT_in2 140 rfl rfl
theorem w_381 : (Jvm.Cond.static ({ cls := "VeilSearchLaw", name := "level", desc := "(LVeilSearch;III[J)I" } : Jvm.MethodName)) ∈ gT := gT_in2 141 rfl rfl
theorem w_382 : (Jvm.Cond.codeWith ({ cls := "VeilSearchLaw", name := "level", desc := "(LVeilSearch;III[J)I" } : Jvm.MethodName) method_4_code (6 : Nat) (Option.some Jvm.ClassFile.FieldType.int) [((0 : Nat), (12 : Nat), (15 : Nat), (13 : Nat))]) ∈ gT := gT_in2 142 rfl rfl
theorem w_383 : (Jvm.Cond.methodLink "VeilSearchLaw" (15 : Nat) ({ cls := "VeilSearch", name := "level", desc := "(III)I" } : Jvm.MethodName)) ∈ gT := gT_in2 143 rfl rfl
theorem w_384 : (Jvm.Cond.instanceMethod ({ cls := "VeilSearch", name := "level", desc := "(III)I" } : Jvm.MethodName)) ∈ gT := gT_in2 144 rfl rfl
theorem w_385 : (Jvm.Cond.selects "VeilSearch" ({ cls := "VeilSearch", name := "level", desc := "(III)I" } : Jvm.MethodName) ({ cls := "VeilSearch", name := "level", desc := "(III)I" } : Jvm.MethodName)) ∈ gT := gT_in2 145 rfl rfl
theorem w_386 : (Jvm.Cond.code ({ cls := "VeilSearch", name := "level", desc := "(III)I" } : Jvm.MethodName) prog_1_method_3_code (6 : Nat) (Option.some Jvm.ClassFile.FieldType.int)) ∈ gT := gT_in2 146 rfl rfl
theorem w_387 : (Jvm.Cond.methodLink "VeilSearchLaw" (90 : Nat) ({ cls := "VeilSearchLaw", name := "weigh", desc := "(LVeilSearch;IID[J)I" } : Jvm.MethodName)) ∈ gT := gT_in2 147 rfl rfl
theorem w_388 : (Jvm.Cond.static ({ cls := "VeilSearchLaw", name := "weigh", desc := "(LVeilSearch;IID[J)I" } : Jvm.MethodName)) ∈ gT := gT_in2 148 rfl rfl
theorem w_389 : (Jvm.Cond.codeWith ({ cls := "VeilSearchLaw", name := "weigh", desc := "(LVeilSearch;IID[J)I" } : Jvm.MethodName) method_5_code (7 : Nat) (Option.some Jvm.ClassFile.FieldType.int) [((0 : Nat), (12 : Nat), (15 : Nat), (13 : Nat))]) ∈ gT := gT_in2 149 rfl rfl
theorem w_390 : (Jvm.Cond.methodLink "VeilSearchLaw" (19 : Nat) ({ cls := "VeilSearch", name := "weigh", desc := "(IID)I" } : Jvm.MethodName)) ∈ gT := gT_in2 150 rfl rfl
theorem w_391 : (Jvm.Cond.instanceMethod ({ cls := "VeilSearch", name := "weigh", desc := "(IID)I" } : Jvm.MethodName)) ∈ gT := gT_in2 151 rfl rfl
theorem w_392 : (Jvm.Cond.selects "VeilSearch" ({ cls := "VeilSearch", name := "weigh", desc := "(IID)I" } : Jvm.MethodName) ({ cls := "VeilSearch", name := "weigh", desc := "(IID)I" } : Jvm.MethodName)) ∈ gT := gT_in2 152 rfl rfl
theorem w_393 : (Jvm.Cond.code ({ cls := "VeilSearch", name := "weigh", desc := "(IID)I" } : Jvm.MethodName) prog_1_method_4_code (6 : Nat) (Option.some Jvm.ClassFile.FieldType.int)) ∈ gT := gT_in2 153 rfl rfl
theorem w_394 : (Jvm.Cond.methodLink "VeilSearch" (85 : Nat) ({ cls := "VeilSearch", name := "isWeight", desc := "(D)Z" } : Jvm.MethodName)) ∈ gT := gT_in2 154 rfl rfl
theorem w_395 : (Jvm.Cond.static ({ cls := "VeilSearch", name := "isWeight", desc := "(D)Z" } : Jvm.MethodName)) ∈ gT := gT_in2 155 rfl rfl
theorem w_396 : (Jvm.Cond.code ({ cls := "VeilSearch", name := "isWeight", desc := "(D)Z" } : Jvm.MethodName) prog_1_method_20_code (2 : Nat) (Option.some Jvm.ClassFile.FieldType.boolean)) ∈ gT := gT_in2 156 rfl rfl
theorem w_397 : (Jvm.Cond.constantDouble "VeilSearch" (231 : Nat) (4158027847206421152 : UInt64)) ∈ gT := gT_in2 157 rfl rfl
theorem w_398 : (Jvm.Cond.constantDouble "VeilSearch" (233 : Nat) (4652007308841189376 : UInt64)) ∈ gT := gT_in2 158 rfl rfl
theorem w_399 : (Jvm.Cond.methodLink "VeilSearch" (89 : Nat) ({ cls := "VeilSearch", name := "codeOf", desc := "(D)I" } : Jvm.MethodName)) ∈ gT := gT_in2 159 rfl rfl
theorem w_400 : (Jvm.Cond.static ({ cls := "VeilSearch", name := "codeOf", desc := "(D)I" } : Jvm.MethodName)) ∈ gT := gT_in2 160 rfl rfl
theorem w_401 : (Jvm.Cond.code ({ cls := "VeilSearch", name := "codeOf", desc := "(D)I" } : Jvm.MethodName) prog_1_method_21_code (3 : Nat) (Option.some Jvm.ClassFile.FieldType.int)) ∈ gT := gT_in2 161 rfl rfl
theorem w_402 : (Jvm.Cond.constantFloat "VeilSearch" (235 : Nat) (1098907648 : UInt32)) ∈ gT := gT_in2 162 rfl rfl
theorem w_403 : (Jvm.Cond.constantFloat "VeilSearch" (236 : Nat) (1056964608 : UInt32)) ∈ gT := gT_in2 163 rfl rfl
theorem w_404 : (Jvm.Cond.methodLink "VeilSearch" (99 : Nat) ({ cls := "VeilSearch$Documents", name := "codePlace", desc := "(III)I" } : Jvm.MethodName)) ∈ gT := gT_in2 164 rfl rfl
theorem w_405 : (Jvm.Cond.static ({ cls := "VeilSearch$Documents", name := "codePlace", desc := "(III)I" } : Jvm.MethodName)) ∈ gT := gT_in2 165 rfl rfl
theorem w_406 : (Jvm.Cond.code ({ cls := "VeilSearch$Documents", name := "codePlace", desc := "(III)I" } : Jvm.MethodName) prog_2_method_3_code (3 : Nat) (Option.some Jvm.ClassFile.FieldType.int)) ∈ gT := gT_in2 166 rfl rfl
theorem w_407 : (Jvm.Cond.methodLink "VeilSearch$Documents" (28 : Nat) ({ cls := "VeilSearch$Documents", name := "valuePlace", desc := "(II)I" } : Jvm.MethodName)) ∈ gT := gT_in2 167 rfl rfl
theorem w_408 : (Jvm.Cond.static ({ cls := "VeilSearch$Documents", name := "valuePlace", desc := "(II)I" } : Jvm.MethodName)) ∈ gT := gT_in2 168 rfl rfl
theorem w_409 : (Jvm.Cond.code ({ cls := "VeilSearch$Documents", name := "valuePlace", desc := "(II)I" } : Jvm.MethodName) prog_2_method_2_code (2 : Nat) (Option.some Jvm.ClassFile.FieldType.int)) ∈ gT := gT_in2 169 rfl rfl
theorem w_410 : (Jvm.Cond.methodLink "VeilSearchLaw" (94 : Nat) ({ cls := "VeilSearchLaw", name := "put", desc := "(LVeilSearch;II[J)I" } : Jvm.MethodName)) ∈ gT := gT_in2 170 rfl rfl
theorem w_411 : (Jvm.Cond.static ({ cls := "VeilSearchLaw", name := "put", desc := "(LVeilSearch;II[J)I" } : Jvm.MethodName)) ∈ gT := gT_in2 171 rfl rfl
theorem w_412 : (Jvm.Cond.codeWith ({ cls := "VeilSearchLaw", name := "put", desc := "(LVeilSearch;II[J)I" } : Jvm.MethodName) method_6_code (5 : Nat) (Option.some Jvm.ClassFile.FieldType.int) [((0 : Nat), (10 : Nat), (13 : Nat), (13 : Nat))]) ∈ gT := gT_in2 172 rfl rfl
theorem w_413 : (Jvm.Cond.methodLink "VeilSearchLaw" (23 : Nat) ({ cls := "VeilSearch", name := "put", desc := "(II)I" } : Jvm.MethodName)) ∈ gT := gT_in2 173 rfl rfl
theorem w_414 : (Jvm.Cond.instanceMethod ({ cls := "VeilSearch", name := "put", desc := "(II)I" } : Jvm.MethodName)) ∈ gT := gT_in2 174 rfl rfl
theorem w_415 : (Jvm.Cond.selects "VeilSearch" ({ cls := "VeilSearch", name := "put", desc := "(II)I" } : Jvm.MethodName) ({ cls := "VeilSearch", name := "put", desc := "(II)I" } : Jvm.MethodName)) ∈ gT := gT_in2 175 rfl rfl
theorem w_416 : (Jvm.Cond.code ({ cls := "VeilSearch", name := "put", desc := "(II)I" } : Jvm.MethodName) prog_1_method_5_code (5 : Nat) (Option.some Jvm.ClassFile.FieldType.int)) ∈ gT := gT_in2 176 rfl rfl
theorem w_417 : (Jvm.Cond.methodLink "VeilSearch" (103 : Nat) ({ cls := "VeilSearch$Documents", name := "valuePlace", desc := "(II)I" } : Jvm.MethodName)) ∈ gT := gT_in2 177 rfl rfl
theorem w_418 : (Jvm.Cond.methodLink "VeilSearchLaw" (98 : Nat) ({ cls := "VeilSearchLaw", name := "rule", desc := "(LVeilSearch;IZ[J)I" } : Jvm.MethodName)) ∈ gT := gT_in2 178 rfl rfl
theorem w_419 : (Jvm.Cond.static ({ cls := "VeilSearchLaw", name := "rule", desc := "(LVeilSearch;IZ[J)I" } : Jvm.MethodName)) ∈ gT := gT_in2 179 rfl rfl
theorem w_420 : (Jvm.Cond.codeWith ({ cls := "VeilSearchLaw", name := "rule", desc := "(LVeilSearch;IZ[J)I" } : Jvm.MethodName) method_7_code (5 : Nat) (Option.some Jvm.ClassFile.FieldType.int) [((0 : Nat), (17 : Nat), (20 : Nat), (13 : Nat))]) ∈ gT := gT_in2 180 rfl rfl
theorem w_421 : (Jvm.Cond.methodLink "VeilSearchLaw" (27 : Nat) ({ cls := "VeilSearch", name := "rule", desc := "(IZ)Z" } : Jvm.MethodName)) ∈ gT := gT_in2 181 rfl rfl
theorem w_422 : (Jvm.Cond.instanceMethod ({ cls := "VeilSearch", name := "rule", desc := "(IZ)Z" } : Jvm.MethodName)) ∈ gT := gT_in2 182 rfl rfl
theorem w_423 : (Jvm.Cond.selects "VeilSearch" ({ cls := "VeilSearch", name := "rule", desc := "(IZ)Z" } : Jvm.MethodName) ({ cls := "VeilSearch", name := "rule", desc := "(IZ)Z" } : Jvm.MethodName)) ∈ gT := gT_in2 183 rfl rfl
theorem w_424 : (Jvm.Cond.code ({ cls := "VeilSearch", name := "rule", desc := "(IZ)Z" } : Jvm.MethodName) prog_1_method_6_code (5 : Nat) (Option.some Jvm.ClassFile.FieldType.boolean)) ∈ gT := gT_in2 184 rfl rfl
theorem w_425 : (Jvm.Cond.methodLink "VeilSearchLaw" (102 : Nat) ({ cls := "VeilSearchLaw", name := "add", desc := "(LVeilSearch;I[J)I" } : Jvm.MethodName)) ∈ gT := gT_in2 185 rfl rfl
theorem w_426 : (Jvm.Cond.static ({ cls := "VeilSearchLaw", name := "add", desc := "(LVeilSearch;I[J)I" } : Jvm.MethodName)) ∈ gT := gT_in2 186 rfl rfl
theorem w_427 : (Jvm.Cond.codeWith ({ cls := "VeilSearchLaw", name := "add", desc := "(LVeilSearch;I[J)I" } : Jvm.MethodName) method_8_code (4 : Nat) (Option.some Jvm.ClassFile.FieldType.int) [((0 : Nat), (9 : Nat), (12 : Nat), (13 : Nat)), ((0 : Nat), (9 : Nat), (15 : Nat), (35 : Nat))]) ∈ gT := gT_in2 187 rfl rfl
theorem w_428 : (Jvm.Cond.classLink "VeilSearchLaw" (35 : Nat) "java/lang/IllegalStateException") ∈ gT := gT_in2 188 rfl rfl
theorem w_429 : (Jvm.Cond.methodLink "VeilSearchLaw" (31 : Nat) ({ cls := "VeilSearch", name := "add", desc := "(I)I" } : Jvm.MethodName)) ∈ gT := gT_in2 189 rfl rfl
theorem w_430 : (Jvm.Cond.instanceMethod ({ cls := "VeilSearch", name := "add", desc := "(I)I" } : Jvm.MethodName)) ∈ gT := gT_in2 190 rfl rfl
theorem w_431 : (Jvm.Cond.selects "VeilSearch" ({ cls := "VeilSearch", name := "add", desc := "(I)I" } : Jvm.MethodName) ({ cls := "VeilSearch", name := "add", desc := "(I)I" } : Jvm.MethodName)) ∈ gT := gT_in2 191 rfl rfl
theorem w_432 : (Jvm.Cond.code ({ cls := "VeilSearch", name := "add", desc := "(I)I" } : Jvm.MethodName) prog_1_method_7_code (3 : Nat) (Option.some Jvm.ClassFile.FieldType.int)) ∈ gT := gT_in2 192 rfl rfl
theorem w_433 : (Jvm.Cond.classLink "VeilSearch" (116 : Nat) "java/lang/IllegalStateException") ∈ gT := gT_in2 193 rfl rfl
theorem w_434 : (Jvm.Cond.instantiable "java/lang/IllegalStateException" (6 : Nat)) ∈ gT := gT_in2 194 rfl rfl
theorem w_435 : (Jvm.Cond.castable "java/lang/IllegalStateException" "java/lang/IllegalStateException") ∈ gN := gN_in2 195 rfl rfl
theorem w_436 : (Jvm.Cond.selects "java/lang/IllegalStateException" ({ cls := "java/lang/Throwable", name := "fillInStackTrace", desc := "(I)Ljava/lang/Throwable;" } : Jvm.MethodName) ({ cls := "java/lang/Throwable", name := "fillInStackTrace", desc := "(I)Ljava/lang/Throwable;" } : Jvm.MethodName)) ∈ gT := gT_in2 196 rfl rfl
theorem w_437 : (Jvm.Cond.lays "java/lang/IllegalStateException" "java/lang/Throwable" "cause" "Ljava/lang/Throwable;") ∈ gT := gT_in2 197 rfl rfl
theorem w_438 : (Jvm.Cond.lays "java/lang/IllegalStateException" "java/lang/Throwable" "stackTrace" "[Ljava/lang/StackTraceElement;") ∈ gT := gT_in2 198 rfl rfl
theorem w_439 : (Jvm.Cond.lays "java/lang/IllegalStateException" "java/lang/Throwable" "suppressedExceptions" "Ljava/util/List;") ∈ gT := gT_in2 199 rfl rfl
theorem w_440 : (Jvm.Cond.lays "java/lang/IllegalStateException" "java/lang/Throwable" "detailMessage" "Ljava/lang/String;") ∈ gT := gT_in2 200 rfl rfl
theorem w_441 : (Jvm.Cond.lays "java/lang/IllegalStateException" "java/lang/Throwable" "backtrace" "Ljava/lang/Object;") ∈ gT := gT_in2 201 rfl rfl
theorem w_442 : (Jvm.Cond.methodLink "VeilSearch" (118 : Nat) ({ cls := "java/lang/IllegalStateException", name := "<init>", desc := "()V" } : Jvm.MethodName)) ∈ gT := gT_in2 202 rfl rfl
theorem w_443 : (Jvm.Cond.instanceMethod ({ cls := "java/lang/IllegalStateException", name := "<init>", desc := "()V" } : Jvm.MethodName)) ∈ gT := gT_in2 203 rfl rfl
theorem w_444 : (Jvm.Cond.code ({ cls := "java/lang/IllegalStateException", name := "<init>", desc := "()V" } : Jvm.MethodName) prog_13_method_1_code (1 : Nat) (Option.none : Option Jvm.ClassFile.FieldType)) ∈ gT := gT_in2 204 rfl rfl
theorem w_445 : (Jvm.Cond.methodLink "java/lang/IllegalStateException" (1 : Nat) ({ cls := "java/lang/RuntimeException", name := "<init>", desc := "()V" } : Jvm.MethodName)) ∈ gT := gT_in2 205 rfl rfl
theorem w_446 : (Jvm.Cond.lays "java/lang/IllegalStateException" "java/lang/Throwable" "depth" "I") ∈ gT := gT_in2 206 rfl rfl
theorem w_447 : (Jvm.Cond.superclass "java/lang/IllegalStateException" "java/lang/RuntimeException") ∈ gT := gT_in2 207 rfl rfl
theorem w_448 : (Jvm.Cond.methodLink "VeilSearch" (119 : Nat) ({ cls := "VeilSearch$Documents", name := "finishDraft", desc := "(I)I" } : Jvm.MethodName)) ∈ gT := gT_in2 208 rfl rfl
theorem w_449 : (Jvm.Cond.instanceMethod ({ cls := "VeilSearch$Documents", name := "finishDraft", desc := "(I)I" } : Jvm.MethodName)) ∈ gT := gT_in2 209 rfl rfl
theorem w_450 : (Jvm.Cond.selects "VeilSearch$Documents" ({ cls := "VeilSearch$Documents", name := "finishDraft", desc := "(I)I" } : Jvm.MethodName) ({ cls := "VeilSearch$Documents", name := "finishDraft", desc := "(I)I" } : Jvm.MethodName)) ∈ gT := gT_in2 210 rfl rfl
theorem w_451 : (Jvm.Cond.code ({ cls := "VeilSearch$Documents", name := "finishDraft", desc := "(I)I" } : Jvm.MethodName) prog_2_method_4_code (3 : Nat) (Option.some Jvm.ClassFile.FieldType.int)) ∈ gT := gT_in2 211 rfl rfl
theorem w_452 : (Jvm.Cond.methodLink "VeilSearchLaw" (106 : Nat) ({ cls := "VeilSearchLaw", name := "remove", desc := "(LVeilSearch;I)I" } : Jvm.MethodName)) ∈ gT := gT_in2 212 rfl rfl
theorem w_453 : (Jvm.Cond.static ({ cls := "VeilSearchLaw", name := "remove", desc := "(LVeilSearch;I)I" } : Jvm.MethodName)) ∈ gT := gT_in2 213 rfl rfl
theorem w_454 : (Jvm.Cond.codeWith ({ cls := "VeilSearchLaw", name := "remove", desc := "(LVeilSearch;I)I" } : Jvm.MethodName) method_9_code (3 : Nat) (Option.some Jvm.ClassFile.FieldType.int) [((0 : Nat), (5 : Nat), (8 : Nat), (41 : Nat))]) ∈ gT := gT_in2 214 rfl rfl
theorem w_455 : (Jvm.Cond.classLink "VeilSearchLaw" (41 : Nat) "java/util/NoSuchElementException") ∈ gT := gT_in2 215 rfl rfl
theorem w_456 : (Jvm.Cond.methodLink "VeilSearchLaw" (37 : Nat) ({ cls := "VeilSearch", name := "remove", desc := "(I)V" } : Jvm.MethodName)) ∈ gT := gT_in2 216 rfl rfl
theorem w_457 : (Jvm.Cond.instanceMethod ({ cls := "VeilSearch", name := "remove", desc := "(I)V" } : Jvm.MethodName)) ∈ gT := gT_in2 217 rfl rfl
theorem w_458 : (Jvm.Cond.selects "VeilSearch" ({ cls := "VeilSearch", name := "remove", desc := "(I)V" } : Jvm.MethodName) ({ cls := "VeilSearch", name := "remove", desc := "(I)V" } : Jvm.MethodName)) ∈ gT := gT_in2 218 rfl rfl
theorem w_459 : (Jvm.Cond.code ({ cls := "VeilSearch", name := "remove", desc := "(I)V" } : Jvm.MethodName) prog_1_method_8_code (2 : Nat) (Option.none : Option Jvm.ClassFile.FieldType)) ∈ gT := gT_in2 219 rfl rfl
theorem w_460 : (Jvm.Cond.methodLink "VeilSearch" (126 : Nat) ({ cls := "VeilSearch", name := "holds", desc := "(JI)Z" } : Jvm.MethodName)) ∈ gT := gT_in2 220 rfl rfl
theorem w_461 : (Jvm.Cond.static ({ cls := "VeilSearch", name := "holds", desc := "(JI)Z" } : Jvm.MethodName)) ∈ gT := gT_in2 221 rfl rfl
theorem w_462 : (Jvm.Cond.code ({ cls := "VeilSearch", name := "holds", desc := "(JI)Z" } : Jvm.MethodName) prog_1_method_22_code (3 : Nat) (Option.some Jvm.ClassFile.FieldType.boolean)) ∈ gT := gT_in2 222 rfl rfl
theorem w_463 : (Jvm.Cond.classLink "VeilSearch" (130 : Nat) "java/util/NoSuchElementException") ∈ gT := gT_in2 223 rfl rfl
theorem w_464 : (Jvm.Cond.instantiable "java/util/NoSuchElementException" (6 : Nat)) ∈ gT := gT_in2 224 rfl rfl
theorem w_465 : (Jvm.Cond.castable "java/util/NoSuchElementException" "java/util/NoSuchElementException") ∈ gN := gN_in2 225 rfl rfl
theorem w_466 : (Jvm.Cond.selects "java/util/NoSuchElementException" ({ cls := "java/lang/Throwable", name := "fillInStackTrace", desc := "(I)Ljava/lang/Throwable;" } : Jvm.MethodName) ({ cls := "java/lang/Throwable", name := "fillInStackTrace", desc := "(I)Ljava/lang/Throwable;" } : Jvm.MethodName)) ∈ gT := gT_in2 226 rfl rfl
theorem w_467 : (Jvm.Cond.lays "java/util/NoSuchElementException" "java/lang/Throwable" "cause" "Ljava/lang/Throwable;") ∈ gT := gT_in2 227 rfl rfl
theorem w_468 : (Jvm.Cond.lays "java/util/NoSuchElementException" "java/lang/Throwable" "stackTrace" "[Ljava/lang/StackTraceElement;") ∈ gT := gT_in2 228 rfl rfl
theorem w_469 : (Jvm.Cond.lays "java/util/NoSuchElementException" "java/lang/Throwable" "suppressedExceptions" "Ljava/util/List;") ∈ gT := gT_in2 229 rfl rfl
theorem w_470 : (Jvm.Cond.lays "java/util/NoSuchElementException" "java/lang/Throwable" "detailMessage" "Ljava/lang/String;") ∈ gT := gT_in2 230 rfl rfl
theorem w_471 : (Jvm.Cond.lays "java/util/NoSuchElementException" "java/lang/Throwable" "backtrace" "Ljava/lang/Object;") ∈ gT := gT_in2 231 rfl rfl
theorem w_472 : (Jvm.Cond.methodLink "VeilSearch" (132 : Nat) ({ cls := "java/util/NoSuchElementException", name := "<init>", desc := "()V" } : Jvm.MethodName)) ∈ gT := gT_in2 232 rfl rfl
theorem w_473 : (Jvm.Cond.instanceMethod ({ cls := "java/util/NoSuchElementException", name := "<init>", desc := "()V" } : Jvm.MethodName)) ∈ gT := gT_in2 233 rfl rfl
theorem w_474 : (Jvm.Cond.code ({ cls := "java/util/NoSuchElementException", name := "<init>", desc := "()V" } : Jvm.MethodName) prog_21_method_1_code (1 : Nat) (Option.none : Option Jvm.ClassFile.FieldType)) ∈ gT := gT_in2 234 rfl rfl
theorem w_475 : (Jvm.Cond.methodLink "java/util/NoSuchElementException" (1 : Nat) ({ cls := "java/lang/RuntimeException", name := "<init>", desc := "()V" } : Jvm.MethodName)) ∈ gT := gT_in2 235 rfl rfl
theorem w_476 : (Jvm.Cond.lays "java/util/NoSuchElementException" "java/lang/Throwable" "depth" "I") ∈ gT := gT_in2 236 rfl rfl
theorem w_477 : (Jvm.Cond.superclass "java/util/NoSuchElementException" "java/lang/RuntimeException") ∈ gT := gT_in2 237 rfl rfl
theorem w_478 : (Jvm.Cond.methodLink "VeilSearchLaw" (110 : Nat) ({ cls := "VeilSearchLaw", name := "flush", desc := "(LVeilSearch;[J)I" } : Jvm.MethodName)) ∈ gT := gT_in2 238 rfl rfl
theorem w_479 : (Jvm.Cond.static ({ cls := "VeilSearchLaw", name := "flush", desc := "(LVeilSearch;[J)I" } : Jvm.MethodName)) ∈ gT := gT_in2 239 rfl rfl
theorem w_480 : (Jvm.Cond.codeWith ({ cls := "VeilSearchLaw", name := "flush", desc := "(LVeilSearch;[J)I" } : Jvm.MethodName) method_10_code (3 : Nat) (Option.some Jvm.ClassFile.FieldType.int) [((0 : Nat), (8 : Nat), (11 : Nat), (35 : Nat))]) ∈ gT := gT_in3 0 rfl rfl
theorem w_481 : (Jvm.Cond.methodLink "VeilSearchLaw" (43 : Nat) ({ cls := "VeilSearch", name := "flush", desc := "()I" } : Jvm.MethodName)) ∈ gT := gT_in3 1 rfl rfl
theorem w_482 : (Jvm.Cond.instanceMethod ({ cls := "VeilSearch", name := "flush", desc := "()I" } : Jvm.MethodName)) ∈ gT := gT_in3 2 rfl rfl
theorem w_483 : (Jvm.Cond.selects "VeilSearch" ({ cls := "VeilSearch", name := "flush", desc := "()I" } : Jvm.MethodName) ({ cls := "VeilSearch", name := "flush", desc := "()I" } : Jvm.MethodName)) ∈ gT := gT_in3 3 rfl rfl
theorem w_484 : (Jvm.Cond.code ({ cls := "VeilSearch", name := "flush", desc := "()I" } : Jvm.MethodName) prog_1_method_9_code (2 : Nat) (Option.some Jvm.ClassFile.FieldType.int)) ∈ gT := gT_in3 4 rfl rfl
theorem w_485 : (Jvm.Cond.methodLink "VeilSearchLaw" (122 : Nat) ({ cls := "VeilSearchLaw", name := "clause", desc := "(LVeilSearch;IIID[J)I" } : Jvm.MethodName)) ∈ gT := gT_in3 5 rfl rfl
theorem w_486 : (Jvm.Cond.static ({ cls := "VeilSearchLaw", name := "clause", desc := "(LVeilSearch;IIID[J)I" } : Jvm.MethodName)) ∈ gT := gT_in3 6 rfl rfl
theorem w_487 : (Jvm.Cond.codeWith ({ cls := "VeilSearchLaw", name := "clause", desc := "(LVeilSearch;IIID[J)I" } : Jvm.MethodName) method_11_code (8 : Nat) (Option.some Jvm.ClassFile.FieldType.int) [((0 : Nat), (14 : Nat), (17 : Nat), (13 : Nat)), ((0 : Nat), (14 : Nat), (21 : Nat), (35 : Nat))]) ∈ gT := gT_in3 7 rfl rfl
theorem w_488 : (Jvm.Cond.methodLink "VeilSearchLaw" (47 : Nat) ({ cls := "VeilSearch", name := "clause", desc := "(IIID)I" } : Jvm.MethodName)) ∈ gT := gT_in3 8 rfl rfl
theorem w_489 : (Jvm.Cond.instanceMethod ({ cls := "VeilSearch", name := "clause", desc := "(IIID)I" } : Jvm.MethodName)) ∈ gT := gT_in3 9 rfl rfl
theorem w_490 : (Jvm.Cond.selects "VeilSearch" ({ cls := "VeilSearch", name := "clause", desc := "(IIID)I" } : Jvm.MethodName) ({ cls := "VeilSearch", name := "clause", desc := "(IIID)I" } : Jvm.MethodName)) ∈ gT := gT_in3 10 rfl rfl
theorem w_491 : (Jvm.Cond.code ({ cls := "VeilSearch", name := "clause", desc := "(IIID)I" } : Jvm.MethodName) prog_1_method_12_code (6 : Nat) (Option.some Jvm.ClassFile.FieldType.int)) ∈ gT := gT_in3 11 rfl rfl
theorem w_492 : (Jvm.Cond.methodLink "VeilSearch" (177 : Nat) ({ cls := "VeilSearch$Query", name := "insert", desc := "(IIIF)V" } : Jvm.MethodName)) ∈ gT := gT_in3 12 rfl rfl
theorem w_493 : (Jvm.Cond.instanceMethod ({ cls := "VeilSearch$Query", name := "insert", desc := "(IIIF)V" } : Jvm.MethodName)) ∈ gT := gT_in3 13 rfl rfl
theorem w_494 : (Jvm.Cond.selects "VeilSearch$Query" ({ cls := "VeilSearch$Query", name := "insert", desc := "(IIIF)V" } : Jvm.MethodName) ({ cls := "VeilSearch$Query", name := "insert", desc := "(IIIF)V" } : Jvm.MethodName)) ∈ gT := gT_in3 14 rfl rfl
theorem w_495 : (Jvm.Cond.code ({ cls := "VeilSearch$Query", name := "insert", desc := "(IIIF)V" } : Jvm.MethodName) prog_5_method_2_code (6 : Nat) (Option.none : Option Jvm.ClassFile.FieldType)) ∈ gT := gT_in3 15 rfl rfl
theorem w_496 : (Jvm.Cond.methodLink "VeilSearch$Query" (37 : Nat) ({ cls := "VeilSearch$Query", name := "comesLater", desc := "(III)Z" } : Jvm.MethodName)) ∈ gT := gT_in3 16 rfl rfl
theorem w_498 : (Jvm.Cond.instanceMethod ({ cls := "VeilSearch$Query", name := "comesLater", desc := "(III)Z" } : Jvm.MethodName)) ∈ gT := gT_in3 18 rfl rfl
theorem w_499 : (Jvm.Cond.code ({ cls := "VeilSearch$Query", name := "comesLater", desc := "(III)Z" } : Jvm.MethodName) prog_5_method_3_code (4 : Nat) (Option.some Jvm.ClassFile.FieldType.boolean)) ∈ gT := gT_in3 19 rfl rfl
theorem w_500 : (Jvm.Cond.methodLink "VeilSearch$Query" (41 : Nat) ({ cls := "VeilSearch$Query", name := "move", desc := "(II)V" } : Jvm.MethodName)) ∈ gT := gT_in3 20 rfl rfl
theorem w_502 : (Jvm.Cond.instanceMethod ({ cls := "VeilSearch$Query", name := "move", desc := "(II)V" } : Jvm.MethodName)) ∈ gT := gT_in3 22 rfl rfl
theorem w_503 : (Jvm.Cond.code ({ cls := "VeilSearch$Query", name := "move", desc := "(II)V" } : Jvm.MethodName) prog_5_method_4_code (3 : Nat) (Option.none : Option Jvm.ClassFile.FieldType)) ∈ gT := gT_in3 23 rfl rfl
theorem w_504 : (Jvm.Cond.methodLink "VeilSearchLaw" (130 : Nat) ({ cls := "VeilSearchLaw", name := "search", desc := "(LVeilSearch;II[J)I" } : Jvm.MethodName)) ∈ gT := gT_in3 24 rfl rfl
theorem w_505 : (Jvm.Cond.static ({ cls := "VeilSearchLaw", name := "search", desc := "(LVeilSearch;II[J)I" } : Jvm.MethodName)) ∈ gT := gT_in3 25 rfl rfl
theorem w_506 : (Jvm.Cond.codeWith ({ cls := "VeilSearchLaw", name := "search", desc := "(LVeilSearch;II[J)I" } : Jvm.MethodName) method_12_code (5 : Nat) (Option.some Jvm.ClassFile.FieldType.int) [((0 : Nat), (10 : Nat), (13 : Nat), (13 : Nat))]) ∈ gT := gT_in3 26 rfl rfl
theorem w_507 : (Jvm.Cond.methodLink "VeilSearchLaw" (51 : Nat) ({ cls := "VeilSearch", name := "search", desc := "(II)I" } : Jvm.MethodName)) ∈ gT := gT_in3 27 rfl rfl
theorem w_508 : (Jvm.Cond.instanceMethod ({ cls := "VeilSearch", name := "search", desc := "(II)I" } : Jvm.MethodName)) ∈ gT := gT_in3 28 rfl rfl
theorem w_509 : (Jvm.Cond.selects "VeilSearch" ({ cls := "VeilSearch", name := "search", desc := "(II)I" } : Jvm.MethodName) ({ cls := "VeilSearch", name := "search", desc := "(II)I" } : Jvm.MethodName)) ∈ gT := gT_in3 29 rfl rfl
theorem w_510 : (Jvm.Cond.code ({ cls := "VeilSearch", name := "search", desc := "(II)I" } : Jvm.MethodName) prog_1_method_14_code (8 : Nat) (Option.some Jvm.ClassFile.FieldType.int)) ∈ gT := gT_in3 30 rfl rfl
theorem w_511 : (Jvm.Cond.methodLink "VeilSearch" (181 : Nat) ({ cls := "VeilSearch$Hits", name := "restart", desc := "(I)V" } : Jvm.MethodName)) ∈ gT := gT_in3 31 rfl rfl
theorem w_512 : (Jvm.Cond.instanceMethod ({ cls := "VeilSearch$Hits", name := "restart", desc := "(I)V" } : Jvm.MethodName)) ∈ gT := gT_in3 32 rfl rfl
theorem w_513 : (Jvm.Cond.selects "VeilSearch$Hits" ({ cls := "VeilSearch$Hits", name := "restart", desc := "(I)V" } : Jvm.MethodName) ({ cls := "VeilSearch$Hits", name := "restart", desc := "(I)V" } : Jvm.MethodName)) ∈ gT := gT_in3 33 rfl rfl
theorem w_514 : (Jvm.Cond.code ({ cls := "VeilSearch$Hits", name := "restart", desc := "(I)V" } : Jvm.MethodName) prog_4_method_2_code (2 : Nat) (Option.none : Option Jvm.ClassFile.FieldType)) ∈ gT := gT_in3 34 rfl rfl
theorem w_515 : (Jvm.Cond.methodLink "VeilSearch" (185 : Nat) ({ cls := "VeilSearch$Query", name := "openFor", desc := "(ILVeilSearch$Rights;)V" } : Jvm.MethodName)) ∈ gT := gT_in3 35 rfl rfl
theorem w_516 : (Jvm.Cond.instanceMethod ({ cls := "VeilSearch$Query", name := "openFor", desc := "(ILVeilSearch$Rights;)V" } : Jvm.MethodName)) ∈ gT := gT_in3 36 rfl rfl
theorem w_517 : (Jvm.Cond.selects "VeilSearch$Query" ({ cls := "VeilSearch$Query", name := "openFor", desc := "(ILVeilSearch$Rights;)V" } : Jvm.MethodName) ({ cls := "VeilSearch$Query", name := "openFor", desc := "(ILVeilSearch$Rights;)V" } : Jvm.MethodName)) ∈ gT := gT_in3 37 rfl rfl
theorem w_518 : (Jvm.Cond.code ({ cls := "VeilSearch$Query", name := "openFor", desc := "(ILVeilSearch$Rights;)V" } : Jvm.MethodName) prog_5_method_5_code (4 : Nat) (Option.none : Option Jvm.ClassFile.FieldType)) ∈ gT := gT_in3 38 rfl rfl
theorem w_519 : (Jvm.Cond.methodLink "VeilSearch$Query" (45 : Nat) ({ cls := "VeilSearch$Rights", name := "isOpen", desc := "(II)Z" } : Jvm.MethodName)) ∈ gT := gT_in3 39 rfl rfl
theorem w_520 : (Jvm.Cond.instanceMethod ({ cls := "VeilSearch$Rights", name := "isOpen", desc := "(II)Z" } : Jvm.MethodName)) ∈ gT := gT_in3 40 rfl rfl
theorem w_521 : (Jvm.Cond.selects "VeilSearch$Rights" ({ cls := "VeilSearch$Rights", name := "isOpen", desc := "(II)Z" } : Jvm.MethodName) ({ cls := "VeilSearch$Rights", name := "isOpen", desc := "(II)Z" } : Jvm.MethodName)) ∈ gT := gT_in3 41 rfl rfl
theorem w_522 : (Jvm.Cond.code ({ cls := "VeilSearch$Rights", name := "isOpen", desc := "(II)Z" } : Jvm.MethodName) prog_6_method_4_code (3 : Nat) (Option.some Jvm.ClassFile.FieldType.boolean)) ∈ gT := gT_in3 42 rfl rfl
theorem w_523 : (Jvm.Cond.methodLink "VeilSearch" (195 : Nat) ({ cls := "VeilSearch", name := "filterOf", desc := "(IJI)J" } : Jvm.MethodName)) ∈ gT := gT_in3 43 rfl rfl
theorem w_525 : (Jvm.Cond.instanceMethod ({ cls := "VeilSearch", name := "filterOf", desc := "(IJI)J" } : Jvm.MethodName)) ∈ gT := gT_in3 45 rfl rfl
theorem w_526 : (Jvm.Cond.code ({ cls := "VeilSearch", name := "filterOf", desc := "(IJI)J" } : Jvm.MethodName) prog_1_method_25_code (8 : Nat) (Option.some Jvm.ClassFile.FieldType.long)) ∈ gT := gT_in3 46 rfl rfl
theorem w_527 : (Jvm.Cond.methodLink "VeilSearch" (241 : Nat) ({ cls := "VeilSearch$Filters", name := "placeOf", desc := "(II)I" } : Jvm.MethodName)) ∈ gT := gT_in3 47 rfl rfl
theorem w_528 : (Jvm.Cond.instanceMethod ({ cls := "VeilSearch$Filters", name := "placeOf", desc := "(II)I" } : Jvm.MethodName)) ∈ gT := gT_in3 48 rfl rfl
theorem w_529 : (Jvm.Cond.selects "VeilSearch$Filters" ({ cls := "VeilSearch$Filters", name := "placeOf", desc := "(II)I" } : Jvm.MethodName) ({ cls := "VeilSearch$Filters", name := "placeOf", desc := "(II)I" } : Jvm.MethodName)) ∈ gT := gT_in3 49 rfl rfl
theorem w_530 : (Jvm.Cond.code ({ cls := "VeilSearch$Filters", name := "placeOf", desc := "(II)I" } : Jvm.MethodName) prog_3_method_2_code (4 : Nat) (Option.some Jvm.ClassFile.FieldType.int)) ∈ gT := gT_in3 50 rfl rfl
theorem w_531 : (Jvm.Cond.methodLink "VeilSearch" (244 : Nat) ({ cls := "VeilSearch$Filters", name := "reuse", desc := "(I)J" } : Jvm.MethodName)) ∈ gT := gT_in3 51 rfl rfl
theorem w_532 : (Jvm.Cond.instanceMethod ({ cls := "VeilSearch$Filters", name := "reuse", desc := "(I)J" } : Jvm.MethodName)) ∈ gT := gT_in3 52 rfl rfl
theorem w_533 : (Jvm.Cond.selects "VeilSearch$Filters" ({ cls := "VeilSearch$Filters", name := "reuse", desc := "(I)J" } : Jvm.MethodName) ({ cls := "VeilSearch$Filters", name := "reuse", desc := "(I)J" } : Jvm.MethodName)) ∈ gT := gT_in3 53 rfl rfl
theorem w_534 : (Jvm.Cond.code ({ cls := "VeilSearch$Filters", name := "reuse", desc := "(I)J" } : Jvm.MethodName) prog_3_method_3_code (6 : Nat) (Option.some Jvm.ClassFile.FieldType.long)) ∈ gT := gT_in3 54 rfl rfl
theorem w_535 : (Jvm.Cond.methodLink "VeilSearch$Filters" (36 : Nat) ({ cls := "VeilSearch$Filters", name := "append", desc := "(IIJ)V" } : Jvm.MethodName)) ∈ gT := gT_in3 55 rfl rfl
theorem w_537 : (Jvm.Cond.instanceMethod ({ cls := "VeilSearch$Filters", name := "append", desc := "(IIJ)V" } : Jvm.MethodName)) ∈ gT := gT_in3 57 rfl rfl
theorem w_538 : (Jvm.Cond.code ({ cls := "VeilSearch$Filters", name := "append", desc := "(IIJ)V" } : Jvm.MethodName) prog_3_method_6_code (5 : Nat) (Option.none : Option Jvm.ClassFile.FieldType)) ∈ gT := gT_in3 58 rfl rfl
theorem w_539 : (Jvm.Cond.methodLink "VeilSearch" (213 : Nat) ({ cls := "VeilSearch$Rights", name := "tokensOf", desc := "(I)I" } : Jvm.MethodName)) ∈ gT := gT_in3 59 rfl rfl
theorem w_540 : (Jvm.Cond.instanceMethod ({ cls := "VeilSearch$Rights", name := "tokensOf", desc := "(I)I" } : Jvm.MethodName)) ∈ gT := gT_in3 60 rfl rfl
theorem w_541 : (Jvm.Cond.selects "VeilSearch$Rights" ({ cls := "VeilSearch$Rights", name := "tokensOf", desc := "(I)I" } : Jvm.MethodName) ({ cls := "VeilSearch$Rights", name := "tokensOf", desc := "(I)I" } : Jvm.MethodName)) ∈ gT := gT_in3 61 rfl rfl
theorem w_542 : (Jvm.Cond.code ({ cls := "VeilSearch$Rights", name := "tokensOf", desc := "(I)I" } : Jvm.MethodName) prog_6_method_3_code (5 : Nat) (Option.some Jvm.ClassFile.FieldType.int)) ∈ gT := gT_in3 62 rfl rfl
theorem w_543 : (Jvm.Cond.methodLink "VeilSearch" (248 : Nat) ({ cls := "VeilSearch$Documents", name := "readableOf", desc := "(JI)J" } : Jvm.MethodName)) ∈ gT := gT_in3 63 rfl rfl
theorem w_544 : (Jvm.Cond.instanceMethod ({ cls := "VeilSearch$Documents", name := "readableOf", desc := "(JI)J" } : Jvm.MethodName)) ∈ gT := gT_in3 64 rfl rfl
theorem w_545 : (Jvm.Cond.selects "VeilSearch$Documents" ({ cls := "VeilSearch$Documents", name := "readableOf", desc := "(JI)J" } : Jvm.MethodName) ({ cls := "VeilSearch$Documents", name := "readableOf", desc := "(JI)J" } : Jvm.MethodName)) ∈ gT := gT_in3 65 rfl rfl
theorem w_546 : (Jvm.Cond.code ({ cls := "VeilSearch$Documents", name := "readableOf", desc := "(JI)J" } : Jvm.MethodName) prog_2_method_6_code (7 : Nat) (Option.some Jvm.ClassFile.FieldType.long)) ∈ gT := gT_in3 66 rfl rfl
theorem w_547 : (Jvm.Cond.methodLinkNest "VeilSearch$Documents" (32 : Nat) ({ cls := "VeilSearch", name := "holds", desc := "(JI)Z" } : Jvm.MethodName) "VeilSearch") ∈ gN := gN_in3 67 rfl rfl
theorem w_548 : (Jvm.Cond.methodLink "VeilSearch$Documents" (36 : Nat) ({ cls := "VeilSearch$Documents", name := "mayRead", desc := "(II)Z" } : Jvm.MethodName)) ∈ gT := gT_in3 68 rfl rfl
theorem w_549 : (Jvm.Cond.instanceMethod ({ cls := "VeilSearch$Documents", name := "mayRead", desc := "(II)Z" } : Jvm.MethodName)) ∈ gT := gT_in3 69 rfl rfl
theorem w_550 : (Jvm.Cond.selects "VeilSearch$Documents" ({ cls := "VeilSearch$Documents", name := "mayRead", desc := "(II)Z" } : Jvm.MethodName) ({ cls := "VeilSearch$Documents", name := "mayRead", desc := "(II)Z" } : Jvm.MethodName)) ∈ gT := gT_in3 70 rfl rfl
theorem w_551 : (Jvm.Cond.code ({ cls := "VeilSearch$Documents", name := "mayRead", desc := "(II)Z" } : Jvm.MethodName) prog_2_method_5_code (3 : Nat) (Option.some Jvm.ClassFile.FieldType.boolean)) ∈ gT := gT_in3 71 rfl rfl
theorem w_552 : (Jvm.Cond.methodLink "VeilSearch" (252 : Nat) ({ cls := "VeilSearch$Filters", name := "keepNew", desc := "(IIJ)V" } : Jvm.MethodName)) ∈ gT := gT_in3 72 rfl rfl
theorem w_553 : (Jvm.Cond.instanceMethod ({ cls := "VeilSearch$Filters", name := "keepNew", desc := "(IIJ)V" } : Jvm.MethodName)) ∈ gT := gT_in3 73 rfl rfl
theorem w_554 : (Jvm.Cond.selects "VeilSearch$Filters" ({ cls := "VeilSearch$Filters", name := "keepNew", desc := "(IIJ)V" } : Jvm.MethodName) ({ cls := "VeilSearch$Filters", name := "keepNew", desc := "(IIJ)V" } : Jvm.MethodName)) ∈ gT := gT_in3 74 rfl rfl
theorem w_555 : (Jvm.Cond.code ({ cls := "VeilSearch$Filters", name := "keepNew", desc := "(IIJ)V" } : Jvm.MethodName) prog_3_method_4_code (5 : Nat) (Option.none : Option Jvm.ClassFile.FieldType)) ∈ gT := gT_in3 75 rfl rfl
theorem w_556 : (Jvm.Cond.methodLink "VeilSearch" (199 : Nat) ({ cls := "VeilSearch", name := "passThrough", desc := "(JJ)V" } : Jvm.MethodName)) ∈ gT := gT_in3 76 rfl rfl
theorem w_558 : (Jvm.Cond.instanceMethod ({ cls := "VeilSearch", name := "passThrough", desc := "(JJ)V" } : Jvm.MethodName)) ∈ gT := gT_in3 78 rfl rfl
theorem w_559 : (Jvm.Cond.code ({ cls := "VeilSearch", name := "passThrough", desc := "(JJ)V" } : Jvm.MethodName) prog_1_method_26_code (10 : Nat) (Option.none : Option Jvm.ClassFile.FieldType)) ∈ gT := gT_in3 79 rfl rfl
theorem w_560 : (Jvm.Cond.methodLink "VeilSearch" (256 : Nat) ({ cls := "VeilSearch", name := "firstBlock", desc := "(J)J" } : Jvm.MethodName)) ∈ gT := gT_in3 80 rfl rfl
theorem w_561 : (Jvm.Cond.static ({ cls := "VeilSearch", name := "firstBlock", desc := "(J)J" } : Jvm.MethodName)) ∈ gT := gT_in3 81 rfl rfl
theorem w_562 : (Jvm.Cond.code ({ cls := "VeilSearch", name := "firstBlock", desc := "(J)J" } : Jvm.MethodName) prog_1_method_27_code (5 : Nat) (Option.some Jvm.ClassFile.FieldType.long)) ∈ gT := gT_in3 82 rfl rfl
theorem w_563 : (Jvm.Cond.methodLink "VeilSearch" (263 : Nat) ({ cls := "VeilSearch$Query", name := "scoreOf", desc := "(JLVeilSearch$Documents;)F" } : Jvm.MethodName)) ∈ gT := gT_in3 83 rfl rfl
theorem w_564 : (Jvm.Cond.instanceMethod ({ cls := "VeilSearch$Query", name := "scoreOf", desc := "(JLVeilSearch$Documents;)F" } : Jvm.MethodName)) ∈ gT := gT_in3 84 rfl rfl
theorem w_565 : (Jvm.Cond.selects "VeilSearch$Query" ({ cls := "VeilSearch$Query", name := "scoreOf", desc := "(JLVeilSearch$Documents;)F" } : Jvm.MethodName) ({ cls := "VeilSearch$Query", name := "scoreOf", desc := "(JLVeilSearch$Documents;)F" } : Jvm.MethodName)) ∈ gT := gT_in3 85 rfl rfl
theorem w_566 : (Jvm.Cond.code ({ cls := "VeilSearch$Query", name := "scoreOf", desc := "(JLVeilSearch$Documents;)F" } : Jvm.MethodName) prog_5_method_7_code (7 : Nat) (Option.some Jvm.ClassFile.FieldType.float)) ∈ gT := gT_in3 86 rfl rfl
theorem w_567 : (Jvm.Cond.methodLink "VeilSearch$Query" (60 : Nat) ({ cls := "VeilSearch$Documents", name := "greatestCode", desc := "(JII)I" } : Jvm.MethodName)) ∈ gT := gT_in3 87 rfl rfl
theorem w_568 : (Jvm.Cond.instanceMethod ({ cls := "VeilSearch$Documents", name := "greatestCode", desc := "(JII)I" } : Jvm.MethodName)) ∈ gT := gT_in3 88 rfl rfl
theorem w_569 : (Jvm.Cond.selects "VeilSearch$Documents" ({ cls := "VeilSearch$Documents", name := "greatestCode", desc := "(JII)I" } : Jvm.MethodName) ({ cls := "VeilSearch$Documents", name := "greatestCode", desc := "(JII)I" } : Jvm.MethodName)) ∈ gT := gT_in3 89 rfl rfl
theorem w_570 : (Jvm.Cond.code ({ cls := "VeilSearch$Documents", name := "greatestCode", desc := "(JII)I" } : Jvm.MethodName) prog_2_method_7_code (9 : Nat) (Option.some Jvm.ClassFile.FieldType.int)) ∈ gT := gT_in3 90 rfl rfl
theorem w_571 : (Jvm.Cond.methodLinkNest "VeilSearch$Documents" (40 : Nat) ({ cls := "VeilSearch", name := "lowestId", desc := "(J)I" } : Jvm.MethodName) "VeilSearch") ∈ gN := gN_in3 91 rfl rfl
theorem w_572 : (Jvm.Cond.static ({ cls := "VeilSearch", name := "lowestId", desc := "(J)I" } : Jvm.MethodName)) ∈ gT := gT_in3 92 rfl rfl
theorem w_573 : (Jvm.Cond.code ({ cls := "VeilSearch", name := "lowestId", desc := "(J)I" } : Jvm.MethodName) prog_1_method_23_code (2 : Nat) (Option.some Jvm.ClassFile.FieldType.int)) ∈ gT := gT_in3 93 rfl rfl
theorem w_574 : (Jvm.Cond.methodLink "VeilSearch$Documents" (44 : Nat) ({ cls := "VeilSearch$Documents", name := "codePlace", desc := "(III)I" } : Jvm.MethodName)) ∈ gT := gT_in3 94 rfl rfl
theorem w_575 : (Jvm.Cond.methodLink "VeilSearch$Documents" (48 : Nat) ({ cls := "java/lang/Math", name := "max", desc := "(II)I" } : Jvm.MethodName)) ∈ gT := gT_in3 95 rfl rfl
theorem w_576 : (Jvm.Cond.static ({ cls := "java/lang/Math", name := "max", desc := "(II)I" } : Jvm.MethodName)) ∈ gT := gT_in3 96 rfl rfl
theorem w_577 : (Jvm.Cond.code ({ cls := "java/lang/Math", name := "max", desc := "(II)I" } : Jvm.MethodName) prog_16_method_65_code (2 : Nat) (Option.some Jvm.ClassFile.FieldType.int)) ∈ gT := gT_in3 97 rfl rfl
theorem w_578 : (Jvm.Cond.constantFloat "VeilSearch$Query" (64 : Nat) (1098907648 : UInt32)) ∈ gT := gT_in3 98 rfl rfl
theorem w_579 : (Jvm.Cond.methodLink "VeilSearch" (267 : Nat) ({ cls := "VeilSearch$Hits", name := "lastScore", desc := "()F" } : Jvm.MethodName)) ∈ gT := gT_in3 99 rfl rfl
theorem w_580 : (Jvm.Cond.instanceMethod ({ cls := "VeilSearch$Hits", name := "lastScore", desc := "()F" } : Jvm.MethodName)) ∈ gT := gT_in3 100 rfl rfl
theorem w_581 : (Jvm.Cond.selects "VeilSearch$Hits" ({ cls := "VeilSearch$Hits", name := "lastScore", desc := "()F" } : Jvm.MethodName) ({ cls := "VeilSearch$Hits", name := "lastScore", desc := "()F" } : Jvm.MethodName)) ∈ gT := gT_in3 101 rfl rfl
theorem w_582 : (Jvm.Cond.code ({ cls := "VeilSearch$Hits", name := "lastScore", desc := "()F" } : Jvm.MethodName) prog_4_method_3_code (1 : Nat) (Option.some Jvm.ClassFile.FieldType.float)) ∈ gT := gT_in3 102 rfl rfl
theorem w_583 : (Jvm.Cond.methodLink "VeilSearch" (271 : Nat) ({ cls := "VeilSearch", name := "lookAt", desc := "(J)V" } : Jvm.MethodName)) ∈ gT := gT_in3 103 rfl rfl
theorem w_585 : (Jvm.Cond.instanceMethod ({ cls := "VeilSearch", name := "lookAt", desc := "(J)V" } : Jvm.MethodName)) ∈ gT := gT_in3 105 rfl rfl
theorem w_586 : (Jvm.Cond.code ({ cls := "VeilSearch", name := "lookAt", desc := "(J)V" } : Jvm.MethodName) prog_1_method_28_code (7 : Nat) (Option.none : Option Jvm.ClassFile.FieldType)) ∈ gT := gT_in3 106 rfl rfl
theorem w_587 : (Jvm.Cond.methodLink "VeilSearch" (274 : Nat) ({ cls := "VeilSearch", name := "lowestId", desc := "(J)I" } : Jvm.MethodName)) ∈ gT := gT_in3 107 rfl rfl
theorem w_588 : (Jvm.Cond.methodLink "VeilSearch" (277 : Nat) ({ cls := "VeilSearch$Query", name := "finds", desc := "(ILVeilSearch$Documents;)Z" } : Jvm.MethodName)) ∈ gT := gT_in3 108 rfl rfl
theorem w_589 : (Jvm.Cond.instanceMethod ({ cls := "VeilSearch$Query", name := "finds", desc := "(ILVeilSearch$Documents;)Z" } : Jvm.MethodName)) ∈ gT := gT_in3 109 rfl rfl
theorem w_590 : (Jvm.Cond.selects "VeilSearch$Query" ({ cls := "VeilSearch$Query", name := "finds", desc := "(ILVeilSearch$Documents;)Z" } : Jvm.MethodName) ({ cls := "VeilSearch$Query", name := "finds", desc := "(ILVeilSearch$Documents;)Z" } : Jvm.MethodName)) ∈ gT := gT_in3 110 rfl rfl
theorem w_591 : (Jvm.Cond.code ({ cls := "VeilSearch$Query", name := "finds", desc := "(ILVeilSearch$Documents;)Z" } : Jvm.MethodName) prog_5_method_6_code (6 : Nat) (Option.some Jvm.ClassFile.FieldType.boolean)) ∈ gT := gT_in3 111 rfl rfl
theorem w_592 : (Jvm.Cond.methodLink "VeilSearch$Query" (56 : Nat) ({ cls := "VeilSearch$Documents", name := "codePlace", desc := "(III)I" } : Jvm.MethodName)) ∈ gT := gT_in3 112 rfl rfl
theorem w_593 : (Jvm.Cond.methodLink "VeilSearch" (281 : Nat) ({ cls := "VeilSearch$Hits", name := "take", desc := "(IF)V" } : Jvm.MethodName)) ∈ gT := gT_in3 113 rfl rfl
theorem w_594 : (Jvm.Cond.instanceMethod ({ cls := "VeilSearch$Hits", name := "take", desc := "(IF)V" } : Jvm.MethodName)) ∈ gT := gT_in3 114 rfl rfl
theorem w_595 : (Jvm.Cond.selects "VeilSearch$Hits" ({ cls := "VeilSearch$Hits", name := "take", desc := "(IF)V" } : Jvm.MethodName) ({ cls := "VeilSearch$Hits", name := "take", desc := "(IF)V" } : Jvm.MethodName)) ∈ gT := gT_in3 115 rfl rfl
theorem w_596 : (Jvm.Cond.code ({ cls := "VeilSearch$Hits", name := "take", desc := "(IF)V" } : Jvm.MethodName) prog_4_method_4_code (4 : Nat) (Option.none : Option Jvm.ClassFile.FieldType)) ∈ gT := gT_in3 116 rfl rfl
theorem w_597 : (Jvm.Cond.methodLink "VeilSearch$Hits" (26 : Nat) ({ cls := "VeilSearch$Hits", name := "lastScore", desc := "()F" } : Jvm.MethodName)) ∈ gT := gT_in3 117 rfl rfl
theorem w_598 : (Jvm.Cond.methodLink "VeilSearch$Hits" (30 : Nat) ({ cls := "java/lang/Math", name := "min", desc := "(II)I" } : Jvm.MethodName)) ∈ gT := gT_in3 118 rfl rfl
theorem w_599 : (Jvm.Cond.static ({ cls := "java/lang/Math", name := "min", desc := "(II)I" } : Jvm.MethodName)) ∈ gT := gT_in3 119 rfl rfl
theorem w_600 : (Jvm.Cond.code ({ cls := "java/lang/Math", name := "min", desc := "(II)I" } : Jvm.MethodName) prog_16_method_69_code (2 : Nat) (Option.some Jvm.ClassFile.FieldType.int)) ∈ gT := gT_in3 120 rfl rfl
theorem w_601 : (Jvm.Cond.methodLink "VeilSearchLaw" (133 : Nat) ({ cls := "VeilSearchLaw", name := "hit", desc := "(LVeilSearch;I[J)I" } : Jvm.MethodName)) ∈ gT := gT_in3 121 rfl rfl
theorem w_602 : (Jvm.Cond.static ({ cls := "VeilSearchLaw", name := "hit", desc := "(LVeilSearch;I[J)I" } : Jvm.MethodName)) ∈ gT := gT_in3 122 rfl rfl
theorem w_603 : (Jvm.Cond.codeWith ({ cls := "VeilSearchLaw", name := "hit", desc := "(LVeilSearch;I[J)I" } : Jvm.MethodName) method_13_code (4 : Nat) (Option.some Jvm.ClassFile.FieldType.int) [((0 : Nat), (9 : Nat), (12 : Nat), (57 : Nat))]) ∈ gT := gT_in3 123 rfl rfl
theorem w_604 : (Jvm.Cond.classLink "VeilSearchLaw" (57 : Nat) "java/lang/IndexOutOfBoundsException") ∈ gT := gT_in3 124 rfl rfl
theorem w_605 : (Jvm.Cond.methodLink "VeilSearchLaw" (54 : Nat) ({ cls := "VeilSearch", name := "hit", desc := "(I)I" } : Jvm.MethodName)) ∈ gT := gT_in3 125 rfl rfl
theorem w_606 : (Jvm.Cond.instanceMethod ({ cls := "VeilSearch", name := "hit", desc := "(I)I" } : Jvm.MethodName)) ∈ gT := gT_in3 126 rfl rfl
theorem w_607 : (Jvm.Cond.selects "VeilSearch" ({ cls := "VeilSearch", name := "hit", desc := "(I)I" } : Jvm.MethodName) ({ cls := "VeilSearch", name := "hit", desc := "(I)I" } : Jvm.MethodName)) ∈ gT := gT_in3 127 rfl rfl
theorem w_608 : (Jvm.Cond.code ({ cls := "VeilSearch", name := "hit", desc := "(I)I" } : Jvm.MethodName) prog_1_method_15_code (2 : Nat) (Option.some Jvm.ClassFile.FieldType.int)) ∈ gT := gT_in3 128 rfl rfl
theorem w_609 : (Jvm.Cond.classLink "VeilSearch" (204 : Nat) "java/lang/IndexOutOfBoundsException") ∈ gT := gT_in3 129 rfl rfl
theorem w_610 : (Jvm.Cond.instantiable "java/lang/IndexOutOfBoundsException" (6 : Nat)) ∈ gT := gT_in3 130 rfl rfl
theorem w_611 : (Jvm.Cond.castable "java/lang/IndexOutOfBoundsException" "java/lang/IndexOutOfBoundsException") ∈ gN := gN_in3 131 rfl rfl
theorem w_612 : (Jvm.Cond.selects "java/lang/IndexOutOfBoundsException" ({ cls := "java/lang/Throwable", name := "fillInStackTrace", desc := "(I)Ljava/lang/Throwable;" } : Jvm.MethodName) ({ cls := "java/lang/Throwable", name := "fillInStackTrace", desc := "(I)Ljava/lang/Throwable;" } : Jvm.MethodName)) ∈ gT := gT_in3 132 rfl rfl
theorem w_613 : (Jvm.Cond.lays "java/lang/IndexOutOfBoundsException" "java/lang/Throwable" "cause" "Ljava/lang/Throwable;") ∈ gT := gT_in3 133 rfl rfl
theorem w_614 : (Jvm.Cond.lays "java/lang/IndexOutOfBoundsException" "java/lang/Throwable" "stackTrace" "[Ljava/lang/StackTraceElement;") ∈ gT := gT_in3 134 rfl rfl
theorem w_615 : (Jvm.Cond.lays "java/lang/IndexOutOfBoundsException" "java/lang/Throwable" "suppressedExceptions" "Ljava/util/List;") ∈ gT := gT_in3 135 rfl rfl
theorem w_616 : (Jvm.Cond.lays "java/lang/IndexOutOfBoundsException" "java/lang/Throwable" "detailMessage" "Ljava/lang/String;") ∈ gT := gT_in3 136 rfl rfl
theorem w_617 : (Jvm.Cond.lays "java/lang/IndexOutOfBoundsException" "java/lang/Throwable" "backtrace" "Ljava/lang/Object;") ∈ gT := gT_in3 137 rfl rfl
theorem w_618 : (Jvm.Cond.methodLink "VeilSearch" (206 : Nat) ({ cls := "java/lang/IndexOutOfBoundsException", name := "<init>", desc := "()V" } : Jvm.MethodName)) ∈ gT := gT_in3 138 rfl rfl
theorem w_619 : (Jvm.Cond.instanceMethod ({ cls := "java/lang/IndexOutOfBoundsException", name := "<init>", desc := "()V" } : Jvm.MethodName)) ∈ gT := gT_in3 139 rfl rfl
theorem w_620 : (Jvm.Cond.code ({ cls := "java/lang/IndexOutOfBoundsException", name := "<init>", desc := "()V" } : Jvm.MethodName) prog_14_method_1_code (1 : Nat) (Option.none : Option Jvm.ClassFile.FieldType)) ∈ gT := gT_in3 140 rfl rfl
theorem w_621 : (Jvm.Cond.methodLink "java/lang/IndexOutOfBoundsException" (1 : Nat) ({ cls := "java/lang/RuntimeException", name := "<init>", desc := "()V" } : Jvm.MethodName)) ∈ gT := gT_in3 141 rfl rfl
theorem w_622 : (Jvm.Cond.lays "java/lang/IndexOutOfBoundsException" "java/lang/Throwable" "depth" "I") ∈ gT := gT_in3 142 rfl rfl
theorem w_623 : (Jvm.Cond.superclass "java/lang/IndexOutOfBoundsException" "java/lang/RuntimeException") ∈ gT := gT_in3 143 rfl rfl
theorem w_624 : (Jvm.Cond.methodLink "VeilSearchLaw" (136 : Nat) ({ cls := "VeilSearchLaw", name := "score", desc := "(LVeilSearch;I[D)I" } : Jvm.MethodName)) ∈ gT := gT_in3 144 rfl rfl
theorem w_625 : (Jvm.Cond.static ({ cls := "VeilSearchLaw", name := "score", desc := "(LVeilSearch;I[D)I" } : Jvm.MethodName)) ∈ gT := gT_in3 145 rfl rfl
theorem w_626 : (Jvm.Cond.codeWith ({ cls := "VeilSearchLaw", name := "score", desc := "(LVeilSearch;I[D)I" } : Jvm.MethodName) method_14_code (4 : Nat) (Option.some Jvm.ClassFile.FieldType.int) [((0 : Nat), (8 : Nat), (11 : Nat), (57 : Nat))]) ∈ gT := gT_in3 146 rfl rfl
theorem w_627 : (Jvm.Cond.methodLink "VeilSearchLaw" (59 : Nat) ({ cls := "VeilSearch", name := "score", desc := "(I)D" } : Jvm.MethodName)) ∈ gT := gT_in3 147 rfl rfl
theorem w_628 : (Jvm.Cond.instanceMethod ({ cls := "VeilSearch", name := "score", desc := "(I)D" } : Jvm.MethodName)) ∈ gT := gT_in3 148 rfl rfl
theorem w_629 : (Jvm.Cond.selects "VeilSearch" ({ cls := "VeilSearch", name := "score", desc := "(I)D" } : Jvm.MethodName) ({ cls := "VeilSearch", name := "score", desc := "(I)D" } : Jvm.MethodName)) ∈ gT := gT_in3 149 rfl rfl
theorem w_630 : (Jvm.Cond.code ({ cls := "VeilSearch", name := "score", desc := "(I)D" } : Jvm.MethodName) prog_1_method_16_code (2 : Nat) (Option.some Jvm.ClassFile.FieldType.double)) ∈ gT := gT_in3 150 rfl rfl
theorem w_631 : (Jvm.Cond.methodLink "VeilSearchLaw" (140 : Nat) ({ cls := "VeilSearchLaw", name := "value", desc := "(LVeilSearch;III[J)I" } : Jvm.MethodName)) ∈ gT := gT_in3 151 rfl rfl
theorem w_632 : (Jvm.Cond.static ({ cls := "VeilSearchLaw", name := "value", desc := "(LVeilSearch;III[J)I" } : Jvm.MethodName)) ∈ gT := gT_in3 152 rfl rfl
theorem w_633 : (Jvm.Cond.codeWith ({ cls := "VeilSearchLaw", name := "value", desc := "(LVeilSearch;III[J)I" } : Jvm.MethodName) method_15_code (6 : Nat) (Option.some Jvm.ClassFile.FieldType.int) [((0 : Nat), (12 : Nat), (15 : Nat), (13 : Nat)), ((0 : Nat), (12 : Nat), (19 : Nat), (41 : Nat)), ((0 : Nat), (12 : Nat), (23 : Nat), (66 : Nat))]) ∈ gT := gT_in3 153 rfl rfl
theorem w_634 : (Jvm.Cond.classLink "VeilSearchLaw" (66 : Nat) "java/lang/UnsupportedOperationException") ∈ gT := gT_in3 154 rfl rfl
theorem w_635 : (Jvm.Cond.methodLink "VeilSearchLaw" (63 : Nat) ({ cls := "VeilSearch", name := "value", desc := "(III)I" } : Jvm.MethodName)) ∈ gT := gT_in3 155 rfl rfl
theorem w_636 : (Jvm.Cond.instanceMethod ({ cls := "VeilSearch", name := "value", desc := "(III)I" } : Jvm.MethodName)) ∈ gT := gT_in3 156 rfl rfl
theorem w_637 : (Jvm.Cond.selects "VeilSearch" ({ cls := "VeilSearch", name := "value", desc := "(III)I" } : Jvm.MethodName) ({ cls := "VeilSearch", name := "value", desc := "(III)I" } : Jvm.MethodName)) ∈ gT := gT_in3 157 rfl rfl
theorem w_638 : (Jvm.Cond.code ({ cls := "VeilSearch", name := "value", desc := "(III)I" } : Jvm.MethodName) prog_1_method_17_code (4 : Nat) (Option.some Jvm.ClassFile.FieldType.int)) ∈ gT := gT_in3 158 rfl rfl
theorem w_639 : (Jvm.Cond.methodLink "VeilSearch" (216 : Nat) ({ cls := "VeilSearch$Documents", name := "mayRead", desc := "(II)Z" } : Jvm.MethodName)) ∈ gT := gT_in3 159 rfl rfl
theorem w_640 : (Jvm.Cond.methodLink "VeilSearch" (219 : Nat) ({ cls := "VeilSearch$Rights", name := "isOpen", desc := "(II)Z" } : Jvm.MethodName)) ∈ gT := gT_in3 160 rfl rfl
theorem w_641 : (Jvm.Cond.classLink "VeilSearch" (222 : Nat) "java/lang/UnsupportedOperationException") ∈ gT := gT_in3 161 rfl rfl
theorem w_642 : (Jvm.Cond.instantiable "java/lang/UnsupportedOperationException" (6 : Nat)) ∈ gT := gT_in3 162 rfl rfl
theorem w_643 : (Jvm.Cond.castable "java/lang/UnsupportedOperationException" "java/lang/UnsupportedOperationException") ∈ gN := gN_in3 163 rfl rfl
theorem w_644 : (Jvm.Cond.selects "java/lang/UnsupportedOperationException" ({ cls := "java/lang/Throwable", name := "fillInStackTrace", desc := "(I)Ljava/lang/Throwable;" } : Jvm.MethodName) ({ cls := "java/lang/Throwable", name := "fillInStackTrace", desc := "(I)Ljava/lang/Throwable;" } : Jvm.MethodName)) ∈ gT := gT_in3 164 rfl rfl
theorem w_645 : (Jvm.Cond.lays "java/lang/UnsupportedOperationException" "java/lang/Throwable" "cause" "Ljava/lang/Throwable;") ∈ gT := gT_in3 165 rfl rfl
theorem w_646 : (Jvm.Cond.lays "java/lang/UnsupportedOperationException" "java/lang/Throwable" "stackTrace" "[Ljava/lang/StackTraceElement;") ∈ gT := gT_in3 166 rfl rfl
theorem w_647 : (Jvm.Cond.lays "java/lang/UnsupportedOperationException" "java/lang/Throwable" "suppressedExceptions" "Ljava/util/List;") ∈ gT := gT_in3 167 rfl rfl
theorem w_648 : (Jvm.Cond.lays "java/lang/UnsupportedOperationException" "java/lang/Throwable" "detailMessage" "Ljava/lang/String;") ∈ gT := gT_in3 168 rfl rfl
theorem w_649 : (Jvm.Cond.lays "java/lang/UnsupportedOperationException" "java/lang/Throwable" "backtrace" "Ljava/lang/Object;") ∈ gT := gT_in3 169 rfl rfl
theorem w_650 : (Jvm.Cond.methodLink "VeilSearch" (224 : Nat) ({ cls := "java/lang/UnsupportedOperationException", name := "<init>", desc := "()V" } : Jvm.MethodName)) ∈ gT := gT_in3 170 rfl rfl
theorem w_651 : (Jvm.Cond.instanceMethod ({ cls := "java/lang/UnsupportedOperationException", name := "<init>", desc := "()V" } : Jvm.MethodName)) ∈ gT := gT_in3 171 rfl rfl
theorem w_652 : (Jvm.Cond.code ({ cls := "java/lang/UnsupportedOperationException", name := "<init>", desc := "()V" } : Jvm.MethodName) prog_20_method_1_code (1 : Nat) (Option.none : Option Jvm.ClassFile.FieldType)) ∈ gT := gT_in3 172 rfl rfl
theorem w_653 : (Jvm.Cond.methodLink "java/lang/UnsupportedOperationException" (1 : Nat) ({ cls := "java/lang/RuntimeException", name := "<init>", desc := "()V" } : Jvm.MethodName)) ∈ gT := gT_in3 173 rfl rfl
theorem w_654 : (Jvm.Cond.lays "java/lang/UnsupportedOperationException" "java/lang/Throwable" "depth" "I") ∈ gT := gT_in3 174 rfl rfl
theorem w_655 : (Jvm.Cond.superclass "java/lang/UnsupportedOperationException" "java/lang/RuntimeException") ∈ gT := gT_in3 175 rfl rfl
theorem w_656 : (Jvm.Cond.methodLink "VeilSearchLaw" (143 : Nat) ({ cls := "VeilSearchLaw", name := "count", desc := "(LVeilSearch;I[J)I" } : Jvm.MethodName)) ∈ gT := gT_in3 176 rfl rfl
theorem w_657 : (Jvm.Cond.static ({ cls := "VeilSearchLaw", name := "count", desc := "(LVeilSearch;I[J)I" } : Jvm.MethodName)) ∈ gT := gT_in3 177 rfl rfl
theorem w_658 : (Jvm.Cond.codeWith ({ cls := "VeilSearchLaw", name := "count", desc := "(LVeilSearch;I[J)I" } : Jvm.MethodName) method_16_code (4 : Nat) (Option.some Jvm.ClassFile.FieldType.int) [((0 : Nat), (9 : Nat), (12 : Nat), (13 : Nat))]) ∈ gT := gT_in3 178 rfl rfl
theorem w_659 : (Jvm.Cond.methodLink "VeilSearchLaw" (68 : Nat) ({ cls := "VeilSearch", name := "count", desc := "(I)I" } : Jvm.MethodName)) ∈ gT := gT_in3 179 rfl rfl
theorem w_660 : (Jvm.Cond.instanceMethod ({ cls := "VeilSearch", name := "count", desc := "(I)I" } : Jvm.MethodName)) ∈ gT := gT_in3 180 rfl rfl
theorem w_661 : (Jvm.Cond.selects "VeilSearch" ({ cls := "VeilSearch", name := "count", desc := "(I)I" } : Jvm.MethodName) ({ cls := "VeilSearch", name := "count", desc := "(I)I" } : Jvm.MethodName)) ∈ gT := gT_in3 181 rfl rfl
theorem w_662 : (Jvm.Cond.code ({ cls := "VeilSearch", name := "count", desc := "(I)I" } : Jvm.MethodName) prog_1_method_18_code (2 : Nat) (Option.some Jvm.ClassFile.FieldType.int)) ∈ gT := gT_in3 182 rfl rfl
theorem w_663 : (Jvm.Cond.classLink "VeilSearchLaw" (72 : Nat) "VeilSearchModel") ∈ gT := gT_in3 183 rfl rfl
theorem w_664 : (Jvm.Cond.instantiable "VeilSearchModel" (40 : Nat)) ∈ gT := gT_in3 184 rfl rfl
theorem w_665 : (Jvm.Cond.methodLink "VeilSearchLaw" (74 : Nat) ({ cls := "VeilSearchModel", name := "<init>", desc := "()V" } : Jvm.MethodName)) ∈ gT := gT_in3 185 rfl rfl
theorem w_666 : (Jvm.Cond.instanceMethod ({ cls := "VeilSearchModel", name := "<init>", desc := "()V" } : Jvm.MethodName)) ∈ gT := gT_in3 186 rfl rfl
theorem w_667 : (Jvm.Cond.code ({ cls := "VeilSearchModel", name := "<init>", desc := "()V" } : Jvm.MethodName) prog_10_method_1_code (1 : Nat) (Option.none : Option Jvm.ClassFile.FieldType)) ∈ gT := gT_in3 187 rfl rfl
theorem w_668 : (Jvm.Cond.methodLink "VeilSearchModel" (1 : Nat) ({ cls := "java/lang/Object", name := "<init>", desc := "()V" } : Jvm.MethodName)) ∈ gT := gT_in3 188 rfl rfl
theorem w_669 : (Jvm.Cond.fieldLink "VeilSearchModel" (7 : Nat) "VeilSearchModel" "members" "[I") ∈ gT := gT_in3 189 rfl rfl
theorem w_670 : (Jvm.Cond.fieldLink "VeilSearchModel" (13 : Nat) "VeilSearchModel" "levels" "[I") ∈ gT := gT_in3 190 rfl rfl
theorem w_671 : (Jvm.Cond.fieldLink "VeilSearchModel" (16 : Nat) "VeilSearchModel" "clearances" "[I") ∈ gT := gT_in3 191 rfl rfl
theorem w_672 : (Jvm.Cond.fieldLink "VeilSearchModel" (19 : Nat) "VeilSearchModel" "oldMembers" "[I") ∈ gT := gT_in3 192 rfl rfl
theorem w_673 : (Jvm.Cond.fieldLink "VeilSearchModel" (22 : Nat) "VeilSearchModel" "oldLevels" "[I") ∈ gT := gT_in3 193 rfl rfl
theorem w_674 : (Jvm.Cond.fieldLink "VeilSearchModel" (25 : Nat) "VeilSearchModel" "oldClearances" "[I") ∈ gT := gT_in3 194 rfl rfl
theorem w_675 : (Jvm.Cond.fieldLink "VeilSearchModel" (28 : Nat) "VeilSearchModel" "value" "[I") ∈ gT := gT_in3 195 rfl rfl
theorem w_676 : (Jvm.Cond.fieldLink "VeilSearchModel" (31 : Nat) "VeilSearchModel" "code" "[I") ∈ gT := gT_in3 196 rfl rfl
theorem w_677 : (Jvm.Cond.fieldLink "VeilSearchModel" (34 : Nat) "VeilSearchModel" "allows" "[I") ∈ gT := gT_in3 197 rfl rfl
theorem w_678 : (Jvm.Cond.fieldLink "VeilSearchModel" (37 : Nat) "VeilSearchModel" "denies" "[I") ∈ gT := gT_in3 198 rfl rfl
theorem w_679 : (Jvm.Cond.fieldLink "VeilSearchModel" (40 : Nat) "VeilSearchModel" "parent" "[I") ∈ gT := gT_in3 199 rfl rfl
theorem w_680 : (Jvm.Cond.fieldLink "VeilSearchModel" (43 : Nat) "VeilSearchModel" "segment" "[I") ∈ gT := gT_in3 200 rfl rfl
theorem w_681 : (Jvm.Cond.fieldLink "VeilSearchModel" (46 : Nat) "VeilSearchModel" "seen" "[I") ∈ gT := gT_in3 201 rfl rfl
theorem w_682 : (Jvm.Cond.fieldLink "VeilSearchModel" (49 : Nat) "VeilSearchModel" "removed" "[Z") ∈ gT := gT_in3 202 rfl rfl
theorem w_683 : (Jvm.Cond.fieldLink "VeilSearchModel" (53 : Nat) "VeilSearchModel" "seenRemoved" "[Z") ∈ gT := gT_in3 203 rfl rfl
theorem w_684 : (Jvm.Cond.fieldLink "VeilSearchModel" (56 : Nat) "VeilSearchModel" "segments" "[I") ∈ gT := gT_in3 204 rfl rfl
theorem w_685 : (Jvm.Cond.fieldLink "VeilSearchModel" (59 : Nat) "VeilSearchModel" "shown" "[I") ∈ gT := gT_in3 205 rfl rfl
theorem w_686 : (Jvm.Cond.fieldLink "VeilSearchModel" (62 : Nat) "VeilSearchModel" "sort" "[I") ∈ gT := gT_in3 206 rfl rfl
theorem w_687 : (Jvm.Cond.fieldLink "VeilSearchModel" (65 : Nat) "VeilSearchModel" "term" "[I") ∈ gT := gT_in3 207 rfl rfl
theorem w_688 : (Jvm.Cond.fieldLink "VeilSearchModel" (68 : Nat) "VeilSearchModel" "field" "[I") ∈ gT := gT_in3 208 rfl rfl
theorem w_689 : (Jvm.Cond.fieldLink "VeilSearchModel" (71 : Nat) "VeilSearchModel" "order" "[I") ∈ gT := gT_in3 209 rfl rfl
theorem w_690 : (Jvm.Cond.fieldLink "VeilSearchModel" (74 : Nat) "VeilSearchModel" "hits" "[I") ∈ gT := gT_in3 210 rfl rfl
theorem w_691 : (Jvm.Cond.fieldLink "VeilSearchModel" (77 : Nat) "VeilSearchModel" "weight" "[D") ∈ gT := gT_in3 211 rfl rfl
theorem w_692 : (Jvm.Cond.fieldLink "VeilSearchModel" (81 : Nat) "VeilSearchModel" "scores" "[F") ∈ gT := gT_in3 212 rfl rfl
theorem w_693 : (Jvm.Cond.fieldLink "VeilSearchModel" (85 : Nat) "VeilSearchModel" "filterOf" "[I") ∈ gT := gT_in3 213 rfl rfl
theorem w_694 : (Jvm.Cond.fieldLink "VeilSearchModel" (88 : Nat) "VeilSearchModel" "filterFor" "[I") ∈ gT := gT_in3 214 rfl rfl
theorem w_695 : (Jvm.Cond.fieldLink "VeilSearchModel" (91 : Nat) "VeilSearchModel" "filterAt" "[I") ∈ gT := gT_in3 215 rfl rfl
theorem w_696 : (Jvm.Cond.fieldLink "VeilSearchModel" (116 : Nat) "VeilSearchModel" "ids" "I") ∈ gT := gT_in3 216 rfl rfl
theorem w_697 : (Jvm.Cond.fieldLink "VeilSearchModel" (119 : Nat) "VeilSearchModel" "segmentMany" "I") ∈ gT := gT_in3 217 rfl rfl
theorem w_698 : (Jvm.Cond.fieldLink "VeilSearchModel" (128 : Nat) "VeilSearchModel" "shownMany" "I") ∈ gT := gT_in3 218 rfl rfl
theorem w_699 : (Jvm.Cond.fieldLink "VeilSearchModel" (125 : Nat) "VeilSearchModel" "serial" "I") ∈ gT := gT_in3 219 rfl rfl
theorem w_700 : (Jvm.Cond.fieldLink "VeilSearchModel" (146 : Nat) "VeilSearchModel" "clauses" "I") ∈ gT := gT_in3 220 rfl rfl
theorem w_701 : (Jvm.Cond.fieldLink "VeilSearchModel" (157 : Nat) "VeilSearchModel" "found" "I") ∈ gT := gT_in3 221 rfl rfl
theorem w_702 : (Jvm.Cond.fieldLink "VeilSearchModel" (169 : Nat) "VeilSearchModel" "looked" "I") ∈ gT := gT_in3 222 rfl rfl
theorem w_703 : (Jvm.Cond.fieldLink "VeilSearchModel" (178 : Nat) "VeilSearchModel" "matched" "I") ∈ gT := gT_in3 223 rfl rfl
theorem w_704 : (Jvm.Cond.fieldLink "VeilSearchModel" (131 : Nat) "VeilSearchModel" "filters" "I") ∈ gT := gT_in3 224 rfl rfl
theorem w_705 : (Jvm.Cond.fieldLink "VeilSearchModel" (166 : Nat) "VeilSearchModel" "made" "I") ∈ gT := gT_in3 225 rfl rfl
theorem w_706 : (Jvm.Cond.fieldLink "VeilSearchModel" (163 : Nat) "VeilSearchModel" "reused" "I") ∈ gT := gT_in3 226 rfl rfl
theorem w_707 : (Jvm.Cond.fieldLink "VeilSearchModel" (160 : Nat) "VeilSearchModel" "clock" "I") ∈ gT := gT_in3 227 rfl rfl
theorem w_708 : (Jvm.Cond.fieldLink "VeilSearchModel" (94 : Nat) "VeilSearchModel" "thrown" "I") ∈ gT := gT_in3 228 rfl rfl
theorem w_709 : (Jvm.Cond.laysFinal "VeilSearchModel" "VeilSearchModel" "members" "[I") ∈ gT := gT_in3 229 rfl rfl
theorem w_711 : (Jvm.Cond.laysFinal "VeilSearchModel" "VeilSearchModel" "levels" "[I") ∈ gT := gT_in3 231 rfl rfl
theorem w_713 : (Jvm.Cond.laysFinal "VeilSearchModel" "VeilSearchModel" "clearances" "[I") ∈ gT := gT_in3 233 rfl rfl
theorem w_715 : (Jvm.Cond.laysFinal "VeilSearchModel" "VeilSearchModel" "oldMembers" "[I") ∈ gT := gT_in3 235 rfl rfl
theorem w_717 : (Jvm.Cond.laysFinal "VeilSearchModel" "VeilSearchModel" "oldLevels" "[I") ∈ gT := gT_in3 237 rfl rfl
theorem w_719 : (Jvm.Cond.laysFinal "VeilSearchModel" "VeilSearchModel" "oldClearances" "[I") ∈ gT := gT_in3 239 rfl rfl
theorem w_721 : (Jvm.Cond.laysFinal "VeilSearchModel" "VeilSearchModel" "value" "[I") ∈ gT := gT_in4 1 rfl rfl
theorem w_723 : (Jvm.Cond.laysFinal "VeilSearchModel" "VeilSearchModel" "code" "[I") ∈ gT := gT_in4 3 rfl rfl
theorem w_725 : (Jvm.Cond.laysFinal "VeilSearchModel" "VeilSearchModel" "allows" "[I") ∈ gT := gT_in4 5 rfl rfl
theorem w_727 : (Jvm.Cond.laysFinal "VeilSearchModel" "VeilSearchModel" "denies" "[I") ∈ gT := gT_in4 7 rfl rfl
theorem w_729 : (Jvm.Cond.laysFinal "VeilSearchModel" "VeilSearchModel" "parent" "[I") ∈ gT := gT_in4 9 rfl rfl
theorem w_731 : (Jvm.Cond.laysFinal "VeilSearchModel" "VeilSearchModel" "segment" "[I") ∈ gT := gT_in4 11 rfl rfl
theorem w_733 : (Jvm.Cond.laysFinal "VeilSearchModel" "VeilSearchModel" "seen" "[I") ∈ gT := gT_in4 13 rfl rfl
theorem w_735 : (Jvm.Cond.laysFinal "VeilSearchModel" "VeilSearchModel" "removed" "[Z") ∈ gT := gT_in4 15 rfl rfl
theorem w_737 : (Jvm.Cond.laysFinal "VeilSearchModel" "VeilSearchModel" "seenRemoved" "[Z") ∈ gT := gT_in4 17 rfl rfl
theorem w_739 : (Jvm.Cond.laysFinal "VeilSearchModel" "VeilSearchModel" "segments" "[I") ∈ gT := gT_in4 19 rfl rfl
theorem w_741 : (Jvm.Cond.laysFinal "VeilSearchModel" "VeilSearchModel" "shown" "[I") ∈ gT := gT_in4 21 rfl rfl
theorem w_743 : (Jvm.Cond.laysFinal "VeilSearchModel" "VeilSearchModel" "sort" "[I") ∈ gT := gT_in4 23 rfl rfl
theorem w_745 : (Jvm.Cond.laysFinal "VeilSearchModel" "VeilSearchModel" "term" "[I") ∈ gT := gT_in4 25 rfl rfl
theorem w_747 : (Jvm.Cond.laysFinal "VeilSearchModel" "VeilSearchModel" "field" "[I") ∈ gT := gT_in4 27 rfl rfl
theorem w_749 : (Jvm.Cond.laysFinal "VeilSearchModel" "VeilSearchModel" "order" "[I") ∈ gT := gT_in4 29 rfl rfl
theorem w_751 : (Jvm.Cond.laysFinal "VeilSearchModel" "VeilSearchModel" "hits" "[I") ∈ gT := gT_in4 31 rfl rfl
theorem w_753 : (Jvm.Cond.laysFinal "VeilSearchModel" "VeilSearchModel" "weight" "[D") ∈ gT := gT_in4 33 rfl rfl
theorem w_755 : (Jvm.Cond.laysFinal "VeilSearchModel" "VeilSearchModel" "scores" "[F") ∈ gT := gT_in4 35 rfl rfl
theorem w_757 : (Jvm.Cond.laysFinal "VeilSearchModel" "VeilSearchModel" "filterOf" "[I") ∈ gT := gT_in4 37 rfl rfl
theorem w_759 : (Jvm.Cond.laysFinal "VeilSearchModel" "VeilSearchModel" "filterFor" "[I") ∈ gT := gT_in4 39 rfl rfl
theorem w_761 : (Jvm.Cond.laysFinal "VeilSearchModel" "VeilSearchModel" "filterAt" "[I") ∈ gT := gT_in4 41 rfl rfl
theorem w_763 : (Jvm.Cond.lays "VeilSearchModel" "VeilSearchModel" "ids" "I") ∈ gT := gT_in4 43 rfl rfl
theorem w_765 : (Jvm.Cond.lays "VeilSearchModel" "VeilSearchModel" "segmentMany" "I") ∈ gT := gT_in4 45 rfl rfl
theorem w_767 : (Jvm.Cond.lays "VeilSearchModel" "VeilSearchModel" "shownMany" "I") ∈ gT := gT_in4 47 rfl rfl
theorem w_769 : (Jvm.Cond.lays "VeilSearchModel" "VeilSearchModel" "serial" "I") ∈ gT := gT_in4 49 rfl rfl
theorem w_771 : (Jvm.Cond.lays "VeilSearchModel" "VeilSearchModel" "clauses" "I") ∈ gT := gT_in4 51 rfl rfl
theorem w_773 : (Jvm.Cond.lays "VeilSearchModel" "VeilSearchModel" "found" "I") ∈ gT := gT_in4 53 rfl rfl
theorem w_775 : (Jvm.Cond.lays "VeilSearchModel" "VeilSearchModel" "looked" "I") ∈ gT := gT_in4 55 rfl rfl
theorem w_777 : (Jvm.Cond.lays "VeilSearchModel" "VeilSearchModel" "matched" "I") ∈ gT := gT_in4 57 rfl rfl
theorem w_779 : (Jvm.Cond.lays "VeilSearchModel" "VeilSearchModel" "filters" "I") ∈ gT := gT_in4 59 rfl rfl
theorem w_781 : (Jvm.Cond.lays "VeilSearchModel" "VeilSearchModel" "made" "I") ∈ gT := gT_in4 61 rfl rfl
theorem w_783 : (Jvm.Cond.lays "VeilSearchModel" "VeilSearchModel" "reused" "I") ∈ gT := gT_in4 63 rfl rfl
theorem w_785 : (Jvm.Cond.lays "VeilSearchModel" "VeilSearchModel" "clock" "I") ∈ gT := gT_in4 65 rfl rfl
theorem w_787 : (Jvm.Cond.lays "VeilSearchModel" "VeilSearchModel" "thrown" "I") ∈ gT := gT_in4 67 rfl rfl
theorem w_789 : (Jvm.Cond.superclass "VeilSearchModel" "java/lang/Object") ∈ gT := gT_in4 69 rfl rfl
theorem w_790 : (Jvm.Cond.arrayClass Jvm.ClassFile.FieldType.double) ∈ gT := gT_in4 70 rfl rfl
theorem w_791 : (Jvm.Cond.methodLink "VeilSearchLaw" (81 : Nat) ({ cls := "VeilSearchModel", name := "thrown", desc := "()I" } : Jvm.MethodName)) ∈ gT := gT_in4 71 rfl rfl
theorem w_792 : (Jvm.Cond.instanceMethod ({ cls := "VeilSearchModel", name := "thrown", desc := "()I" } : Jvm.MethodName)) ∈ gT := gT_in4 72 rfl rfl
theorem w_793 : (Jvm.Cond.selects "VeilSearchModel" ({ cls := "VeilSearchModel", name := "thrown", desc := "()I" } : Jvm.MethodName) ({ cls := "VeilSearchModel", name := "thrown", desc := "()I" } : Jvm.MethodName)) ∈ gT := gT_in4 73 rfl rfl
theorem w_794 : (Jvm.Cond.code ({ cls := "VeilSearchModel", name := "thrown", desc := "()I" } : Jvm.MethodName) prog_10_method_2_code (1 : Nat) (Option.some Jvm.ClassFile.FieldType.int)) ∈ gT := gT_in4 74 rfl rfl
theorem w_795 : (Jvm.Cond.methodLink "VeilSearchLaw" (80 : Nat) ({ cls := "VeilSearchModel", name := "member", desc := "(IIZ)Z" } : Jvm.MethodName)) ∈ gT := gT_in4 75 rfl rfl
theorem w_796 : (Jvm.Cond.instanceMethod ({ cls := "VeilSearchModel", name := "member", desc := "(IIZ)Z" } : Jvm.MethodName)) ∈ gT := gT_in4 76 rfl rfl
theorem w_797 : (Jvm.Cond.selects "VeilSearchModel" ({ cls := "VeilSearchModel", name := "member", desc := "(IIZ)Z" } : Jvm.MethodName) ({ cls := "VeilSearchModel", name := "member", desc := "(IIZ)Z" } : Jvm.MethodName)) ∈ gT := gT_in4 77 rfl rfl
theorem w_798 : (Jvm.Cond.code ({ cls := "VeilSearchModel", name := "member", desc := "(IIZ)Z" } : Jvm.MethodName) prog_10_method_5_code (6 : Nat) (Option.some Jvm.ClassFile.FieldType.boolean)) ∈ gT := gT_in4 78 rfl rfl
theorem w_799 : (Jvm.Cond.methodLink "VeilSearchModel" (98 : Nat) ({ cls := "VeilSearchModel", name := "in", desc := "(III)Z" } : Jvm.MethodName)) ∈ gT := gT_in4 79 rfl rfl
theorem w_800 : (Jvm.Cond.static ({ cls := "VeilSearchModel", name := "in", desc := "(III)Z" } : Jvm.MethodName)) ∈ gT := gT_in4 80 rfl rfl
theorem w_801 : (Jvm.Cond.code ({ cls := "VeilSearchModel", name := "in", desc := "(III)Z" } : Jvm.MethodName) prog_10_method_3_code (3 : Nat) (Option.some Jvm.ClassFile.FieldType.boolean)) ∈ gT := gT_in4 81 rfl rfl
theorem w_802 : (Jvm.Cond.methodLink "VeilSearchLaw" (87 : Nat) ({ cls := "VeilSearchModel", name := "level", desc := "(III)I" } : Jvm.MethodName)) ∈ gT := gT_in4 82 rfl rfl
theorem w_803 : (Jvm.Cond.instanceMethod ({ cls := "VeilSearchModel", name := "level", desc := "(III)I" } : Jvm.MethodName)) ∈ gT := gT_in4 83 rfl rfl
theorem w_804 : (Jvm.Cond.selects "VeilSearchModel" ({ cls := "VeilSearchModel", name := "level", desc := "(III)I" } : Jvm.MethodName) ({ cls := "VeilSearchModel", name := "level", desc := "(III)I" } : Jvm.MethodName)) ∈ gT := gT_in4 84 rfl rfl
theorem w_805 : (Jvm.Cond.code ({ cls := "VeilSearchModel", name := "level", desc := "(III)I" } : Jvm.MethodName) prog_10_method_6_code (5 : Nat) (Option.some Jvm.ClassFile.FieldType.int)) ∈ gT := gT_in4 85 rfl rfl
theorem w_806 : (Jvm.Cond.methodLink "VeilSearchModel" (102 : Nat) ({ cls := "VeilSearchModel", name := "fail", desc := "(I)I" } : Jvm.MethodName)) ∈ gT := gT_in4 86 rfl rfl
theorem w_808 : (Jvm.Cond.instanceMethod ({ cls := "VeilSearchModel", name := "fail", desc := "(I)I" } : Jvm.MethodName)) ∈ gT := gT_in4 88 rfl rfl
theorem w_809 : (Jvm.Cond.code ({ cls := "VeilSearchModel", name := "fail", desc := "(I)I" } : Jvm.MethodName) prog_10_method_4_code (2 : Nat) (Option.some Jvm.ClassFile.FieldType.int)) ∈ gT := gT_in4 89 rfl rfl
theorem w_810 : (Jvm.Cond.methodLink "VeilSearchLaw" (93 : Nat) ({ cls := "VeilSearchModel", name := "weigh", desc := "(IID)I" } : Jvm.MethodName)) ∈ gT := gT_in4 90 rfl rfl
theorem w_811 : (Jvm.Cond.instanceMethod ({ cls := "VeilSearchModel", name := "weigh", desc := "(IID)I" } : Jvm.MethodName)) ∈ gT := gT_in4 91 rfl rfl
theorem w_812 : (Jvm.Cond.selects "VeilSearchModel" ({ cls := "VeilSearchModel", name := "weigh", desc := "(IID)I" } : Jvm.MethodName) ({ cls := "VeilSearchModel", name := "weigh", desc := "(IID)I" } : Jvm.MethodName)) ∈ gT := gT_in4 92 rfl rfl
theorem w_813 : (Jvm.Cond.code ({ cls := "VeilSearchModel", name := "weigh", desc := "(IID)I" } : Jvm.MethodName) prog_10_method_9_code (6 : Nat) (Option.some Jvm.ClassFile.FieldType.int)) ∈ gT := gT_in4 93 rfl rfl
theorem w_814 : (Jvm.Cond.methodLink "VeilSearchModel" (110 : Nat) ({ cls := "VeilSearchModel", name := "isWeight", desc := "(D)Z" } : Jvm.MethodName)) ∈ gT := gT_in4 94 rfl rfl
theorem w_815 : (Jvm.Cond.static ({ cls := "VeilSearchModel", name := "isWeight", desc := "(D)Z" } : Jvm.MethodName)) ∈ gT := gT_in4 95 rfl rfl
theorem w_816 : (Jvm.Cond.code ({ cls := "VeilSearchModel", name := "isWeight", desc := "(D)Z" } : Jvm.MethodName) prog_10_method_8_code (2 : Nat) (Option.some Jvm.ClassFile.FieldType.boolean)) ∈ gT := gT_in4 96 rfl rfl
theorem w_817 : (Jvm.Cond.constantDouble "VeilSearchModel" (106 : Nat) (4652007308841189376 : UInt64)) ∈ gT := gT_in4 97 rfl rfl
theorem w_818 : (Jvm.Cond.constantDouble "VeilSearchModel" (108 : Nat) (4158027847206421152 : UInt64)) ∈ gT := gT_in4 98 rfl rfl
theorem w_819 : (Jvm.Cond.constantFloat "VeilSearchModel" (114 : Nat) (1098907648 : UInt32)) ∈ gT := gT_in4 99 rfl rfl
theorem w_820 : (Jvm.Cond.constantFloat "VeilSearchModel" (115 : Nat) (1056964608 : UInt32)) ∈ gT := gT_in4 100 rfl rfl
theorem w_821 : (Jvm.Cond.methodLink "VeilSearchLaw" (97 : Nat) ({ cls := "VeilSearchModel", name := "put", desc := "(II)I" } : Jvm.MethodName)) ∈ gT := gT_in4 101 rfl rfl
theorem w_822 : (Jvm.Cond.instanceMethod ({ cls := "VeilSearchModel", name := "put", desc := "(II)I" } : Jvm.MethodName)) ∈ gT := gT_in4 102 rfl rfl
theorem w_823 : (Jvm.Cond.selects "VeilSearchModel" ({ cls := "VeilSearchModel", name := "put", desc := "(II)I" } : Jvm.MethodName) ({ cls := "VeilSearchModel", name := "put", desc := "(II)I" } : Jvm.MethodName)) ∈ gT := gT_in4 103 rfl rfl
theorem w_824 : (Jvm.Cond.code ({ cls := "VeilSearchModel", name := "put", desc := "(II)I" } : Jvm.MethodName) prog_10_method_10_code (4 : Nat) (Option.some Jvm.ClassFile.FieldType.int)) ∈ gT := gT_in4 104 rfl rfl
theorem w_825 : (Jvm.Cond.methodLink "VeilSearchLaw" (101 : Nat) ({ cls := "VeilSearchModel", name := "rule", desc := "(IZ)Z" } : Jvm.MethodName)) ∈ gT := gT_in4 105 rfl rfl
theorem w_826 : (Jvm.Cond.instanceMethod ({ cls := "VeilSearchModel", name := "rule", desc := "(IZ)Z" } : Jvm.MethodName)) ∈ gT := gT_in4 106 rfl rfl
theorem w_827 : (Jvm.Cond.selects "VeilSearchModel" ({ cls := "VeilSearchModel", name := "rule", desc := "(IZ)Z" } : Jvm.MethodName) ({ cls := "VeilSearchModel", name := "rule", desc := "(IZ)Z" } : Jvm.MethodName)) ∈ gT := gT_in4 107 rfl rfl
theorem w_828 : (Jvm.Cond.code ({ cls := "VeilSearchModel", name := "rule", desc := "(IZ)Z" } : Jvm.MethodName) prog_10_method_11_code (5 : Nat) (Option.some Jvm.ClassFile.FieldType.boolean)) ∈ gT := gT_in4 108 rfl rfl
theorem w_829 : (Jvm.Cond.methodLink "VeilSearchLaw" (105 : Nat) ({ cls := "VeilSearchModel", name := "add", desc := "(I)I" } : Jvm.MethodName)) ∈ gT := gT_in4 109 rfl rfl
theorem w_830 : (Jvm.Cond.instanceMethod ({ cls := "VeilSearchModel", name := "add", desc := "(I)I" } : Jvm.MethodName)) ∈ gT := gT_in4 110 rfl rfl
theorem w_831 : (Jvm.Cond.selects "VeilSearchModel" ({ cls := "VeilSearchModel", name := "add", desc := "(I)I" } : Jvm.MethodName) ({ cls := "VeilSearchModel", name := "add", desc := "(I)I" } : Jvm.MethodName)) ∈ gT := gT_in4 111 rfl rfl
theorem w_832 : (Jvm.Cond.code ({ cls := "VeilSearchModel", name := "add", desc := "(I)I" } : Jvm.MethodName) prog_10_method_12_code (4 : Nat) (Option.some Jvm.ClassFile.FieldType.int)) ∈ gT := gT_in4 112 rfl rfl
theorem w_833 : (Jvm.Cond.methodLink "VeilSearchLaw" (109 : Nat) ({ cls := "VeilSearchModel", name := "remove", desc := "(I)V" } : Jvm.MethodName)) ∈ gT := gT_in4 113 rfl rfl
theorem w_834 : (Jvm.Cond.instanceMethod ({ cls := "VeilSearchModel", name := "remove", desc := "(I)V" } : Jvm.MethodName)) ∈ gT := gT_in4 114 rfl rfl
theorem w_835 : (Jvm.Cond.selects "VeilSearchModel" ({ cls := "VeilSearchModel", name := "remove", desc := "(I)V" } : Jvm.MethodName) ({ cls := "VeilSearchModel", name := "remove", desc := "(I)V" } : Jvm.MethodName)) ∈ gT := gT_in4 115 rfl rfl
theorem w_836 : (Jvm.Cond.code ({ cls := "VeilSearchModel", name := "remove", desc := "(I)V" } : Jvm.MethodName) prog_10_method_13_code (2 : Nat) (Option.none : Option Jvm.ClassFile.FieldType)) ∈ gT := gT_in4 116 rfl rfl
theorem w_837 : (Jvm.Cond.methodLink "VeilSearchLaw" (113 : Nat) ({ cls := "VeilSearchModel", name := "flush", desc := "()I" } : Jvm.MethodName)) ∈ gT := gT_in4 117 rfl rfl
theorem w_838 : (Jvm.Cond.instanceMethod ({ cls := "VeilSearchModel", name := "flush", desc := "()I" } : Jvm.MethodName)) ∈ gT := gT_in4 118 rfl rfl
theorem w_839 : (Jvm.Cond.selects "VeilSearchModel" ({ cls := "VeilSearchModel", name := "flush", desc := "()I" } : Jvm.MethodName) ({ cls := "VeilSearchModel", name := "flush", desc := "()I" } : Jvm.MethodName)) ∈ gT := gT_in4 119 rfl rfl
theorem w_840 : (Jvm.Cond.code ({ cls := "VeilSearchModel", name := "flush", desc := "()I" } : Jvm.MethodName) prog_10_method_15_code (3 : Nat) (Option.some Jvm.ClassFile.FieldType.int)) ∈ gT := gT_in4 120 rfl rfl
theorem w_841 : (Jvm.Cond.methodLink "VeilSearchModel" (122 : Nat) ({ cls := "VeilSearchModel", name := "sizeOf", desc := "(I)I" } : Jvm.MethodName)) ∈ gT := gT_in4 121 rfl rfl
theorem w_843 : (Jvm.Cond.instanceMethod ({ cls := "VeilSearchModel", name := "sizeOf", desc := "(I)I" } : Jvm.MethodName)) ∈ gT := gT_in4 123 rfl rfl
theorem w_844 : (Jvm.Cond.code ({ cls := "VeilSearchModel", name := "sizeOf", desc := "(I)I" } : Jvm.MethodName) prog_10_method_14_code (4 : Nat) (Option.some Jvm.ClassFile.FieldType.int)) ∈ gT := gT_in4 124 rfl rfl
theorem w_845 : (Jvm.Cond.methodLink "VeilSearchLaw" (117 : Nat) ({ cls := "VeilSearchModel", name := "merge", desc := "()I" } : Jvm.MethodName)) ∈ gT := gT_in4 125 rfl rfl
theorem w_846 : (Jvm.Cond.instanceMethod ({ cls := "VeilSearchModel", name := "merge", desc := "()I" } : Jvm.MethodName)) ∈ gT := gT_in4 126 rfl rfl
theorem w_847 : (Jvm.Cond.selects "VeilSearchModel" ({ cls := "VeilSearchModel", name := "merge", desc := "()I" } : Jvm.MethodName) ({ cls := "VeilSearchModel", name := "merge", desc := "()I" } : Jvm.MethodName)) ∈ gT := gT_in4 127 rfl rfl
theorem w_848 : (Jvm.Cond.code ({ cls := "VeilSearchModel", name := "merge", desc := "()I" } : Jvm.MethodName) prog_10_method_16_code (4 : Nat) (Option.some Jvm.ClassFile.FieldType.int)) ∈ gT := gT_in4 128 rfl rfl
theorem w_849 : (Jvm.Cond.methodLink "VeilSearchLaw" (121 : Nat) ({ cls := "VeilSearchModel", name := "refresh", desc := "()I" } : Jvm.MethodName)) ∈ gT := gT_in4 129 rfl rfl
theorem w_850 : (Jvm.Cond.instanceMethod ({ cls := "VeilSearchModel", name := "refresh", desc := "()I" } : Jvm.MethodName)) ∈ gT := gT_in4 130 rfl rfl
theorem w_851 : (Jvm.Cond.selects "VeilSearchModel" ({ cls := "VeilSearchModel", name := "refresh", desc := "()I" } : Jvm.MethodName) ({ cls := "VeilSearchModel", name := "refresh", desc := "()I" } : Jvm.MethodName)) ∈ gT := gT_in4 131 rfl rfl
theorem w_852 : (Jvm.Cond.code ({ cls := "VeilSearchModel", name := "refresh", desc := "()I" } : Jvm.MethodName) prog_10_method_20_code (5 : Nat) (Option.some Jvm.ClassFile.FieldType.int)) ∈ gT := gT_in4 132 rfl rfl
theorem w_853 : (Jvm.Cond.methodLink "VeilSearchModel" (134 : Nat) ({ cls := "VeilSearchModel", name := "isOther", desc := "()Z" } : Jvm.MethodName)) ∈ gT := gT_in4 133 rfl rfl
theorem w_855 : (Jvm.Cond.instanceMethod ({ cls := "VeilSearchModel", name := "isOther", desc := "()Z" } : Jvm.MethodName)) ∈ gT := gT_in4 135 rfl rfl
theorem w_856 : (Jvm.Cond.code ({ cls := "VeilSearchModel", name := "isOther", desc := "()Z" } : Jvm.MethodName) prog_10_method_17_code (2 : Nat) (Option.some Jvm.ClassFile.FieldType.boolean)) ∈ gT := gT_in4 136 rfl rfl
theorem w_857 : (Jvm.Cond.methodLink "VeilSearchModel" (138 : Nat) ({ cls := "VeilSearchModel", name := "isShown", desc := "(I)Z" } : Jvm.MethodName)) ∈ gT := gT_in4 137 rfl rfl
theorem w_859 : (Jvm.Cond.instanceMethod ({ cls := "VeilSearchModel", name := "isShown", desc := "(I)Z" } : Jvm.MethodName)) ∈ gT := gT_in4 139 rfl rfl
theorem w_860 : (Jvm.Cond.code ({ cls := "VeilSearchModel", name := "isShown", desc := "(I)Z" } : Jvm.MethodName) prog_10_method_18_code (3 : Nat) (Option.some Jvm.ClassFile.FieldType.boolean)) ∈ gT := gT_in4 140 rfl rfl
theorem w_861 : (Jvm.Cond.methodLink "VeilSearchModel" (142 : Nat) ({ cls := "VeilSearchModel", name := "drop", desc := "(I)V" } : Jvm.MethodName)) ∈ gT := gT_in4 141 rfl rfl
theorem w_863 : (Jvm.Cond.instanceMethod ({ cls := "VeilSearchModel", name := "drop", desc := "(I)V" } : Jvm.MethodName)) ∈ gT := gT_in4 143 rfl rfl
theorem w_864 : (Jvm.Cond.code ({ cls := "VeilSearchModel", name := "drop", desc := "(I)V" } : Jvm.MethodName) prog_10_method_19_code (3 : Nat) (Option.none : Option Jvm.ClassFile.FieldType)) ∈ gT := gT_in4 144 rfl rfl
theorem w_865 : (Jvm.Cond.methodLink "VeilSearchLaw" (125 : Nat) ({ cls := "VeilSearchModel", name := "clause", desc := "(IIID)I" } : Jvm.MethodName)) ∈ gT := gT_in4 145 rfl rfl
theorem w_866 : (Jvm.Cond.instanceMethod ({ cls := "VeilSearchModel", name := "clause", desc := "(IIID)I" } : Jvm.MethodName)) ∈ gT := gT_in4 146 rfl rfl
theorem w_867 : (Jvm.Cond.selects "VeilSearchModel" ({ cls := "VeilSearchModel", name := "clause", desc := "(IIID)I" } : Jvm.MethodName) ({ cls := "VeilSearchModel", name := "clause", desc := "(IIID)I" } : Jvm.MethodName)) ∈ gT := gT_in4 147 rfl rfl
theorem w_868 : (Jvm.Cond.code ({ cls := "VeilSearchModel", name := "clause", desc := "(IIID)I" } : Jvm.MethodName) prog_10_method_21_code (6 : Nat) (Option.some Jvm.ClassFile.FieldType.int)) ∈ gT := gT_in4 148 rfl rfl
theorem w_869 : (Jvm.Cond.methodLink "VeilSearchLaw" (129 : Nat) ({ cls := "VeilSearchModel", name := "clear", desc := "()I" } : Jvm.MethodName)) ∈ gT := gT_in4 149 rfl rfl
theorem w_870 : (Jvm.Cond.instanceMethod ({ cls := "VeilSearchModel", name := "clear", desc := "()I" } : Jvm.MethodName)) ∈ gT := gT_in4 150 rfl rfl
theorem w_871 : (Jvm.Cond.selects "VeilSearchModel" ({ cls := "VeilSearchModel", name := "clear", desc := "()I" } : Jvm.MethodName) ({ cls := "VeilSearchModel", name := "clear", desc := "()I" } : Jvm.MethodName)) ∈ gT := gT_in4 151 rfl rfl
theorem w_872 : (Jvm.Cond.code ({ cls := "VeilSearchModel", name := "clear", desc := "()I" } : Jvm.MethodName) prog_10_method_22_code (2 : Nat) (Option.some Jvm.ClassFile.FieldType.int)) ∈ gT := gT_in4 152 rfl rfl
theorem w_873 : (Jvm.Cond.methodLink "VeilSearchLaw" (132 : Nat) ({ cls := "VeilSearchModel", name := "search", desc := "(II)I" } : Jvm.MethodName)) ∈ gT := gT_in4 153 rfl rfl
theorem w_874 : (Jvm.Cond.instanceMethod ({ cls := "VeilSearchModel", name := "search", desc := "(II)I" } : Jvm.MethodName)) ∈ gT := gT_in4 154 rfl rfl
theorem w_875 : (Jvm.Cond.selects "VeilSearchModel" ({ cls := "VeilSearchModel", name := "search", desc := "(II)I" } : Jvm.MethodName) ({ cls := "VeilSearchModel", name := "search", desc := "(II)I" } : Jvm.MethodName)) ∈ gT := gT_in4 155 rfl rfl
theorem w_876 : (Jvm.Cond.code ({ cls := "VeilSearchModel", name := "search", desc := "(II)I" } : Jvm.MethodName) prog_10_method_33_code (9 : Nat) (Option.some Jvm.ClassFile.FieldType.int)) ∈ gT := gT_in4 156 rfl rfl
theorem w_877 : (Jvm.Cond.methodLink "VeilSearchModel" (189 : Nat) ({ cls := "VeilSearchModel", name := "arrange", desc := "()V" } : Jvm.MethodName)) ∈ gT := gT_in4 157 rfl rfl
theorem w_879 : (Jvm.Cond.instanceMethod ({ cls := "VeilSearchModel", name := "arrange", desc := "()V" } : Jvm.MethodName)) ∈ gT := gT_in4 159 rfl rfl
theorem w_880 : (Jvm.Cond.code ({ cls := "VeilSearchModel", name := "arrange", desc := "()V" } : Jvm.MethodName) prog_10_method_25_code (3 : Nat) (Option.none : Option Jvm.ClassFile.FieldType)) ∈ gT := gT_in4 160 rfl rfl
theorem w_881 : (Jvm.Cond.methodLink "VeilSearchModel" (192 : Nat) ({ cls := "VeilSearchModel", name := "useFilter", desc := "(II)V" } : Jvm.MethodName)) ∈ gT := gT_in4 161 rfl rfl
theorem w_883 : (Jvm.Cond.instanceMethod ({ cls := "VeilSearchModel", name := "useFilter", desc := "(II)V" } : Jvm.MethodName)) ∈ gT := gT_in4 163 rfl rfl
theorem w_884 : (Jvm.Cond.code ({ cls := "VeilSearchModel", name := "useFilter", desc := "(II)V" } : Jvm.MethodName) prog_10_method_29_code (5 : Nat) (Option.none : Option Jvm.ClassFile.FieldType)) ∈ gT := gT_in4 164 rfl rfl
theorem w_885 : (Jvm.Cond.methodLink "VeilSearchModel" (196 : Nat) ({ cls := "VeilSearchModel", name := "isLeft", desc := "(II)Z" } : Jvm.MethodName)) ∈ gT := gT_in4 165 rfl rfl
theorem w_887 : (Jvm.Cond.instanceMethod ({ cls := "VeilSearchModel", name := "isLeft", desc := "(II)Z" } : Jvm.MethodName)) ∈ gT := gT_in4 167 rfl rfl
theorem w_888 : (Jvm.Cond.code ({ cls := "VeilSearchModel", name := "isLeft", desc := "(II)Z" } : Jvm.MethodName) prog_10_method_32_code (4 : Nat) (Option.some Jvm.ClassFile.FieldType.boolean)) ∈ gT := gT_in4 168 rfl rfl
theorem w_889 : (Jvm.Cond.methodLink "VeilSearchModel" (199 : Nat) ({ cls := "VeilSearchModel", name := "behindBlock", desc := "(II)I" } : Jvm.MethodName)) ∈ gT := gT_in4 169 rfl rfl
theorem w_891 : (Jvm.Cond.instanceMethod ({ cls := "VeilSearchModel", name := "behindBlock", desc := "(II)I" } : Jvm.MethodName)) ∈ gT := gT_in4 171 rfl rfl
theorem w_892 : (Jvm.Cond.code ({ cls := "VeilSearchModel", name := "behindBlock", desc := "(II)I" } : Jvm.MethodName) prog_10_method_30_code (5 : Nat) (Option.some Jvm.ClassFile.FieldType.int)) ∈ gT := gT_in4 172 rfl rfl
theorem w_893 : (Jvm.Cond.methodLink "VeilSearchModel" (181 : Nat) ({ cls := "VeilSearchModel", name := "scoreOf", desc := "(IIII)F" } : Jvm.MethodName)) ∈ gT := gT_in4 173 rfl rfl
theorem w_895 : (Jvm.Cond.instanceMethod ({ cls := "VeilSearchModel", name := "scoreOf", desc := "(IIII)F" } : Jvm.MethodName)) ∈ gT := gT_in4 175 rfl rfl
theorem w_896 : (Jvm.Cond.code ({ cls := "VeilSearchModel", name := "scoreOf", desc := "(IIII)F" } : Jvm.MethodName) prog_10_method_27_code (12 : Nat) (Option.some Jvm.ClassFile.FieldType.float)) ∈ gT := gT_in4 176 rfl rfl
theorem w_897 : (Jvm.Cond.methodLink "VeilSearchModel" (153 : Nat) ({ cls := "VeilSearchModel", name := "isOpen", desc := "(II)Z" } : Jvm.MethodName)) ∈ gT := gT_in4 177 rfl rfl
theorem w_899 : (Jvm.Cond.instanceMethod ({ cls := "VeilSearchModel", name := "isOpen", desc := "(II)Z" } : Jvm.MethodName)) ∈ gT := gT_in4 179 rfl rfl
theorem w_900 : (Jvm.Cond.code ({ cls := "VeilSearchModel", name := "isOpen", desc := "(II)Z" } : Jvm.MethodName) prog_10_method_23_code (3 : Nat) (Option.some Jvm.ClassFile.FieldType.boolean)) ∈ gT := gT_in4 180 rfl rfl
theorem w_901 : (Jvm.Cond.methodLink "VeilSearchModel" (203 : Nat) ({ cls := "VeilSearchModel", name := "lookAt", desc := "(IIIII)V" } : Jvm.MethodName)) ∈ gT := gT_in4 181 rfl rfl
theorem w_903 : (Jvm.Cond.instanceMethod ({ cls := "VeilSearchModel", name := "lookAt", desc := "(IIIII)V" } : Jvm.MethodName)) ∈ gT := gT_in4 183 rfl rfl
theorem w_904 : (Jvm.Cond.code ({ cls := "VeilSearchModel", name := "lookAt", desc := "(IIIII)V" } : Jvm.MethodName) prog_10_method_31_code (8 : Nat) (Option.none : Option Jvm.ClassFile.FieldType)) ∈ gT := gT_in4 184 rfl rfl
theorem w_905 : (Jvm.Cond.methodLink "VeilSearchModel" (172 : Nat) ({ cls := "VeilSearchModel", name := "isFound", desc := "(II)Z" } : Jvm.MethodName)) ∈ gT := gT_in4 185 rfl rfl
theorem w_907 : (Jvm.Cond.instanceMethod ({ cls := "VeilSearchModel", name := "isFound", desc := "(II)Z" } : Jvm.MethodName)) ∈ gT := gT_in4 187 rfl rfl
theorem w_908 : (Jvm.Cond.code ({ cls := "VeilSearchModel", name := "isFound", desc := "(II)Z" } : Jvm.MethodName) prog_10_method_26_code (7 : Nat) (Option.some Jvm.ClassFile.FieldType.boolean)) ∈ gT := gT_in4 188 rfl rfl
theorem w_909 : (Jvm.Cond.methodLink "VeilSearchModel" (175 : Nat) ({ cls := "VeilSearchModel", name := "mayRead", desc := "(II)Z" } : Jvm.MethodName)) ∈ gT := gT_in4 189 rfl rfl
theorem w_911 : (Jvm.Cond.instanceMethod ({ cls := "VeilSearchModel", name := "mayRead", desc := "(II)Z" } : Jvm.MethodName)) ∈ gT := gT_in4 191 rfl rfl
theorem w_912 : (Jvm.Cond.code ({ cls := "VeilSearchModel", name := "mayRead", desc := "(II)Z" } : Jvm.MethodName) prog_10_method_24_code (7 : Nat) (Option.some Jvm.ClassFile.FieldType.boolean)) ∈ gT := gT_in4 192 rfl rfl
theorem w_913 : (Jvm.Cond.methodLink "VeilSearchModel" (149 : Nat) ({ cls := "VeilSearchModel", name := "tokens", desc := "(IZ)I" } : Jvm.MethodName)) ∈ gT := gT_in4 193 rfl rfl
theorem w_915 : (Jvm.Cond.instanceMethod ({ cls := "VeilSearchModel", name := "tokens", desc := "(IZ)I" } : Jvm.MethodName)) ∈ gT := gT_in4 195 rfl rfl
theorem w_916 : (Jvm.Cond.code ({ cls := "VeilSearchModel", name := "tokens", desc := "(IZ)I" } : Jvm.MethodName) prog_10_method_7_code (6 : Nat) (Option.some Jvm.ClassFile.FieldType.int)) ∈ gT := gT_in4 196 rfl rfl
theorem w_917 : (Jvm.Cond.methodLink "VeilSearchModel" (185 : Nat) ({ cls := "VeilSearchModel", name := "enter", desc := "(IFI)V" } : Jvm.MethodName)) ∈ gT := gT_in4 197 rfl rfl
theorem w_919 : (Jvm.Cond.instanceMethod ({ cls := "VeilSearchModel", name := "enter", desc := "(IFI)V" } : Jvm.MethodName)) ∈ gT := gT_in4 199 rfl rfl
theorem w_920 : (Jvm.Cond.code ({ cls := "VeilSearchModel", name := "enter", desc := "(IFI)V" } : Jvm.MethodName) prog_10_method_28_code (5 : Nat) (Option.none : Option Jvm.ClassFile.FieldType)) ∈ gT := gT_in4 200 rfl rfl
theorem w_921 : (Jvm.Cond.methodLink "VeilSearchLaw" (135 : Nat) ({ cls := "VeilSearchModel", name := "hit", desc := "(I)I" } : Jvm.MethodName)) ∈ gT := gT_in4 201 rfl rfl
theorem w_922 : (Jvm.Cond.instanceMethod ({ cls := "VeilSearchModel", name := "hit", desc := "(I)I" } : Jvm.MethodName)) ∈ gT := gT_in4 202 rfl rfl
theorem w_923 : (Jvm.Cond.selects "VeilSearchModel" ({ cls := "VeilSearchModel", name := "hit", desc := "(I)I" } : Jvm.MethodName) ({ cls := "VeilSearchModel", name := "hit", desc := "(I)I" } : Jvm.MethodName)) ∈ gT := gT_in4 203 rfl rfl
theorem w_924 : (Jvm.Cond.code ({ cls := "VeilSearchModel", name := "hit", desc := "(I)I" } : Jvm.MethodName) prog_10_method_34_code (2 : Nat) (Option.some Jvm.ClassFile.FieldType.int)) ∈ gT := gT_in4 204 rfl rfl
theorem w_925 : (Jvm.Cond.methodLink "VeilSearchLaw" (139 : Nat) ({ cls := "VeilSearchModel", name := "score", desc := "(I)D" } : Jvm.MethodName)) ∈ gT := gT_in4 205 rfl rfl
theorem w_926 : (Jvm.Cond.instanceMethod ({ cls := "VeilSearchModel", name := "score", desc := "(I)D" } : Jvm.MethodName)) ∈ gT := gT_in4 206 rfl rfl
theorem w_927 : (Jvm.Cond.selects "VeilSearchModel" ({ cls := "VeilSearchModel", name := "score", desc := "(I)D" } : Jvm.MethodName) ({ cls := "VeilSearchModel", name := "score", desc := "(I)D" } : Jvm.MethodName)) ∈ gT := gT_in4 207 rfl rfl
theorem w_928 : (Jvm.Cond.code ({ cls := "VeilSearchModel", name := "score", desc := "(I)D" } : Jvm.MethodName) prog_10_method_35_code (2 : Nat) (Option.some Jvm.ClassFile.FieldType.double)) ∈ gT := gT_in4 208 rfl rfl
theorem w_929 : (Jvm.Cond.methodLink "VeilSearchLaw" (142 : Nat) ({ cls := "VeilSearchModel", name := "value", desc := "(III)I" } : Jvm.MethodName)) ∈ gT := gT_in4 209 rfl rfl
theorem w_930 : (Jvm.Cond.instanceMethod ({ cls := "VeilSearchModel", name := "value", desc := "(III)I" } : Jvm.MethodName)) ∈ gT := gT_in4 210 rfl rfl
theorem w_931 : (Jvm.Cond.selects "VeilSearchModel" ({ cls := "VeilSearchModel", name := "value", desc := "(III)I" } : Jvm.MethodName) ({ cls := "VeilSearchModel", name := "value", desc := "(III)I" } : Jvm.MethodName)) ∈ gT := gT_in4 211 rfl rfl
theorem w_932 : (Jvm.Cond.code ({ cls := "VeilSearchModel", name := "value", desc := "(III)I" } : Jvm.MethodName) prog_10_method_36_code (6 : Nat) (Option.some Jvm.ClassFile.FieldType.int)) ∈ gT := gT_in4 212 rfl rfl
theorem w_933 : (Jvm.Cond.methodLink "VeilSearchLaw" (145 : Nat) ({ cls := "VeilSearchModel", name := "count", desc := "(I)I" } : Jvm.MethodName)) ∈ gT := gT_in4 213 rfl rfl
theorem w_934 : (Jvm.Cond.instanceMethod ({ cls := "VeilSearchModel", name := "count", desc := "(I)I" } : Jvm.MethodName)) ∈ gT := gT_in4 214 rfl rfl
theorem w_935 : (Jvm.Cond.selects "VeilSearchModel" ({ cls := "VeilSearchModel", name := "count", desc := "(I)I" } : Jvm.MethodName) ({ cls := "VeilSearchModel", name := "count", desc := "(I)I" } : Jvm.MethodName)) ∈ gT := gT_in4 215 rfl rfl
theorem w_936 : (Jvm.Cond.code ({ cls := "VeilSearchModel", name := "count", desc := "(I)I" } : Jvm.MethodName) prog_10_method_37_code (2 : Nat) (Option.some Jvm.ClassFile.FieldType.int)) ∈ gT := gT_in4 216 rfl rfl
theorem w_937 : (Jvm.Cond.constantDouble "VeilSearchLaw" (88 : Nat) (4593671619917905920 : UInt64)) ∈ gT := gT_in4 217 rfl rfl
theorem w_938 : (Jvm.Cond.sameMethod "java/lang/Throwable" "java/lang/Throwable" "fillInStackTrace" "(I)Ljava/lang/Throwable;") ∈ gT := gT_in4 218 rfl rfl
theorem ws_0 : Cond.selects "VeilSearch" ⟨"VeilSearch", "appendSegment", "(J)V"⟩ ⟨"VeilSearch", "appendSegment", "(J)V"⟩ ∈ gT := gS_in 0 (q := (⟨"VeilSearch", "appendSegment", "(J)V"⟩, 10)) rfl
theorem ws_1 : Cond.selects "VeilSearch$Filters" ⟨"VeilSearch$Filters", "drop", "(I)V"⟩ ⟨"VeilSearch$Filters", "drop", "(I)V"⟩ ∈ gT := gS_in 1 (q := (⟨"VeilSearch$Filters", "drop", "(I)V"⟩, 6)) rfl
theorem ws_2 : Cond.selects "java/lang/Throwable" ⟨"java/lang/Throwable", "fillInStackTrace", "(I)Ljava/lang/Throwable;"⟩ ⟨"java/lang/Throwable", "fillInStackTrace", "(I)Ljava/lang/Throwable;"⟩ ∈ gT := gS_in 2 (q := (⟨"java/lang/Throwable", "fillInStackTrace", "(I)Ljava/lang/Throwable;"⟩, 6)) rfl
theorem ws_3 : Cond.selects "VeilSearch$Query" ⟨"VeilSearch$Query", "comesLater", "(III)Z"⟩ ⟨"VeilSearch$Query", "comesLater", "(III)Z"⟩ ∈ gT := gS_in 3 (q := (⟨"VeilSearch$Query", "comesLater", "(III)Z"⟩, 7)) rfl
theorem ws_4 : Cond.selects "VeilSearch$Query" ⟨"VeilSearch$Query", "move", "(II)V"⟩ ⟨"VeilSearch$Query", "move", "(II)V"⟩ ∈ gT := gS_in 4 (q := (⟨"VeilSearch$Query", "move", "(II)V"⟩, 7)) rfl
theorem ws_5 : Cond.selects "VeilSearch" ⟨"VeilSearch", "filterOf", "(IJI)J"⟩ ⟨"VeilSearch", "filterOf", "(IJI)J"⟩ ∈ gT := gS_in 5 (q := (⟨"VeilSearch", "filterOf", "(IJI)J"⟩, 10)) rfl
theorem ws_6 : Cond.selects "VeilSearch$Filters" ⟨"VeilSearch$Filters", "append", "(IIJ)V"⟩ ⟨"VeilSearch$Filters", "append", "(IIJ)V"⟩ ∈ gT := gS_in 6 (q := (⟨"VeilSearch$Filters", "append", "(IIJ)V"⟩, 6)) rfl
theorem ws_7 : Cond.selects "VeilSearch" ⟨"VeilSearch", "passThrough", "(JJ)V"⟩ ⟨"VeilSearch", "passThrough", "(JJ)V"⟩ ∈ gT := gS_in 7 (q := (⟨"VeilSearch", "passThrough", "(JJ)V"⟩, 10)) rfl
theorem ws_8 : Cond.selects "VeilSearch" ⟨"VeilSearch", "lookAt", "(J)V"⟩ ⟨"VeilSearch", "lookAt", "(J)V"⟩ ∈ gT := gS_in 8 (q := (⟨"VeilSearch", "lookAt", "(J)V"⟩, 10)) rfl
theorem ws_9 : Cond.selects "VeilSearchModel" ⟨"VeilSearchModel", "fail", "(I)I"⟩ ⟨"VeilSearchModel", "fail", "(I)I"⟩ ∈ gT := gS_in 9 (q := (⟨"VeilSearchModel", "fail", "(I)I"⟩, 40)) rfl
theorem ws_10 : Cond.selects "VeilSearchModel" ⟨"VeilSearchModel", "sizeOf", "(I)I"⟩ ⟨"VeilSearchModel", "sizeOf", "(I)I"⟩ ∈ gT := gS_in 10 (q := (⟨"VeilSearchModel", "sizeOf", "(I)I"⟩, 40)) rfl
theorem ws_11 : Cond.selects "VeilSearchModel" ⟨"VeilSearchModel", "isOther", "()Z"⟩ ⟨"VeilSearchModel", "isOther", "()Z"⟩ ∈ gT := gS_in 11 (q := (⟨"VeilSearchModel", "isOther", "()Z"⟩, 40)) rfl
theorem ws_12 : Cond.selects "VeilSearchModel" ⟨"VeilSearchModel", "isShown", "(I)Z"⟩ ⟨"VeilSearchModel", "isShown", "(I)Z"⟩ ∈ gT := gS_in 12 (q := (⟨"VeilSearchModel", "isShown", "(I)Z"⟩, 40)) rfl
theorem ws_13 : Cond.selects "VeilSearchModel" ⟨"VeilSearchModel", "drop", "(I)V"⟩ ⟨"VeilSearchModel", "drop", "(I)V"⟩ ∈ gT := gS_in 13 (q := (⟨"VeilSearchModel", "drop", "(I)V"⟩, 40)) rfl
theorem ws_14 : Cond.selects "VeilSearchModel" ⟨"VeilSearchModel", "arrange", "()V"⟩ ⟨"VeilSearchModel", "arrange", "()V"⟩ ∈ gT := gS_in 14 (q := (⟨"VeilSearchModel", "arrange", "()V"⟩, 40)) rfl
theorem ws_15 : Cond.selects "VeilSearchModel" ⟨"VeilSearchModel", "useFilter", "(II)V"⟩ ⟨"VeilSearchModel", "useFilter", "(II)V"⟩ ∈ gT := gS_in 15 (q := (⟨"VeilSearchModel", "useFilter", "(II)V"⟩, 40)) rfl
theorem ws_16 : Cond.selects "VeilSearchModel" ⟨"VeilSearchModel", "isLeft", "(II)Z"⟩ ⟨"VeilSearchModel", "isLeft", "(II)Z"⟩ ∈ gT := gS_in 16 (q := (⟨"VeilSearchModel", "isLeft", "(II)Z"⟩, 40)) rfl
theorem ws_17 : Cond.selects "VeilSearchModel" ⟨"VeilSearchModel", "behindBlock", "(II)I"⟩ ⟨"VeilSearchModel", "behindBlock", "(II)I"⟩ ∈ gT := gS_in 17 (q := (⟨"VeilSearchModel", "behindBlock", "(II)I"⟩, 40)) rfl
theorem ws_18 : Cond.selects "VeilSearchModel" ⟨"VeilSearchModel", "scoreOf", "(IIII)F"⟩ ⟨"VeilSearchModel", "scoreOf", "(IIII)F"⟩ ∈ gT := gS_in 18 (q := (⟨"VeilSearchModel", "scoreOf", "(IIII)F"⟩, 40)) rfl
theorem ws_19 : Cond.selects "VeilSearchModel" ⟨"VeilSearchModel", "isOpen", "(II)Z"⟩ ⟨"VeilSearchModel", "isOpen", "(II)Z"⟩ ∈ gT := gS_in 19 (q := (⟨"VeilSearchModel", "isOpen", "(II)Z"⟩, 40)) rfl
theorem ws_20 : Cond.selects "VeilSearchModel" ⟨"VeilSearchModel", "lookAt", "(IIIII)V"⟩ ⟨"VeilSearchModel", "lookAt", "(IIIII)V"⟩ ∈ gT := gS_in 20 (q := (⟨"VeilSearchModel", "lookAt", "(IIIII)V"⟩, 40)) rfl
theorem ws_21 : Cond.selects "VeilSearchModel" ⟨"VeilSearchModel", "isFound", "(II)Z"⟩ ⟨"VeilSearchModel", "isFound", "(II)Z"⟩ ∈ gT := gS_in 21 (q := (⟨"VeilSearchModel", "isFound", "(II)Z"⟩, 40)) rfl
theorem ws_22 : Cond.selects "VeilSearchModel" ⟨"VeilSearchModel", "mayRead", "(II)Z"⟩ ⟨"VeilSearchModel", "mayRead", "(II)Z"⟩ ∈ gT := gS_in 22 (q := (⟨"VeilSearchModel", "mayRead", "(II)Z"⟩, 40)) rfl
theorem ws_23 : Cond.selects "VeilSearchModel" ⟨"VeilSearchModel", "tokens", "(IZ)I"⟩ ⟨"VeilSearchModel", "tokens", "(IZ)I"⟩ ∈ gT := gS_in 23 (q := (⟨"VeilSearchModel", "tokens", "(IZ)I"⟩, 40)) rfl
theorem ws_24 : Cond.selects "VeilSearchModel" ⟨"VeilSearchModel", "enter", "(IFI)V"⟩ ⟨"VeilSearchModel", "enter", "(IFI)V"⟩ ∈ gT := gS_in 24 (q := (⟨"VeilSearchModel", "enter", "(IFI)V"⟩, 40)) rfl
end
section
def RD : String := "VeilSearch$Documents"
def TD : u_T := fun k => match k with
  | 0 => ("VeilSearch$Documents", "codes", "[I", true)
  | 1 => ("VeilSearch$Documents", "values", "[I", true)
  | 2 => ("VeilSearch$Documents", "allowed", "[I", true)
  | 3 => ("VeilSearch$Documents", "denied", "[I", true)
  | _ => ("VeilSearch$Documents", "ids", "I", false)
def tyD : Nat → FieldType := fun k => match k with
  | 0 => .array .int
  | 1 => .array .int
  | 2 => .array .int
  | 3 => .array .int
  | _ => .int
set_option maxRecDepth 20000 in
theorem nmD : ∀ a, a < 5 → ∀ b, b < 5 → a ≠ b → (TD a).2.1 ≠ (TD b).2.1 := by decide +kernel
theorem tyD_ok : ∀ k, k < 5 → parseFieldDescriptor (TD k).2.2.1 = some (tyD k) := by decide +kernel
theorem inD : ∀ w ∈ u_ws RD TD 5, w ∈ gT := List.forall_mem_cons.mpr ⟨w_46, List.forall_mem_cons.mpr ⟨w_48, List.forall_mem_cons.mpr ⟨w_50, List.forall_mem_cons.mpr ⟨w_52, List.forall_mem_cons.mpr ⟨w_54, fun _ h => absurd h List.not_mem_nil⟩⟩⟩⟩⟩
def RF : String := "VeilSearch$Filters"
def TF : u_T := fun k => match k with
  | 0 => ("VeilSearch$Filters", "segments", "[I", true)
  | 1 => ("VeilSearch$Filters", "users", "[I", true)
  | 2 => ("VeilSearch$Filters", "readable", "[J", true)
  | 3 => ("VeilSearch$Filters", "kept", "I", false)
  | 4 => ("VeilSearch$Filters", "made", "I", false)
  | _ => ("VeilSearch$Filters", "reused", "I", false)
def tyF : Nat → FieldType := fun k => match k with
  | 0 => .array .int
  | 1 => .array .int
  | 2 => .array .long
  | 3 => .int
  | 4 => .int
  | _ => .int
set_option maxRecDepth 20000 in
theorem nmF : ∀ a, a < 6 → ∀ b, b < 6 → a ≠ b → (TF a).2.1 ≠ (TF b).2.1 := by decide +kernel
theorem tyF_ok : ∀ k, k < 6 → parseFieldDescriptor (TF k).2.2.1 = some (tyF k) := by decide +kernel
theorem inF : ∀ w ∈ u_ws RF TF 6, w ∈ gT := List.forall_mem_cons.mpr ⟨w_73, List.forall_mem_cons.mpr ⟨w_75, List.forall_mem_cons.mpr ⟨w_77, List.forall_mem_cons.mpr ⟨w_79, List.forall_mem_cons.mpr ⟨w_81, List.forall_mem_cons.mpr ⟨w_83, fun _ h => absurd h List.not_mem_nil⟩⟩⟩⟩⟩⟩
def RH : String := "VeilSearch$Hits"
def TH : u_T := fun k => match k with
  | 0 => ("VeilSearch$Hits", "ids", "[I", true)
  | 1 => ("VeilSearch$Hits", "scores", "[F", true)
  | 2 => ("VeilSearch$Hits", "size", "I", false)
  | _ => ("VeilSearch$Hits", "most", "I", false)
def tyH : Nat → FieldType := fun k => match k with
  | 0 => .array .int
  | 1 => .array .float
  | 2 => .int
  | _ => .int
set_option maxRecDepth 20000 in
theorem nmH : ∀ a, a < 4 → ∀ b, b < 4 → a ≠ b → (TH a).2.1 ≠ (TH b).2.1 := by decide +kernel
theorem tyH_ok : ∀ k, k < 4 → parseFieldDescriptor (TH k).2.2.1 = some (tyH k) := by decide +kernel
theorem inH : ∀ w ∈ u_ws RH TH 4, w ∈ gT := List.forall_mem_cons.mpr ⟨w_132, List.forall_mem_cons.mpr ⟨w_134, List.forall_mem_cons.mpr ⟨w_136, List.forall_mem_cons.mpr ⟨w_138, fun _ h => absurd h List.not_mem_nil⟩⟩⟩⟩
def RQ : String := "VeilSearch$Query"
def TQ : u_T := fun k => match k with
  | 0 => ("VeilSearch$Query", "sorts", "[I", true)
  | 1 => ("VeilSearch$Query", "terms", "[I", true)
  | 2 => ("VeilSearch$Query", "fields", "[I", true)
  | 3 => ("VeilSearch$Query", "weights", "[F", true)
  | 4 => ("VeilSearch$Query", "open", "[Z", true)
  | 5 => ("VeilSearch$Query", "veiledMust", "Z", false)
  | _ => ("VeilSearch$Query", "size", "I", false)
def tyQ : Nat → FieldType := fun k => match k with
  | 0 => .array .int
  | 1 => .array .int
  | 2 => .array .int
  | 3 => .array .float
  | 4 => .array .boolean
  | 5 => .boolean
  | _ => .int
set_option maxRecDepth 20000 in
theorem nmQ : ∀ a, a < 7 → ∀ b, b < 7 → a ≠ b → (TQ a).2.1 ≠ (TQ b).2.1 := by decide +kernel
theorem tyQ_ok : ∀ k, k < 7 → parseFieldDescriptor (TQ k).2.2.1 = some (tyQ k) := by decide +kernel
theorem inQ : ∀ w ∈ u_ws RQ TQ 7, w ∈ gT := List.forall_mem_cons.mpr ⟨w_101, List.forall_mem_cons.mpr ⟨w_103, List.forall_mem_cons.mpr ⟨w_105, List.forall_mem_cons.mpr ⟨w_107, List.forall_mem_cons.mpr ⟨w_109, List.forall_mem_cons.mpr ⟨w_111, List.forall_mem_cons.mpr ⟨w_113, fun _ h => absurd h List.not_mem_nil⟩⟩⟩⟩⟩⟩⟩
def RR : String := "VeilSearch$Rights"
def TR : u_T := fun k => match k with
  | 0 => ("VeilSearch$Rights", "groupsOf", "[I", true)
  | 1 => ("VeilSearch$Rights", "levels", "[I", true)
  | _ => ("VeilSearch$Rights", "clearances", "[I", true)
def tyR : Nat → FieldType := fun k => match k with
  | 0 => .array .int
  | 1 => .array .int
  | _ => .array .int
set_option maxRecDepth 20000 in
theorem nmR : ∀ a, a < 3 → ∀ b, b < 3 → a ≠ b → (TR a).2.1 ≠ (TR b).2.1 := by decide +kernel
theorem tyR_ok : ∀ k, k < 3 → parseFieldDescriptor (TR k).2.2.1 = some (tyR k) := by decide +kernel
theorem inR : ∀ w ∈ u_ws RR TR 3, w ∈ gT := List.forall_mem_cons.mpr ⟨w_158, List.forall_mem_cons.mpr ⟨w_160, List.forall_mem_cons.mpr ⟨w_162, fun _ h => absurd h List.not_mem_nil⟩⟩⟩
def RS : String := "VeilSearch$Segments"
def TS : u_T := fun k => match k with
  | 0 => ("VeilSearch$Segments", "numbers", "[I", true)
  | 1 => ("VeilSearch$Segments", "ids", "[J", true)
  | _ => ("VeilSearch$Segments", "size", "I", false)
def tyS : Nat → FieldType := fun k => match k with
  | 0 => .array .int
  | 1 => .array .long
  | _ => .int
set_option maxRecDepth 20000 in
theorem nmS : ∀ a, a < 3 → ∀ b, b < 3 → a ≠ b → (TS a).2.1 ≠ (TS b).2.1 := by decide +kernel
theorem tyS_ok : ∀ k, k < 3 → parseFieldDescriptor (TS k).2.2.1 = some (tyS k) := by decide +kernel
theorem inS : ∀ w ∈ u_ws RS TS 3, w ∈ gT := List.forall_mem_cons.mpr ⟨w_177, List.forall_mem_cons.mpr ⟨w_179, List.forall_mem_cons.mpr ⟨w_181, fun _ h => absurd h List.not_mem_nil⟩⟩⟩
def RV : String := "VeilSearch$View"
def TV : u_T := fun k => match k with
  | 0 => ("VeilSearch$View", "rights", "LVeilSearch$Rights;", true)
  | 1 => ("VeilSearch$View", "segments", "LVeilSearch$Segments;", true)
  | _ => ("VeilSearch$View", "removed", "J", false)
def tyV : Nat → FieldType := fun k => match k with
  | 0 => .object "VeilSearch$Rights"
  | 1 => .object "VeilSearch$Segments"
  | _ => .long
set_option maxRecDepth 20000 in
theorem nmV : ∀ a, a < 3 → ∀ b, b < 3 → a ≠ b → (TV a).2.1 ≠ (TV b).2.1 := by decide +kernel
theorem tyV_ok : ∀ k, k < 3 → parseFieldDescriptor (TV k).2.2.1 = some (tyV k) := by decide +kernel
theorem inV : ∀ w ∈ u_ws RV TV 3, w ∈ gT := List.forall_mem_cons.mpr ⟨w_190, List.forall_mem_cons.mpr ⟨w_192, List.forall_mem_cons.mpr ⟨w_194, fun _ h => absurd h List.not_mem_nil⟩⟩⟩
def RX : String := "VeilSearch"
def TX : u_T := fun k => match k with
  | 0 => ("VeilSearch", "documents", "LVeilSearch$Documents;", true)
  | 1 => ("VeilSearch", "filters", "LVeilSearch$Filters;", true)
  | 2 => ("VeilSearch", "query", "LVeilSearch$Query;", true)
  | 3 => ("VeilSearch", "hits", "LVeilSearch$Hits;", true)
  | 4 => ("VeilSearch", "now", "LVeilSearch$View;", true)
  | 5 => ("VeilSearch", "seen", "LVeilSearch$View;", true)
  | 6 => ("VeilSearch", "buffer", "J", false)
  | 7 => ("VeilSearch", "segmentsMade", "I", false)
  | 8 => ("VeilSearch", "blocksLooked", "I", false)
  | _ => ("VeilSearch", "documentsFound", "I", false)
def tyX : Nat → FieldType := fun k => match k with
  | 0 => .object "VeilSearch$Documents"
  | 1 => .object "VeilSearch$Filters"
  | 2 => .object "VeilSearch$Query"
  | 3 => .object "VeilSearch$Hits"
  | 4 => .object "VeilSearch$View"
  | 5 => .object "VeilSearch$View"
  | 6 => .long
  | 7 => .int
  | 8 => .int
  | _ => .int
set_option maxRecDepth 20000 in
theorem nmX : ∀ a, a < 10 → ∀ b, b < 10 → a ≠ b → (TX a).2.1 ≠ (TX b).2.1 := by decide +kernel
theorem tyX_ok : ∀ k, k < 10 → parseFieldDescriptor (TX k).2.2.1 = some (tyX k) := by decide +kernel
theorem inX : ∀ w ∈ u_ws RX TX 10, w ∈ gT := List.forall_mem_cons.mpr ⟨w_207, List.forall_mem_cons.mpr ⟨w_209, List.forall_mem_cons.mpr ⟨w_211, List.forall_mem_cons.mpr ⟨w_213, List.forall_mem_cons.mpr ⟨w_215, List.forall_mem_cons.mpr ⟨w_217, List.forall_mem_cons.mpr ⟨w_219, List.forall_mem_cons.mpr ⟨w_221, List.forall_mem_cons.mpr ⟨w_223, List.forall_mem_cons.mpr ⟨w_225, fun _ h => absurd h List.not_mem_nil⟩⟩⟩⟩⟩⟩⟩⟩⟩⟩
def RM : String := "VeilSearchModel"
def TM : u_T := fun k => match k with
  | 0 => ("VeilSearchModel", "members", "[I", true)
  | 1 => ("VeilSearchModel", "levels", "[I", true)
  | 2 => ("VeilSearchModel", "clearances", "[I", true)
  | 3 => ("VeilSearchModel", "oldMembers", "[I", true)
  | 4 => ("VeilSearchModel", "oldLevels", "[I", true)
  | 5 => ("VeilSearchModel", "oldClearances", "[I", true)
  | 6 => ("VeilSearchModel", "value", "[I", true)
  | 7 => ("VeilSearchModel", "code", "[I", true)
  | 8 => ("VeilSearchModel", "allows", "[I", true)
  | 9 => ("VeilSearchModel", "denies", "[I", true)
  | 10 => ("VeilSearchModel", "parent", "[I", true)
  | 11 => ("VeilSearchModel", "segment", "[I", true)
  | 12 => ("VeilSearchModel", "seen", "[I", true)
  | 13 => ("VeilSearchModel", "removed", "[Z", true)
  | 14 => ("VeilSearchModel", "seenRemoved", "[Z", true)
  | 15 => ("VeilSearchModel", "segments", "[I", true)
  | 16 => ("VeilSearchModel", "shown", "[I", true)
  | 17 => ("VeilSearchModel", "sort", "[I", true)
  | 18 => ("VeilSearchModel", "term", "[I", true)
  | 19 => ("VeilSearchModel", "field", "[I", true)
  | 20 => ("VeilSearchModel", "order", "[I", true)
  | 21 => ("VeilSearchModel", "hits", "[I", true)
  | 22 => ("VeilSearchModel", "weight", "[D", true)
  | 23 => ("VeilSearchModel", "scores", "[F", true)
  | 24 => ("VeilSearchModel", "filterOf", "[I", true)
  | 25 => ("VeilSearchModel", "filterFor", "[I", true)
  | 26 => ("VeilSearchModel", "filterAt", "[I", true)
  | 27 => ("VeilSearchModel", "ids", "I", false)
  | 28 => ("VeilSearchModel", "segmentMany", "I", false)
  | 29 => ("VeilSearchModel", "shownMany", "I", false)
  | 30 => ("VeilSearchModel", "serial", "I", false)
  | 31 => ("VeilSearchModel", "clauses", "I", false)
  | 32 => ("VeilSearchModel", "found", "I", false)
  | 33 => ("VeilSearchModel", "looked", "I", false)
  | 34 => ("VeilSearchModel", "matched", "I", false)
  | 35 => ("VeilSearchModel", "filters", "I", false)
  | 36 => ("VeilSearchModel", "made", "I", false)
  | 37 => ("VeilSearchModel", "reused", "I", false)
  | 38 => ("VeilSearchModel", "clock", "I", false)
  | _ => ("VeilSearchModel", "thrown", "I", false)
def tyM : Nat → FieldType := fun k => match k with
  | 0 => .array .int
  | 1 => .array .int
  | 2 => .array .int
  | 3 => .array .int
  | 4 => .array .int
  | 5 => .array .int
  | 6 => .array .int
  | 7 => .array .int
  | 8 => .array .int
  | 9 => .array .int
  | 10 => .array .int
  | 11 => .array .int
  | 12 => .array .int
  | 13 => .array .boolean
  | 14 => .array .boolean
  | 15 => .array .int
  | 16 => .array .int
  | 17 => .array .int
  | 18 => .array .int
  | 19 => .array .int
  | 20 => .array .int
  | 21 => .array .int
  | 22 => .array .double
  | 23 => .array .float
  | 24 => .array .int
  | 25 => .array .int
  | 26 => .array .int
  | 27 => .int
  | 28 => .int
  | 29 => .int
  | 30 => .int
  | 31 => .int
  | 32 => .int
  | 33 => .int
  | 34 => .int
  | 35 => .int
  | 36 => .int
  | 37 => .int
  | 38 => .int
  | _ => .int
set_option maxRecDepth 20000 in
theorem nmM : ∀ a, a < 40 → ∀ b, b < 40 → a ≠ b → (TM a).2.1 ≠ (TM b).2.1 := by decide +kernel
theorem tyM_ok : ∀ k, k < 40 → parseFieldDescriptor (TM k).2.2.1 = some (tyM k) := by decide +kernel
theorem inM : ∀ w ∈ u_ws RM TM 40, w ∈ gT := List.forall_mem_cons.mpr ⟨w_709, List.forall_mem_cons.mpr ⟨w_711, List.forall_mem_cons.mpr ⟨w_713, List.forall_mem_cons.mpr ⟨w_715, List.forall_mem_cons.mpr ⟨w_717, List.forall_mem_cons.mpr ⟨w_719, List.forall_mem_cons.mpr ⟨w_721, List.forall_mem_cons.mpr ⟨w_723, List.forall_mem_cons.mpr ⟨w_725, List.forall_mem_cons.mpr ⟨w_727, List.forall_mem_cons.mpr ⟨w_729, List.forall_mem_cons.mpr ⟨w_731, List.forall_mem_cons.mpr ⟨w_733, List.forall_mem_cons.mpr ⟨w_735, List.forall_mem_cons.mpr ⟨w_737, List.forall_mem_cons.mpr ⟨w_739, List.forall_mem_cons.mpr ⟨w_741, List.forall_mem_cons.mpr ⟨w_743, List.forall_mem_cons.mpr ⟨w_745, List.forall_mem_cons.mpr ⟨w_747, List.forall_mem_cons.mpr ⟨w_749, List.forall_mem_cons.mpr ⟨w_751, List.forall_mem_cons.mpr ⟨w_753, List.forall_mem_cons.mpr ⟨w_755, List.forall_mem_cons.mpr ⟨w_757, List.forall_mem_cons.mpr ⟨w_759, List.forall_mem_cons.mpr ⟨w_761, List.forall_mem_cons.mpr ⟨w_763, List.forall_mem_cons.mpr ⟨w_765, List.forall_mem_cons.mpr ⟨w_767, List.forall_mem_cons.mpr ⟨w_769, List.forall_mem_cons.mpr ⟨w_771, List.forall_mem_cons.mpr ⟨w_773, List.forall_mem_cons.mpr ⟨w_775, List.forall_mem_cons.mpr ⟨w_777, List.forall_mem_cons.mpr ⟨w_779, List.forall_mem_cons.mpr ⟨w_781, List.forall_mem_cons.mpr ⟨w_783, List.forall_mem_cons.mpr ⟨w_785, List.forall_mem_cons.mpr ⟨w_787, fun _ h => absurd h List.not_mem_nil⟩⟩⟩⟩⟩⟩⟩⟩⟩⟩⟩⟩⟩⟩⟩⟩⟩⟩⟩⟩⟩⟩⟩⟩⟩⟩⟩⟩⟩⟩⟩⟩⟩⟩⟩⟩⟩⟩⟩⟩
abbrev vwCl : List vw_C := [(RD, TD, 5), (RF, TF, 6), (RH, TH, 4), (RQ, TQ, 7), (RR, TR, 3), (RS, TS, 3), (RV, TV, 3), (RX, TX, 10), (RM, TM, 40)]
def RL : String := "VeilSearchLaw"
def RJ : String := "java/lang/Long"
abbrev c_X_init : ByteArray := prog_1_method_1_code
abbrev y_X_init : MethodName := { cls := "VeilSearch", name := "<init>", desc := "()V" }
abbrev c_D_init : ByteArray := prog_2_method_1_code
abbrev y_D_init : MethodName := { cls := "VeilSearch$Documents", name := "<init>", desc := "()V" }
abbrev c_F_init : ByteArray := prog_3_method_1_code
abbrev y_F_init : MethodName := { cls := "VeilSearch$Filters", name := "<init>", desc := "()V" }
abbrev c_Q_init : ByteArray := prog_5_method_1_code
abbrev y_Q_init : MethodName := { cls := "VeilSearch$Query", name := "<init>", desc := "()V" }
abbrev c_H_init : ByteArray := prog_4_method_1_code
abbrev y_H_init : MethodName := { cls := "VeilSearch$Hits", name := "<init>", desc := "()V" }
abbrev c_V_init : ByteArray := prog_8_method_1_code
abbrev y_V_init : MethodName := { cls := "VeilSearch$View", name := "<init>", desc := "()V" }
abbrev c_R_init : ByteArray := prog_6_method_1_code
abbrev y_R_init : MethodName := { cls := "VeilSearch$Rights", name := "<init>", desc := "()V" }
abbrev c_S_init : ByteArray := prog_7_method_1_code
abbrev y_S_init : MethodName := { cls := "VeilSearch$Segments", name := "<init>", desc := "()V" }
abbrev c_X_merge : ByteArray := prog_1_method_10_code
abbrev y_X_merge : MethodName := { cls := "VeilSearch", name := "merge", desc := "()I" }
abbrev c_S_allIds : ByteArray := prog_7_method_3_code
abbrev y_S_allIds : MethodName := { cls := "VeilSearch$Segments", name := "allIds", desc := "()J" }
abbrev c_X_appendSegment : ByteArray := prog_1_method_24_code
abbrev y_X_appendSegment : MethodName := { cls := "VeilSearch", name := "appendSegment", desc := "(J)V" }
abbrev c_S_append : ByteArray := prog_7_method_2_code
abbrev y_S_append : MethodName := { cls := "VeilSearch$Segments", name := "append", desc := "(IJ)V" }
abbrev c_J_bitCount : ByteArray := prog_15_method_50_code
abbrev y_J_bitCount : MethodName := { cls := "java/lang/Long", name := "bitCount", desc := "(J)I" }
abbrev c_X_refresh : ByteArray := prog_1_method_11_code
abbrev y_X_refresh : MethodName := { cls := "VeilSearch", name := "refresh", desc := "()I" }
abbrev c_R_sameAs : ByteArray := prog_6_method_5_code
abbrev y_R_sameAs : MethodName := { cls := "VeilSearch$Rights", name := "sameAs", desc := "(LVeilSearch$Rights;)Z" }
abbrev c_R_sameRow : ByteArray := prog_6_method_6_code
abbrev y_R_sameRow : MethodName := { cls := "VeilSearch$Rights", name := "sameRow", desc := "([I[I)Z" }
abbrev c_V_takeOver : ByteArray := prog_8_method_3_code
abbrev y_V_takeOver : MethodName := { cls := "VeilSearch$View", name := "takeOver", desc := "(LVeilSearch$View;)V" }
abbrev c_R_takeOver : ByteArray := prog_6_method_7_code
abbrev y_R_takeOver : MethodName := { cls := "VeilSearch$Rights", name := "takeOver", desc := "(LVeilSearch$Rights;)V" }
abbrev c_S_takeOver : ByteArray := prog_7_method_5_code
abbrev y_S_takeOver : MethodName := { cls := "VeilSearch$Segments", name := "takeOver", desc := "(LVeilSearch$Segments;)V" }
abbrev c_F_dropAllBut : ByteArray := prog_3_method_5_code
abbrev y_F_dropAllBut : MethodName := { cls := "VeilSearch$Filters", name := "dropAllBut", desc := "(LVeilSearch$Segments;)V" }
abbrev c_S_hasNumber : ByteArray := prog_7_method_4_code
abbrev y_S_hasNumber : MethodName := { cls := "VeilSearch$Segments", name := "hasNumber", desc := "(I)Z" }
abbrev c_F_drop : ByteArray := prog_3_method_7_code
abbrev y_F_drop : MethodName := { cls := "VeilSearch$Filters", name := "drop", desc := "(I)V" }
abbrev c_V_livingIds : ByteArray := prog_8_method_2_code
abbrev y_V_livingIds : MethodName := { cls := "VeilSearch$View", name := "livingIds", desc := "()J" }
abbrev c_X_clear : ByteArray := prog_1_method_13_code
abbrev y_X_clear : MethodName := { cls := "VeilSearch", name := "clear", desc := "()I" }
abbrev c_L_member : ByteArray := method_3_code
abbrev y_L_member : MethodName := { cls := "VeilSearchLaw", name := "member", desc := "(LVeilSearch;IIZ[J)I" }
abbrev c_X_member : ByteArray := prog_1_method_2_code
abbrev y_X_member : MethodName := { cls := "VeilSearch", name := "member", desc := "(IIZ)Z" }
abbrev c_X_isBelow : ByteArray := prog_1_method_19_code
abbrev y_X_isBelow : MethodName := { cls := "VeilSearch", name := "isBelow", desc := "(II)Z" }
abbrev c_R_join : ByteArray := prog_6_method_2_code
abbrev y_R_join : MethodName := { cls := "VeilSearch$Rights", name := "join", desc := "(IIZ)Z" }
abbrev c_L_level : ByteArray := method_4_code
abbrev y_L_level : MethodName := { cls := "VeilSearchLaw", name := "level", desc := "(LVeilSearch;III[J)I" }
abbrev c_X_level : ByteArray := prog_1_method_3_code
abbrev y_X_level : MethodName := { cls := "VeilSearch", name := "level", desc := "(III)I" }
abbrev c_L_weigh : ByteArray := method_5_code
abbrev y_L_weigh : MethodName := { cls := "VeilSearchLaw", name := "weigh", desc := "(LVeilSearch;IID[J)I" }
abbrev c_X_weigh : ByteArray := prog_1_method_4_code
abbrev y_X_weigh : MethodName := { cls := "VeilSearch", name := "weigh", desc := "(IID)I" }
abbrev c_X_isWeight : ByteArray := prog_1_method_20_code
abbrev y_X_isWeight : MethodName := { cls := "VeilSearch", name := "isWeight", desc := "(D)Z" }
abbrev c_X_codeOf : ByteArray := prog_1_method_21_code
abbrev y_X_codeOf : MethodName := { cls := "VeilSearch", name := "codeOf", desc := "(D)I" }
abbrev c_D_codePlace : ByteArray := prog_2_method_3_code
abbrev y_D_codePlace : MethodName := { cls := "VeilSearch$Documents", name := "codePlace", desc := "(III)I" }
abbrev c_D_valuePlace : ByteArray := prog_2_method_2_code
abbrev y_D_valuePlace : MethodName := { cls := "VeilSearch$Documents", name := "valuePlace", desc := "(II)I" }
abbrev c_L_put : ByteArray := method_6_code
abbrev y_L_put : MethodName := { cls := "VeilSearchLaw", name := "put", desc := "(LVeilSearch;II[J)I" }
abbrev c_X_put : ByteArray := prog_1_method_5_code
abbrev y_X_put : MethodName := { cls := "VeilSearch", name := "put", desc := "(II)I" }
abbrev c_L_rule : ByteArray := method_7_code
abbrev y_L_rule : MethodName := { cls := "VeilSearchLaw", name := "rule", desc := "(LVeilSearch;IZ[J)I" }
abbrev c_X_rule : ByteArray := prog_1_method_6_code
abbrev y_X_rule : MethodName := { cls := "VeilSearch", name := "rule", desc := "(IZ)Z" }
abbrev c_L_add : ByteArray := method_8_code
abbrev y_L_add : MethodName := { cls := "VeilSearchLaw", name := "add", desc := "(LVeilSearch;I[J)I" }
abbrev c_X_add : ByteArray := prog_1_method_7_code
abbrev y_X_add : MethodName := { cls := "VeilSearch", name := "add", desc := "(I)I" }
abbrev c_D_finishDraft : ByteArray := prog_2_method_4_code
abbrev y_D_finishDraft : MethodName := { cls := "VeilSearch$Documents", name := "finishDraft", desc := "(I)I" }
abbrev c_L_remove : ByteArray := method_9_code
abbrev y_L_remove : MethodName := { cls := "VeilSearchLaw", name := "remove", desc := "(LVeilSearch;I)I" }
abbrev c_X_remove : ByteArray := prog_1_method_8_code
abbrev y_X_remove : MethodName := { cls := "VeilSearch", name := "remove", desc := "(I)V" }
abbrev c_X_holds : ByteArray := prog_1_method_22_code
abbrev y_X_holds : MethodName := { cls := "VeilSearch", name := "holds", desc := "(JI)Z" }
abbrev c_L_flush : ByteArray := method_10_code
abbrev y_L_flush : MethodName := { cls := "VeilSearchLaw", name := "flush", desc := "(LVeilSearch;[J)I" }
abbrev c_X_flush : ByteArray := prog_1_method_9_code
abbrev y_X_flush : MethodName := { cls := "VeilSearch", name := "flush", desc := "()I" }
abbrev c_L_clause : ByteArray := method_11_code
abbrev y_L_clause : MethodName := { cls := "VeilSearchLaw", name := "clause", desc := "(LVeilSearch;IIID[J)I" }
abbrev c_X_clause : ByteArray := prog_1_method_12_code
abbrev y_X_clause : MethodName := { cls := "VeilSearch", name := "clause", desc := "(IIID)I" }
abbrev c_Q_insert : ByteArray := prog_5_method_2_code
abbrev y_Q_insert : MethodName := { cls := "VeilSearch$Query", name := "insert", desc := "(IIIF)V" }
abbrev c_Q_comesLater : ByteArray := prog_5_method_3_code
abbrev y_Q_comesLater : MethodName := { cls := "VeilSearch$Query", name := "comesLater", desc := "(III)Z" }
abbrev c_Q_move : ByteArray := prog_5_method_4_code
abbrev y_Q_move : MethodName := { cls := "VeilSearch$Query", name := "move", desc := "(II)V" }
abbrev c_L_search : ByteArray := method_12_code
abbrev y_L_search : MethodName := { cls := "VeilSearchLaw", name := "search", desc := "(LVeilSearch;II[J)I" }
abbrev c_X_search : ByteArray := prog_1_method_14_code
abbrev y_X_search : MethodName := { cls := "VeilSearch", name := "search", desc := "(II)I" }
abbrev c_H_restart : ByteArray := prog_4_method_2_code
abbrev y_H_restart : MethodName := { cls := "VeilSearch$Hits", name := "restart", desc := "(I)V" }
abbrev c_Q_openFor : ByteArray := prog_5_method_5_code
abbrev y_Q_openFor : MethodName := { cls := "VeilSearch$Query", name := "openFor", desc := "(ILVeilSearch$Rights;)V" }
abbrev c_R_isOpen : ByteArray := prog_6_method_4_code
abbrev y_R_isOpen : MethodName := { cls := "VeilSearch$Rights", name := "isOpen", desc := "(II)Z" }
abbrev c_X_filterOf : ByteArray := prog_1_method_25_code
abbrev y_X_filterOf : MethodName := { cls := "VeilSearch", name := "filterOf", desc := "(IJI)J" }
abbrev c_F_placeOf : ByteArray := prog_3_method_2_code
abbrev y_F_placeOf : MethodName := { cls := "VeilSearch$Filters", name := "placeOf", desc := "(II)I" }
abbrev c_F_reuse : ByteArray := prog_3_method_3_code
abbrev y_F_reuse : MethodName := { cls := "VeilSearch$Filters", name := "reuse", desc := "(I)J" }
abbrev c_F_append : ByteArray := prog_3_method_6_code
abbrev y_F_append : MethodName := { cls := "VeilSearch$Filters", name := "append", desc := "(IIJ)V" }
abbrev c_R_tokensOf : ByteArray := prog_6_method_3_code
abbrev y_R_tokensOf : MethodName := { cls := "VeilSearch$Rights", name := "tokensOf", desc := "(I)I" }
abbrev c_D_readableOf : ByteArray := prog_2_method_6_code
abbrev y_D_readableOf : MethodName := { cls := "VeilSearch$Documents", name := "readableOf", desc := "(JI)J" }
abbrev c_D_mayRead : ByteArray := prog_2_method_5_code
abbrev y_D_mayRead : MethodName := { cls := "VeilSearch$Documents", name := "mayRead", desc := "(II)Z" }
abbrev c_F_keepNew : ByteArray := prog_3_method_4_code
abbrev y_F_keepNew : MethodName := { cls := "VeilSearch$Filters", name := "keepNew", desc := "(IIJ)V" }
abbrev c_X_passThrough : ByteArray := prog_1_method_26_code
abbrev y_X_passThrough : MethodName := { cls := "VeilSearch", name := "passThrough", desc := "(JJ)V" }
abbrev c_X_firstBlock : ByteArray := prog_1_method_27_code
abbrev y_X_firstBlock : MethodName := { cls := "VeilSearch", name := "firstBlock", desc := "(J)J" }
abbrev c_Q_scoreOf : ByteArray := prog_5_method_7_code
abbrev y_Q_scoreOf : MethodName := { cls := "VeilSearch$Query", name := "scoreOf", desc := "(JLVeilSearch$Documents;)F" }
abbrev c_D_greatestCode : ByteArray := prog_2_method_7_code
abbrev y_D_greatestCode : MethodName := { cls := "VeilSearch$Documents", name := "greatestCode", desc := "(JII)I" }
abbrev c_X_lowestId : ByteArray := prog_1_method_23_code
abbrev y_X_lowestId : MethodName := { cls := "VeilSearch", name := "lowestId", desc := "(J)I" }
abbrev c_H_lastScore : ByteArray := prog_4_method_3_code
abbrev y_H_lastScore : MethodName := { cls := "VeilSearch$Hits", name := "lastScore", desc := "()F" }
abbrev c_X_lookAt : ByteArray := prog_1_method_28_code
abbrev y_X_lookAt : MethodName := { cls := "VeilSearch", name := "lookAt", desc := "(J)V" }
abbrev c_Q_finds : ByteArray := prog_5_method_6_code
abbrev y_Q_finds : MethodName := { cls := "VeilSearch$Query", name := "finds", desc := "(ILVeilSearch$Documents;)Z" }
abbrev c_H_take : ByteArray := prog_4_method_4_code
abbrev y_H_take : MethodName := { cls := "VeilSearch$Hits", name := "take", desc := "(IF)V" }
abbrev c_L_hit : ByteArray := method_13_code
abbrev y_L_hit : MethodName := { cls := "VeilSearchLaw", name := "hit", desc := "(LVeilSearch;I[J)I" }
abbrev c_X_hit : ByteArray := prog_1_method_15_code
abbrev y_X_hit : MethodName := { cls := "VeilSearch", name := "hit", desc := "(I)I" }
abbrev c_L_score : ByteArray := method_14_code
abbrev y_L_score : MethodName := { cls := "VeilSearchLaw", name := "score", desc := "(LVeilSearch;I[D)I" }
abbrev c_X_score : ByteArray := prog_1_method_16_code
abbrev y_X_score : MethodName := { cls := "VeilSearch", name := "score", desc := "(I)D" }
abbrev c_L_value : ByteArray := method_15_code
abbrev y_L_value : MethodName := { cls := "VeilSearchLaw", name := "value", desc := "(LVeilSearch;III[J)I" }
abbrev c_X_value : ByteArray := prog_1_method_17_code
abbrev y_X_value : MethodName := { cls := "VeilSearch", name := "value", desc := "(III)I" }
abbrev c_L_count : ByteArray := method_16_code
abbrev y_L_count : MethodName := { cls := "VeilSearchLaw", name := "count", desc := "(LVeilSearch;I[J)I" }
abbrev c_X_count : ByteArray := prog_1_method_18_code
abbrev y_X_count : MethodName := { cls := "VeilSearch", name := "count", desc := "(I)I" }
abbrev c_M_init : ByteArray := prog_10_method_1_code
abbrev y_M_init : MethodName := { cls := "VeilSearchModel", name := "<init>", desc := "()V" }
abbrev c_M_thrown : ByteArray := prog_10_method_2_code
abbrev y_M_thrown : MethodName := { cls := "VeilSearchModel", name := "thrown", desc := "()I" }
abbrev c_M_member : ByteArray := prog_10_method_5_code
abbrev y_M_member : MethodName := { cls := "VeilSearchModel", name := "member", desc := "(IIZ)Z" }
abbrev c_M_in : ByteArray := prog_10_method_3_code
abbrev y_M_in : MethodName := { cls := "VeilSearchModel", name := "in", desc := "(III)Z" }
abbrev c_M_level : ByteArray := prog_10_method_6_code
abbrev y_M_level : MethodName := { cls := "VeilSearchModel", name := "level", desc := "(III)I" }
abbrev c_M_fail : ByteArray := prog_10_method_4_code
abbrev y_M_fail : MethodName := { cls := "VeilSearchModel", name := "fail", desc := "(I)I" }
abbrev c_M_weigh : ByteArray := prog_10_method_9_code
abbrev y_M_weigh : MethodName := { cls := "VeilSearchModel", name := "weigh", desc := "(IID)I" }
abbrev c_M_isWeight : ByteArray := prog_10_method_8_code
abbrev y_M_isWeight : MethodName := { cls := "VeilSearchModel", name := "isWeight", desc := "(D)Z" }
abbrev c_M_put : ByteArray := prog_10_method_10_code
abbrev y_M_put : MethodName := { cls := "VeilSearchModel", name := "put", desc := "(II)I" }
abbrev c_M_rule : ByteArray := prog_10_method_11_code
abbrev y_M_rule : MethodName := { cls := "VeilSearchModel", name := "rule", desc := "(IZ)Z" }
abbrev c_M_add : ByteArray := prog_10_method_12_code
abbrev y_M_add : MethodName := { cls := "VeilSearchModel", name := "add", desc := "(I)I" }
abbrev c_M_remove : ByteArray := prog_10_method_13_code
abbrev y_M_remove : MethodName := { cls := "VeilSearchModel", name := "remove", desc := "(I)V" }
abbrev c_M_flush : ByteArray := prog_10_method_15_code
abbrev y_M_flush : MethodName := { cls := "VeilSearchModel", name := "flush", desc := "()I" }
abbrev c_M_sizeOf : ByteArray := prog_10_method_14_code
abbrev y_M_sizeOf : MethodName := { cls := "VeilSearchModel", name := "sizeOf", desc := "(I)I" }
abbrev c_M_merge : ByteArray := prog_10_method_16_code
abbrev y_M_merge : MethodName := { cls := "VeilSearchModel", name := "merge", desc := "()I" }
abbrev c_M_refresh : ByteArray := prog_10_method_20_code
abbrev y_M_refresh : MethodName := { cls := "VeilSearchModel", name := "refresh", desc := "()I" }
abbrev c_M_isOther : ByteArray := prog_10_method_17_code
abbrev y_M_isOther : MethodName := { cls := "VeilSearchModel", name := "isOther", desc := "()Z" }
abbrev c_M_isShown : ByteArray := prog_10_method_18_code
abbrev y_M_isShown : MethodName := { cls := "VeilSearchModel", name := "isShown", desc := "(I)Z" }
abbrev c_M_drop : ByteArray := prog_10_method_19_code
abbrev y_M_drop : MethodName := { cls := "VeilSearchModel", name := "drop", desc := "(I)V" }
abbrev c_M_clause : ByteArray := prog_10_method_21_code
abbrev y_M_clause : MethodName := { cls := "VeilSearchModel", name := "clause", desc := "(IIID)I" }
abbrev c_M_clear : ByteArray := prog_10_method_22_code
abbrev y_M_clear : MethodName := { cls := "VeilSearchModel", name := "clear", desc := "()I" }
abbrev c_M_search : ByteArray := prog_10_method_33_code
abbrev y_M_search : MethodName := { cls := "VeilSearchModel", name := "search", desc := "(II)I" }
abbrev c_M_arrange : ByteArray := prog_10_method_25_code
abbrev y_M_arrange : MethodName := { cls := "VeilSearchModel", name := "arrange", desc := "()V" }
abbrev c_M_useFilter : ByteArray := prog_10_method_29_code
abbrev y_M_useFilter : MethodName := { cls := "VeilSearchModel", name := "useFilter", desc := "(II)V" }
abbrev c_M_isLeft : ByteArray := prog_10_method_32_code
abbrev y_M_isLeft : MethodName := { cls := "VeilSearchModel", name := "isLeft", desc := "(II)Z" }
abbrev c_M_behindBlock : ByteArray := prog_10_method_30_code
abbrev y_M_behindBlock : MethodName := { cls := "VeilSearchModel", name := "behindBlock", desc := "(II)I" }
abbrev c_M_scoreOf : ByteArray := prog_10_method_27_code
abbrev y_M_scoreOf : MethodName := { cls := "VeilSearchModel", name := "scoreOf", desc := "(IIII)F" }
abbrev c_M_isOpen : ByteArray := prog_10_method_23_code
abbrev y_M_isOpen : MethodName := { cls := "VeilSearchModel", name := "isOpen", desc := "(II)Z" }
abbrev c_M_lookAt : ByteArray := prog_10_method_31_code
abbrev y_M_lookAt : MethodName := { cls := "VeilSearchModel", name := "lookAt", desc := "(IIIII)V" }
abbrev c_M_isFound : ByteArray := prog_10_method_26_code
abbrev y_M_isFound : MethodName := { cls := "VeilSearchModel", name := "isFound", desc := "(II)Z" }
abbrev c_M_mayRead : ByteArray := prog_10_method_24_code
abbrev y_M_mayRead : MethodName := { cls := "VeilSearchModel", name := "mayRead", desc := "(II)Z" }
abbrev c_M_tokens : ByteArray := prog_10_method_7_code
abbrev y_M_tokens : MethodName := { cls := "VeilSearchModel", name := "tokens", desc := "(IZ)I" }
abbrev c_M_enter : ByteArray := prog_10_method_28_code
abbrev y_M_enter : MethodName := { cls := "VeilSearchModel", name := "enter", desc := "(IFI)V" }
abbrev c_M_hit : ByteArray := prog_10_method_34_code
abbrev y_M_hit : MethodName := { cls := "VeilSearchModel", name := "hit", desc := "(I)I" }
abbrev c_M_score : ByteArray := prog_10_method_35_code
abbrev y_M_score : MethodName := { cls := "VeilSearchModel", name := "score", desc := "(I)D" }
abbrev c_M_value : ByteArray := prog_10_method_36_code
abbrev y_M_value : MethodName := { cls := "VeilSearchModel", name := "value", desc := "(III)I" }
abbrev c_M_count : ByteArray := prog_10_method_37_code
abbrev y_M_count : MethodName := { cls := "VeilSearchModel", name := "count", desc := "(I)I" }
end
section
theorem d_D_init_0 : decode c_D_init 0 = .ok (.aload_n 0, 1) := by decide +kernel
theorem d_D_init_1 : decode c_D_init 1 = .ok (.invokespecial 3, 3) := by decide +kernel
theorem d_D_init_4 : decode c_D_init 4 = .ok (.aload_n 0, 1) := by decide +kernel
theorem d_D_init_5 : decode c_D_init 5 = .ok (.sipush 984, 3) := by decide +kernel
theorem d_D_init_8 : decode c_D_init 8 = .ok (.newarray .int, 2) := by decide +kernel
theorem d_D_init_10 : decode c_D_init 10 = .ok (.putfield 9, 3) := by decide +kernel
theorem d_D_init_13 : decode c_D_init 13 = .ok (.aload_n 0, 1) := by decide +kernel
theorem d_D_init_14 : decode c_D_init 14 = .ok (.bipush 123, 2) := by decide +kernel
theorem d_D_init_16 : decode c_D_init 16 = .ok (.newarray .int, 2) := by decide +kernel
theorem d_D_init_18 : decode c_D_init 18 = .ok (.putfield 15, 3) := by decide +kernel
theorem d_D_init_21 : decode c_D_init 21 = .ok (.aload_n 0, 1) := by decide +kernel
theorem d_D_init_22 : decode c_D_init 22 = .ok (.bipush 41, 2) := by decide +kernel
theorem d_D_init_24 : decode c_D_init 24 = .ok (.newarray .int, 2) := by decide +kernel
theorem d_D_init_26 : decode c_D_init 26 = .ok (.putfield 18, 3) := by decide +kernel
theorem d_D_init_29 : decode c_D_init 29 = .ok (.aload_n 0, 1) := by decide +kernel
theorem d_D_init_30 : decode c_D_init 30 = .ok (.bipush 41, 2) := by decide +kernel
theorem d_D_init_32 : decode c_D_init 32 = .ok (.newarray .int, 2) := by decide +kernel
theorem d_D_init_34 : decode c_D_init 34 = .ok (.putfield 21, 3) := by decide +kernel
theorem d_D_init_37 : decode c_D_init 37 = .ok (.aload_n 0, 1) := by decide +kernel
theorem d_D_init_38 : decode c_D_init 38 = .ok (.iconst 0, 1) := by decide +kernel
theorem d_D_init_39 : decode c_D_init 39 = .ok (.putfield 24, 3) := by decide +kernel
theorem d_D_init_42 : decode c_D_init 42 = .ok (.return_, 1) := by decide +kernel
theorem d_F_init_0 : decode c_F_init 0 = .ok (.aload_n 0, 1) := by decide +kernel
theorem d_F_init_1 : decode c_F_init 1 = .ok (.invokespecial 3, 3) := by decide +kernel
theorem d_F_init_4 : decode c_F_init 4 = .ok (.aload_n 0, 1) := by decide +kernel
theorem d_F_init_5 : decode c_F_init 5 = .ok (.iconst 5, 1) := by decide +kernel
theorem d_F_init_6 : decode c_F_init 6 = .ok (.newarray .int, 2) := by decide +kernel
theorem d_F_init_8 : decode c_F_init 8 = .ok (.putfield 9, 3) := by decide +kernel
theorem d_F_init_11 : decode c_F_init 11 = .ok (.aload_n 0, 1) := by decide +kernel
theorem d_F_init_12 : decode c_F_init 12 = .ok (.iconst 5, 1) := by decide +kernel
theorem d_F_init_13 : decode c_F_init 13 = .ok (.newarray .int, 2) := by decide +kernel
theorem d_F_init_15 : decode c_F_init 15 = .ok (.putfield 15, 3) := by decide +kernel
theorem d_F_init_18 : decode c_F_init 18 = .ok (.aload_n 0, 1) := by decide +kernel
theorem d_F_init_19 : decode c_F_init 19 = .ok (.iconst 5, 1) := by decide +kernel
theorem d_F_init_20 : decode c_F_init 20 = .ok (.newarray .long, 2) := by decide +kernel
theorem d_F_init_22 : decode c_F_init 22 = .ok (.putfield 18, 3) := by decide +kernel
theorem d_F_init_25 : decode c_F_init 25 = .ok (.aload_n 0, 1) := by decide +kernel
theorem d_F_init_26 : decode c_F_init 26 = .ok (.iconst 0, 1) := by decide +kernel
theorem d_F_init_27 : decode c_F_init 27 = .ok (.putfield 22, 3) := by decide +kernel
theorem d_F_init_30 : decode c_F_init 30 = .ok (.aload_n 0, 1) := by decide +kernel
theorem d_F_init_31 : decode c_F_init 31 = .ok (.iconst 0, 1) := by decide +kernel
theorem d_F_init_32 : decode c_F_init 32 = .ok (.putfield 26, 3) := by decide +kernel
theorem d_F_init_35 : decode c_F_init 35 = .ok (.aload_n 0, 1) := by decide +kernel
theorem d_F_init_36 : decode c_F_init 36 = .ok (.iconst 0, 1) := by decide +kernel
theorem d_F_init_37 : decode c_F_init 37 = .ok (.putfield 29, 3) := by decide +kernel
theorem d_F_init_40 : decode c_F_init 40 = .ok (.return_, 1) := by decide +kernel
theorem d_Q_init_0 : decode c_Q_init 0 = .ok (.aload_n 0, 1) := by decide +kernel
theorem d_Q_init_1 : decode c_Q_init 1 = .ok (.invokespecial 3, 3) := by decide +kernel
theorem d_Q_init_4 : decode c_Q_init 4 = .ok (.aload_n 0, 1) := by decide +kernel
theorem d_Q_init_5 : decode c_Q_init 5 = .ok (.bipush 6, 2) := by decide +kernel
theorem d_Q_init_7 : decode c_Q_init 7 = .ok (.newarray .int, 2) := by decide +kernel
theorem d_Q_init_9 : decode c_Q_init 9 = .ok (.putfield 9, 3) := by decide +kernel
theorem d_Q_init_12 : decode c_Q_init 12 = .ok (.aload_n 0, 1) := by decide +kernel
theorem d_Q_init_13 : decode c_Q_init 13 = .ok (.bipush 6, 2) := by decide +kernel
theorem d_Q_init_15 : decode c_Q_init 15 = .ok (.newarray .int, 2) := by decide +kernel
theorem d_Q_init_17 : decode c_Q_init 17 = .ok (.putfield 15, 3) := by decide +kernel
theorem d_Q_init_20 : decode c_Q_init 20 = .ok (.aload_n 0, 1) := by decide +kernel
theorem d_Q_init_21 : decode c_Q_init 21 = .ok (.bipush 6, 2) := by decide +kernel
theorem d_Q_init_23 : decode c_Q_init 23 = .ok (.newarray .int, 2) := by decide +kernel
theorem d_Q_init_25 : decode c_Q_init 25 = .ok (.putfield 18, 3) := by decide +kernel
theorem d_Q_init_28 : decode c_Q_init 28 = .ok (.aload_n 0, 1) := by decide +kernel
theorem d_Q_init_29 : decode c_Q_init 29 = .ok (.bipush 6, 2) := by decide +kernel
theorem d_Q_init_31 : decode c_Q_init 31 = .ok (.newarray .float, 2) := by decide +kernel
theorem d_Q_init_33 : decode c_Q_init 33 = .ok (.putfield 21, 3) := by decide +kernel
theorem d_Q_init_36 : decode c_Q_init 36 = .ok (.aload_n 0, 1) := by decide +kernel
theorem d_Q_init_37 : decode c_Q_init 37 = .ok (.bipush 6, 2) := by decide +kernel
theorem d_Q_init_39 : decode c_Q_init 39 = .ok (.newarray .boolean, 2) := by decide +kernel
theorem d_Q_init_41 : decode c_Q_init 41 = .ok (.putfield 25, 3) := by decide +kernel
theorem d_Q_init_44 : decode c_Q_init 44 = .ok (.aload_n 0, 1) := by decide +kernel
theorem d_Q_init_45 : decode c_Q_init 45 = .ok (.iconst 0, 1) := by decide +kernel
theorem d_Q_init_46 : decode c_Q_init 46 = .ok (.putfield 29, 3) := by decide +kernel
theorem d_Q_init_49 : decode c_Q_init 49 = .ok (.aload_n 0, 1) := by decide +kernel
theorem d_Q_init_50 : decode c_Q_init 50 = .ok (.iconst 0, 1) := by decide +kernel
theorem d_Q_init_51 : decode c_Q_init 51 = .ok (.putfield 33, 3) := by decide +kernel
theorem d_Q_init_54 : decode c_Q_init 54 = .ok (.return_, 1) := by decide +kernel
theorem d_H_init_0 : decode c_H_init 0 = .ok (.aload_n 0, 1) := by decide +kernel
theorem d_H_init_1 : decode c_H_init 1 = .ok (.invokespecial 3, 3) := by decide +kernel
theorem d_H_init_4 : decode c_H_init 4 = .ok (.aload_n 0, 1) := by decide +kernel
theorem d_H_init_5 : decode c_H_init 5 = .ok (.bipush 8, 2) := by decide +kernel
theorem d_H_init_7 : decode c_H_init 7 = .ok (.newarray .int, 2) := by decide +kernel
theorem d_H_init_9 : decode c_H_init 9 = .ok (.putfield 9, 3) := by decide +kernel
theorem d_H_init_12 : decode c_H_init 12 = .ok (.aload_n 0, 1) := by decide +kernel
theorem d_H_init_13 : decode c_H_init 13 = .ok (.bipush 8, 2) := by decide +kernel
theorem d_H_init_15 : decode c_H_init 15 = .ok (.newarray .float, 2) := by decide +kernel
theorem d_H_init_17 : decode c_H_init 17 = .ok (.putfield 15, 3) := by decide +kernel
theorem d_H_init_20 : decode c_H_init 20 = .ok (.aload_n 0, 1) := by decide +kernel
theorem d_H_init_21 : decode c_H_init 21 = .ok (.iconst 0, 1) := by decide +kernel
theorem d_H_init_22 : decode c_H_init 22 = .ok (.putfield 19, 3) := by decide +kernel
theorem d_H_init_25 : decode c_H_init 25 = .ok (.aload_n 0, 1) := by decide +kernel
theorem d_H_init_26 : decode c_H_init 26 = .ok (.iconst 0, 1) := by decide +kernel
theorem d_H_init_27 : decode c_H_init 27 = .ok (.putfield 23, 3) := by decide +kernel
theorem d_H_init_30 : decode c_H_init 30 = .ok (.return_, 1) := by decide +kernel
theorem d_V_init_0 : decode c_V_init 0 = .ok (.aload_n 0, 1) := by decide +kernel
theorem d_V_init_1 : decode c_V_init 1 = .ok (.invokespecial 1, 3) := by decide +kernel
theorem d_V_init_4 : decode c_V_init 4 = .ok (.aload_n 0, 1) := by decide +kernel
theorem d_V_init_5 : decode c_V_init 5 = .ok (.new 7, 3) := by decide +kernel
theorem d_V_init_8 : decode c_V_init 8 = .ok (.dup, 1) := by decide +kernel
theorem d_V_init_9 : decode c_V_init 9 = .ok (.invokespecial 9, 3) := by decide +kernel
theorem d_V_init_12 : decode c_V_init 12 = .ok (.putfield 10, 3) := by decide +kernel
theorem d_V_init_15 : decode c_V_init 15 = .ok (.aload_n 0, 1) := by decide +kernel
theorem d_V_init_16 : decode c_V_init 16 = .ok (.new 16, 3) := by decide +kernel
theorem d_V_init_19 : decode c_V_init 19 = .ok (.dup, 1) := by decide +kernel
theorem d_V_init_20 : decode c_V_init 20 = .ok (.invokespecial 18, 3) := by decide +kernel
theorem d_V_init_23 : decode c_V_init 23 = .ok (.putfield 19, 3) := by decide +kernel
theorem d_V_init_26 : decode c_V_init 26 = .ok (.aload_n 0, 1) := by decide +kernel
theorem d_V_init_27 : decode c_V_init 27 = .ok (.lconst 0, 1) := by decide +kernel
theorem d_V_init_28 : decode c_V_init 28 = .ok (.putfield 23, 3) := by decide +kernel
theorem d_V_init_31 : decode c_V_init 31 = .ok (.return_, 1) := by decide +kernel
theorem d_R_init_0 : decode c_R_init 0 = .ok (.aload_n 0, 1) := by decide +kernel
theorem d_R_init_1 : decode c_R_init 1 = .ok (.invokespecial 3, 3) := by decide +kernel
theorem d_R_init_4 : decode c_R_init 4 = .ok (.aload_n 0, 1) := by decide +kernel
theorem d_R_init_5 : decode c_R_init 5 = .ok (.bipush 16, 2) := by decide +kernel
theorem d_R_init_7 : decode c_R_init 7 = .ok (.newarray .int, 2) := by decide +kernel
theorem d_R_init_9 : decode c_R_init 9 = .ok (.putfield 9, 3) := by decide +kernel
theorem d_R_init_12 : decode c_R_init 12 = .ok (.aload_n 0, 1) := by decide +kernel
theorem d_R_init_13 : decode c_R_init 13 = .ok (.iconst 3, 1) := by decide +kernel
theorem d_R_init_14 : decode c_R_init 14 = .ok (.newarray .int, 2) := by decide +kernel
theorem d_R_init_16 : decode c_R_init 16 = .ok (.putfield 15, 3) := by decide +kernel
theorem d_R_init_19 : decode c_R_init 19 = .ok (.aload_n 0, 1) := by decide +kernel
theorem d_R_init_20 : decode c_R_init 20 = .ok (.bipush 8, 2) := by decide +kernel
theorem d_R_init_22 : decode c_R_init 22 = .ok (.newarray .int, 2) := by decide +kernel
theorem d_R_init_24 : decode c_R_init 24 = .ok (.putfield 18, 3) := by decide +kernel
theorem d_R_init_27 : decode c_R_init 27 = .ok (.return_, 1) := by decide +kernel
theorem d_S_init_0 : decode c_S_init 0 = .ok (.aload_n 0, 1) := by decide +kernel
theorem d_S_init_1 : decode c_S_init 1 = .ok (.invokespecial 3, 3) := by decide +kernel
theorem d_S_init_4 : decode c_S_init 4 = .ok (.aload_n 0, 1) := by decide +kernel
theorem d_S_init_5 : decode c_S_init 5 = .ok (.bipush 6, 2) := by decide +kernel
theorem d_S_init_7 : decode c_S_init 7 = .ok (.newarray .int, 2) := by decide +kernel
theorem d_S_init_9 : decode c_S_init 9 = .ok (.putfield 9, 3) := by decide +kernel
theorem d_S_init_12 : decode c_S_init 12 = .ok (.aload_n 0, 1) := by decide +kernel
theorem d_S_init_13 : decode c_S_init 13 = .ok (.bipush 6, 2) := by decide +kernel
theorem d_S_init_15 : decode c_S_init 15 = .ok (.newarray .long, 2) := by decide +kernel
theorem d_S_init_17 : decode c_S_init 17 = .ok (.putfield 15, 3) := by decide +kernel
theorem d_S_init_20 : decode c_S_init 20 = .ok (.aload_n 0, 1) := by decide +kernel
theorem d_S_init_21 : decode c_S_init 21 = .ok (.iconst 0, 1) := by decide +kernel
theorem d_S_init_22 : decode c_S_init 22 = .ok (.putfield 19, 3) := by decide +kernel
theorem d_S_init_25 : decode c_S_init 25 = .ok (.return_, 1) := by decide +kernel
theorem d_S_allIds_0 : decode c_S_allIds 0 = .ok (.lconst 0, 1) := by decide +kernel
theorem d_S_allIds_1 : decode c_S_allIds 1 = .ok (.lstore_n 1, 1) := by decide +kernel
theorem d_S_allIds_2 : decode c_S_allIds 2 = .ok (.iconst 0, 1) := by decide +kernel
theorem d_S_allIds_3 : decode c_S_allIds 3 = .ok (.istore_n 3, 1) := by decide +kernel
theorem d_S_allIds_4 : decode c_S_allIds 4 = .ok (.iload_n 3, 1) := by decide +kernel
theorem d_S_allIds_5 : decode c_S_allIds 5 = .ok (.aload_n 0, 1) := by decide +kernel
theorem d_S_allIds_6 : decode c_S_allIds 6 = .ok (.getfield 19, 3) := by decide +kernel
theorem d_S_allIds_9 : decode c_S_allIds 9 = .ok (.if_icmp .ge 18, 3) := by decide +kernel
theorem d_S_allIds_12 : decode c_S_allIds 12 = .ok (.lload_n 1, 1) := by decide +kernel
theorem d_S_allIds_13 : decode c_S_allIds 13 = .ok (.aload_n 0, 1) := by decide +kernel
theorem d_S_allIds_14 : decode c_S_allIds 14 = .ok (.getfield 15, 3) := by decide +kernel
theorem d_S_allIds_17 : decode c_S_allIds 17 = .ok (.iload_n 3, 1) := by decide +kernel
theorem d_S_allIds_18 : decode c_S_allIds 18 = .ok (.laload, 1) := by decide +kernel
theorem d_S_allIds_19 : decode c_S_allIds 19 = .ok (.lor, 1) := by decide +kernel
theorem d_S_allIds_20 : decode c_S_allIds 20 = .ok (.lstore_n 1, 1) := by decide +kernel
theorem d_S_allIds_21 : decode c_S_allIds 21 = .ok (.iinc 3 1, 3) := by decide +kernel
theorem d_S_allIds_24 : decode c_S_allIds 24 = .ok (.goto (-20), 3) := by decide +kernel
theorem d_S_allIds_27 : decode c_S_allIds 27 = .ok (.lload_n 1, 1) := by decide +kernel
theorem d_S_allIds_28 : decode c_S_allIds 28 = .ok (.lreturn, 1) := by decide +kernel
theorem d_S_append_0 : decode c_S_append 0 = .ok (.aload_n 0, 1) := by decide +kernel
theorem d_S_append_1 : decode c_S_append 1 = .ok (.getfield 9, 3) := by decide +kernel
theorem d_S_append_4 : decode c_S_append 4 = .ok (.aload_n 0, 1) := by decide +kernel
theorem d_S_append_5 : decode c_S_append 5 = .ok (.getfield 19, 3) := by decide +kernel
theorem d_S_append_8 : decode c_S_append 8 = .ok (.iload_n 1, 1) := by decide +kernel
theorem d_S_append_9 : decode c_S_append 9 = .ok (.iastore, 1) := by decide +kernel
theorem d_S_append_10 : decode c_S_append 10 = .ok (.aload_n 0, 1) := by decide +kernel
theorem d_S_append_11 : decode c_S_append 11 = .ok (.getfield 15, 3) := by decide +kernel
theorem d_S_append_14 : decode c_S_append 14 = .ok (.aload_n 0, 1) := by decide +kernel
theorem d_S_append_15 : decode c_S_append 15 = .ok (.getfield 19, 3) := by decide +kernel
theorem d_S_append_18 : decode c_S_append 18 = .ok (.lload_n 2, 1) := by decide +kernel
theorem d_S_append_19 : decode c_S_append 19 = .ok (.lastore, 1) := by decide +kernel
theorem d_S_append_20 : decode c_S_append 20 = .ok (.aload_n 0, 1) := by decide +kernel
theorem d_S_append_21 : decode c_S_append 21 = .ok (.dup, 1) := by decide +kernel
theorem d_S_append_22 : decode c_S_append 22 = .ok (.getfield 19, 3) := by decide +kernel
theorem d_S_append_25 : decode c_S_append 25 = .ok (.iconst 1, 1) := by decide +kernel
theorem d_S_append_26 : decode c_S_append 26 = .ok (.iadd, 1) := by decide +kernel
theorem d_S_append_27 : decode c_S_append 27 = .ok (.putfield 19, 3) := by decide +kernel
theorem d_S_append_30 : decode c_S_append 30 = .ok (.return_, 1) := by decide +kernel
theorem d_J_bitCount_0 : decode c_J_bitCount 0 = .ok (.lload_n 0, 1) := by decide +kernel
theorem d_J_bitCount_1 : decode c_J_bitCount 1 = .ok (.lload_n 0, 1) := by decide +kernel
theorem d_J_bitCount_2 : decode c_J_bitCount 2 = .ok (.iconst 1, 1) := by decide +kernel
theorem d_J_bitCount_3 : decode c_J_bitCount 3 = .ok (.lushr, 1) := by decide +kernel
theorem d_J_bitCount_4 : decode c_J_bitCount 4 = .ok (.ldc2_w 314, 3) := by decide +kernel
theorem d_J_bitCount_7 : decode c_J_bitCount 7 = .ok (.land, 1) := by decide +kernel
theorem d_J_bitCount_8 : decode c_J_bitCount 8 = .ok (.lsub, 1) := by decide +kernel
theorem d_J_bitCount_9 : decode c_J_bitCount 9 = .ok (.lstore_n 0, 1) := by decide +kernel
theorem d_J_bitCount_10 : decode c_J_bitCount 10 = .ok (.lload_n 0, 1) := by decide +kernel
theorem d_J_bitCount_11 : decode c_J_bitCount 11 = .ok (.ldc2_w 316, 3) := by decide +kernel
theorem d_J_bitCount_14 : decode c_J_bitCount 14 = .ok (.land, 1) := by decide +kernel
theorem d_J_bitCount_15 : decode c_J_bitCount 15 = .ok (.lload_n 0, 1) := by decide +kernel
theorem d_J_bitCount_16 : decode c_J_bitCount 16 = .ok (.iconst 2, 1) := by decide +kernel
theorem d_J_bitCount_17 : decode c_J_bitCount 17 = .ok (.lushr, 1) := by decide +kernel
theorem d_J_bitCount_18 : decode c_J_bitCount 18 = .ok (.ldc2_w 316, 3) := by decide +kernel
theorem d_J_bitCount_21 : decode c_J_bitCount 21 = .ok (.land, 1) := by decide +kernel
theorem d_J_bitCount_22 : decode c_J_bitCount 22 = .ok (.ladd, 1) := by decide +kernel
theorem d_J_bitCount_23 : decode c_J_bitCount 23 = .ok (.lstore_n 0, 1) := by decide +kernel
theorem d_J_bitCount_24 : decode c_J_bitCount 24 = .ok (.lload_n 0, 1) := by decide +kernel
theorem d_J_bitCount_25 : decode c_J_bitCount 25 = .ok (.lload_n 0, 1) := by decide +kernel
theorem d_J_bitCount_26 : decode c_J_bitCount 26 = .ok (.iconst 4, 1) := by decide +kernel
theorem d_J_bitCount_27 : decode c_J_bitCount 27 = .ok (.lushr, 1) := by decide +kernel
theorem d_J_bitCount_28 : decode c_J_bitCount 28 = .ok (.ladd, 1) := by decide +kernel
theorem d_J_bitCount_29 : decode c_J_bitCount 29 = .ok (.ldc2_w 318, 3) := by decide +kernel
theorem d_J_bitCount_32 : decode c_J_bitCount 32 = .ok (.land, 1) := by decide +kernel
theorem d_J_bitCount_33 : decode c_J_bitCount 33 = .ok (.lstore_n 0, 1) := by decide +kernel
theorem d_J_bitCount_34 : decode c_J_bitCount 34 = .ok (.lload_n 0, 1) := by decide +kernel
theorem d_J_bitCount_35 : decode c_J_bitCount 35 = .ok (.lload_n 0, 1) := by decide +kernel
theorem d_J_bitCount_36 : decode c_J_bitCount 36 = .ok (.bipush 8, 2) := by decide +kernel
theorem d_J_bitCount_38 : decode c_J_bitCount 38 = .ok (.lushr, 1) := by decide +kernel
theorem d_J_bitCount_39 : decode c_J_bitCount 39 = .ok (.ladd, 1) := by decide +kernel
theorem d_J_bitCount_40 : decode c_J_bitCount 40 = .ok (.lstore_n 0, 1) := by decide +kernel
theorem d_J_bitCount_41 : decode c_J_bitCount 41 = .ok (.lload_n 0, 1) := by decide +kernel
theorem d_J_bitCount_42 : decode c_J_bitCount 42 = .ok (.lload_n 0, 1) := by decide +kernel
theorem d_J_bitCount_43 : decode c_J_bitCount 43 = .ok (.bipush 16, 2) := by decide +kernel
theorem d_J_bitCount_45 : decode c_J_bitCount 45 = .ok (.lushr, 1) := by decide +kernel
theorem d_J_bitCount_46 : decode c_J_bitCount 46 = .ok (.ladd, 1) := by decide +kernel
theorem d_J_bitCount_47 : decode c_J_bitCount 47 = .ok (.lstore_n 0, 1) := by decide +kernel
theorem d_J_bitCount_48 : decode c_J_bitCount 48 = .ok (.lload_n 0, 1) := by decide +kernel
theorem d_J_bitCount_49 : decode c_J_bitCount 49 = .ok (.lload_n 0, 1) := by decide +kernel
theorem d_J_bitCount_50 : decode c_J_bitCount 50 = .ok (.bipush 32, 2) := by decide +kernel
theorem d_J_bitCount_52 : decode c_J_bitCount 52 = .ok (.lushr, 1) := by decide +kernel
theorem d_J_bitCount_53 : decode c_J_bitCount 53 = .ok (.ladd, 1) := by decide +kernel
theorem d_J_bitCount_54 : decode c_J_bitCount 54 = .ok (.lstore_n 0, 1) := by decide +kernel
theorem d_J_bitCount_55 : decode c_J_bitCount 55 = .ok (.lload_n 0, 1) := by decide +kernel
theorem d_J_bitCount_56 : decode c_J_bitCount 56 = .ok (.l2i, 1) := by decide +kernel
theorem d_J_bitCount_57 : decode c_J_bitCount 57 = .ok (.bipush 127, 2) := by decide +kernel
theorem d_J_bitCount_59 : decode c_J_bitCount 59 = .ok (.iand, 1) := by decide +kernel
theorem d_J_bitCount_60 : decode c_J_bitCount 60 = .ok (.ireturn, 1) := by decide +kernel
theorem d_R_sameAs_0 : decode c_R_sameAs 0 = .ok (.aload_n 0, 1) := by decide +kernel
theorem d_R_sameAs_1 : decode c_R_sameAs 1 = .ok (.getfield 9, 3) := by decide +kernel
theorem d_R_sameAs_4 : decode c_R_sameAs 4 = .ok (.aload_n 1, 1) := by decide +kernel
theorem d_R_sameAs_5 : decode c_R_sameAs 5 = .ok (.getfield 9, 3) := by decide +kernel
theorem d_R_sameAs_8 : decode c_R_sameAs 8 = .ok (.invokestatic 21, 3) := by decide +kernel
theorem d_R_sameAs_11 : decode c_R_sameAs 11 = .ok (.ifCond .eq 35, 3) := by decide +kernel
theorem d_R_sameAs_14 : decode c_R_sameAs 14 = .ok (.aload_n 0, 1) := by decide +kernel
theorem d_R_sameAs_15 : decode c_R_sameAs 15 = .ok (.getfield 15, 3) := by decide +kernel
theorem d_R_sameAs_18 : decode c_R_sameAs 18 = .ok (.aload_n 1, 1) := by decide +kernel
theorem d_R_sameAs_19 : decode c_R_sameAs 19 = .ok (.getfield 15, 3) := by decide +kernel
theorem d_R_sameAs_22 : decode c_R_sameAs 22 = .ok (.invokestatic 21, 3) := by decide +kernel
theorem d_R_sameAs_25 : decode c_R_sameAs 25 = .ok (.ifCond .eq 21, 3) := by decide +kernel
theorem d_R_sameAs_28 : decode c_R_sameAs 28 = .ok (.aload_n 0, 1) := by decide +kernel
theorem d_R_sameAs_29 : decode c_R_sameAs 29 = .ok (.getfield 18, 3) := by decide +kernel
theorem d_R_sameAs_32 : decode c_R_sameAs 32 = .ok (.aload_n 1, 1) := by decide +kernel
theorem d_R_sameAs_33 : decode c_R_sameAs 33 = .ok (.getfield 18, 3) := by decide +kernel
theorem d_R_sameAs_36 : decode c_R_sameAs 36 = .ok (.invokestatic 21, 3) := by decide +kernel
theorem d_R_sameAs_39 : decode c_R_sameAs 39 = .ok (.ifCond .eq 7, 3) := by decide +kernel
theorem d_R_sameAs_42 : decode c_R_sameAs 42 = .ok (.iconst 1, 1) := by decide +kernel
theorem d_R_sameAs_43 : decode c_R_sameAs 43 = .ok (.goto 4, 3) := by decide +kernel
theorem d_R_sameAs_46 : decode c_R_sameAs 46 = .ok (.iconst 0, 1) := by decide +kernel
theorem d_R_sameAs_47 : decode c_R_sameAs 47 = .ok (.ireturn, 1) := by decide +kernel
theorem d_R_sameRow_0 : decode c_R_sameRow 0 = .ok (.iconst 0, 1) := by decide +kernel
theorem d_R_sameRow_1 : decode c_R_sameRow 1 = .ok (.istore_n 2, 1) := by decide +kernel
theorem d_R_sameRow_2 : decode c_R_sameRow 2 = .ok (.iload_n 2, 1) := by decide +kernel
theorem d_R_sameRow_3 : decode c_R_sameRow 3 = .ok (.aload_n 0, 1) := by decide +kernel
theorem d_R_sameRow_4 : decode c_R_sameRow 4 = .ok (.arraylength, 1) := by decide +kernel
theorem d_R_sameRow_5 : decode c_R_sameRow 5 = .ok (.if_icmp .ge 26, 3) := by decide +kernel
theorem d_R_sameRow_8 : decode c_R_sameRow 8 = .ok (.iload_n 2, 1) := by decide +kernel
theorem d_R_sameRow_9 : decode c_R_sameRow 9 = .ok (.aload_n 1, 1) := by decide +kernel
theorem d_R_sameRow_10 : decode c_R_sameRow 10 = .ok (.arraylength, 1) := by decide +kernel
theorem d_R_sameRow_11 : decode c_R_sameRow 11 = .ok (.if_icmp .ge 20, 3) := by decide +kernel
theorem d_R_sameRow_14 : decode c_R_sameRow 14 = .ok (.aload_n 0, 1) := by decide +kernel
theorem d_R_sameRow_15 : decode c_R_sameRow 15 = .ok (.iload_n 2, 1) := by decide +kernel
theorem d_R_sameRow_16 : decode c_R_sameRow 16 = .ok (.iaload, 1) := by decide +kernel
theorem d_R_sameRow_17 : decode c_R_sameRow 17 = .ok (.aload_n 1, 1) := by decide +kernel
theorem d_R_sameRow_18 : decode c_R_sameRow 18 = .ok (.iload_n 2, 1) := by decide +kernel
theorem d_R_sameRow_19 : decode c_R_sameRow 19 = .ok (.iaload, 1) := by decide +kernel
theorem d_R_sameRow_20 : decode c_R_sameRow 20 = .ok (.if_icmp .eq 5, 3) := by decide +kernel
theorem d_R_sameRow_23 : decode c_R_sameRow 23 = .ok (.iconst 0, 1) := by decide +kernel
theorem d_R_sameRow_24 : decode c_R_sameRow 24 = .ok (.ireturn, 1) := by decide +kernel
theorem d_R_sameRow_25 : decode c_R_sameRow 25 = .ok (.iinc 2 1, 3) := by decide +kernel
theorem d_R_sameRow_28 : decode c_R_sameRow 28 = .ok (.goto (-26), 3) := by decide +kernel
theorem d_R_sameRow_31 : decode c_R_sameRow 31 = .ok (.iconst 1, 1) := by decide +kernel
theorem d_R_sameRow_32 : decode c_R_sameRow 32 = .ok (.ireturn, 1) := by decide +kernel
theorem d_V_takeOver_0 : decode c_V_takeOver 0 = .ok (.aload_n 0, 1) := by decide +kernel
theorem d_V_takeOver_1 : decode c_V_takeOver 1 = .ok (.getfield 10, 3) := by decide +kernel
theorem d_V_takeOver_4 : decode c_V_takeOver 4 = .ok (.aload_n 1, 1) := by decide +kernel
theorem d_V_takeOver_5 : decode c_V_takeOver 5 = .ok (.getfield 10, 3) := by decide +kernel
theorem d_V_takeOver_8 : decode c_V_takeOver 8 = .ok (.invokevirtual 33, 3) := by decide +kernel
theorem d_V_takeOver_11 : decode c_V_takeOver 11 = .ok (.aload_n 0, 1) := by decide +kernel
theorem d_V_takeOver_12 : decode c_V_takeOver 12 = .ok (.getfield 19, 3) := by decide +kernel
theorem d_V_takeOver_15 : decode c_V_takeOver 15 = .ok (.aload_n 1, 1) := by decide +kernel
theorem d_V_takeOver_16 : decode c_V_takeOver 16 = .ok (.getfield 19, 3) := by decide +kernel
theorem d_V_takeOver_19 : decode c_V_takeOver 19 = .ok (.invokevirtual 37, 3) := by decide +kernel
theorem d_V_takeOver_22 : decode c_V_takeOver 22 = .ok (.aload_n 0, 1) := by decide +kernel
theorem d_V_takeOver_23 : decode c_V_takeOver 23 = .ok (.aload_n 1, 1) := by decide +kernel
theorem d_V_takeOver_24 : decode c_V_takeOver 24 = .ok (.getfield 23, 3) := by decide +kernel
theorem d_V_takeOver_27 : decode c_V_takeOver 27 = .ok (.putfield 23, 3) := by decide +kernel
theorem d_V_takeOver_30 : decode c_V_takeOver 30 = .ok (.return_, 1) := by decide +kernel
theorem d_R_takeOver_0 : decode c_R_takeOver 0 = .ok (.aload_n 1, 1) := by decide +kernel
theorem d_R_takeOver_1 : decode c_R_takeOver 1 = .ok (.getfield 9, 3) := by decide +kernel
theorem d_R_takeOver_4 : decode c_R_takeOver 4 = .ok (.iconst 0, 1) := by decide +kernel
theorem d_R_takeOver_5 : decode c_R_takeOver 5 = .ok (.aload_n 0, 1) := by decide +kernel
theorem d_R_takeOver_6 : decode c_R_takeOver 6 = .ok (.getfield 9, 3) := by decide +kernel
theorem d_R_takeOver_9 : decode c_R_takeOver 9 = .ok (.iconst 0, 1) := by decide +kernel
theorem d_R_takeOver_10 : decode c_R_takeOver 10 = .ok (.bipush 16, 2) := by decide +kernel
theorem d_R_takeOver_12 : decode c_R_takeOver 12 = .ok (.invokestatic 25, 3) := by decide +kernel
theorem d_R_takeOver_15 : decode c_R_takeOver 15 = .ok (.aload_n 1, 1) := by decide +kernel
theorem d_R_takeOver_16 : decode c_R_takeOver 16 = .ok (.getfield 15, 3) := by decide +kernel
theorem d_R_takeOver_19 : decode c_R_takeOver 19 = .ok (.iconst 0, 1) := by decide +kernel
theorem d_R_takeOver_20 : decode c_R_takeOver 20 = .ok (.aload_n 0, 1) := by decide +kernel
theorem d_R_takeOver_21 : decode c_R_takeOver 21 = .ok (.getfield 15, 3) := by decide +kernel
theorem d_R_takeOver_24 : decode c_R_takeOver 24 = .ok (.iconst 0, 1) := by decide +kernel
theorem d_R_takeOver_25 : decode c_R_takeOver 25 = .ok (.iconst 3, 1) := by decide +kernel
theorem d_R_takeOver_26 : decode c_R_takeOver 26 = .ok (.invokestatic 25, 3) := by decide +kernel
theorem d_R_takeOver_29 : decode c_R_takeOver 29 = .ok (.aload_n 1, 1) := by decide +kernel
theorem d_R_takeOver_30 : decode c_R_takeOver 30 = .ok (.getfield 18, 3) := by decide +kernel
theorem d_R_takeOver_33 : decode c_R_takeOver 33 = .ok (.iconst 0, 1) := by decide +kernel
theorem d_R_takeOver_34 : decode c_R_takeOver 34 = .ok (.aload_n 0, 1) := by decide +kernel
theorem d_R_takeOver_35 : decode c_R_takeOver 35 = .ok (.getfield 18, 3) := by decide +kernel
theorem d_R_takeOver_38 : decode c_R_takeOver 38 = .ok (.iconst 0, 1) := by decide +kernel
theorem d_R_takeOver_39 : decode c_R_takeOver 39 = .ok (.bipush 8, 2) := by decide +kernel
theorem d_R_takeOver_41 : decode c_R_takeOver 41 = .ok (.invokestatic 25, 3) := by decide +kernel
theorem d_R_takeOver_44 : decode c_R_takeOver 44 = .ok (.return_, 1) := by decide +kernel
theorem d_S_takeOver_0 : decode c_S_takeOver 0 = .ok (.aload_n 1, 1) := by decide +kernel
theorem d_S_takeOver_1 : decode c_S_takeOver 1 = .ok (.getfield 9, 3) := by decide +kernel
theorem d_S_takeOver_4 : decode c_S_takeOver 4 = .ok (.iconst 0, 1) := by decide +kernel
theorem d_S_takeOver_5 : decode c_S_takeOver 5 = .ok (.aload_n 0, 1) := by decide +kernel
theorem d_S_takeOver_6 : decode c_S_takeOver 6 = .ok (.getfield 9, 3) := by decide +kernel
theorem d_S_takeOver_9 : decode c_S_takeOver 9 = .ok (.iconst 0, 1) := by decide +kernel
theorem d_S_takeOver_10 : decode c_S_takeOver 10 = .ok (.bipush 6, 2) := by decide +kernel
theorem d_S_takeOver_12 : decode c_S_takeOver 12 = .ok (.invokestatic 23, 3) := by decide +kernel
theorem d_S_takeOver_15 : decode c_S_takeOver 15 = .ok (.aload_n 1, 1) := by decide +kernel
theorem d_S_takeOver_16 : decode c_S_takeOver 16 = .ok (.getfield 15, 3) := by decide +kernel
theorem d_S_takeOver_19 : decode c_S_takeOver 19 = .ok (.iconst 0, 1) := by decide +kernel
theorem d_S_takeOver_20 : decode c_S_takeOver 20 = .ok (.aload_n 0, 1) := by decide +kernel
theorem d_S_takeOver_21 : decode c_S_takeOver 21 = .ok (.getfield 15, 3) := by decide +kernel
theorem d_S_takeOver_24 : decode c_S_takeOver 24 = .ok (.iconst 0, 1) := by decide +kernel
theorem d_S_takeOver_25 : decode c_S_takeOver 25 = .ok (.bipush 6, 2) := by decide +kernel
theorem d_S_takeOver_27 : decode c_S_takeOver 27 = .ok (.invokestatic 23, 3) := by decide +kernel
theorem d_S_takeOver_30 : decode c_S_takeOver 30 = .ok (.aload_n 0, 1) := by decide +kernel
theorem d_S_takeOver_31 : decode c_S_takeOver 31 = .ok (.aload_n 1, 1) := by decide +kernel
theorem d_S_takeOver_32 : decode c_S_takeOver 32 = .ok (.getfield 19, 3) := by decide +kernel
theorem d_S_takeOver_35 : decode c_S_takeOver 35 = .ok (.putfield 19, 3) := by decide +kernel
theorem d_S_takeOver_38 : decode c_S_takeOver 38 = .ok (.return_, 1) := by decide +kernel
theorem d_F_dropAllBut_0 : decode c_F_dropAllBut 0 = .ok (.aload_n 0, 1) := by decide +kernel
theorem d_F_dropAllBut_1 : decode c_F_dropAllBut 1 = .ok (.getfield 22, 3) := by decide +kernel
theorem d_F_dropAllBut_4 : decode c_F_dropAllBut 4 = .ok (.iconst 1, 1) := by decide +kernel
theorem d_F_dropAllBut_5 : decode c_F_dropAllBut 5 = .ok (.isub, 1) := by decide +kernel
theorem d_F_dropAllBut_6 : decode c_F_dropAllBut 6 = .ok (.istore_n 2, 1) := by decide +kernel
theorem d_F_dropAllBut_7 : decode c_F_dropAllBut 7 = .ok (.iload_n 2, 1) := by decide +kernel
theorem d_F_dropAllBut_8 : decode c_F_dropAllBut 8 = .ok (.ifCond .lt 27, 3) := by decide +kernel
theorem d_F_dropAllBut_11 : decode c_F_dropAllBut 11 = .ok (.aload_n 1, 1) := by decide +kernel
theorem d_F_dropAllBut_12 : decode c_F_dropAllBut 12 = .ok (.aload_n 0, 1) := by decide +kernel
theorem d_F_dropAllBut_13 : decode c_F_dropAllBut 13 = .ok (.getfield 9, 3) := by decide +kernel
theorem d_F_dropAllBut_16 : decode c_F_dropAllBut 16 = .ok (.iload_n 2, 1) := by decide +kernel
theorem d_F_dropAllBut_17 : decode c_F_dropAllBut 17 = .ok (.iaload, 1) := by decide +kernel
theorem d_F_dropAllBut_18 : decode c_F_dropAllBut 18 = .ok (.invokevirtual 40, 3) := by decide +kernel
theorem d_F_dropAllBut_21 : decode c_F_dropAllBut 21 = .ok (.ifCond .ne 8, 3) := by decide +kernel
theorem d_F_dropAllBut_24 : decode c_F_dropAllBut 24 = .ok (.aload_n 0, 1) := by decide +kernel
theorem d_F_dropAllBut_25 : decode c_F_dropAllBut 25 = .ok (.iload_n 2, 1) := by decide +kernel
theorem d_F_dropAllBut_26 : decode c_F_dropAllBut 26 = .ok (.invokevirtual 32, 3) := by decide +kernel
theorem d_F_dropAllBut_29 : decode c_F_dropAllBut 29 = .ok (.iinc 2 (-1), 3) := by decide +kernel
theorem d_F_dropAllBut_32 : decode c_F_dropAllBut 32 = .ok (.goto (-25), 3) := by decide +kernel
theorem d_F_dropAllBut_35 : decode c_F_dropAllBut 35 = .ok (.return_, 1) := by decide +kernel
theorem d_S_hasNumber_0 : decode c_S_hasNumber 0 = .ok (.iconst 0, 1) := by decide +kernel
theorem d_S_hasNumber_1 : decode c_S_hasNumber 1 = .ok (.istore_n 2, 1) := by decide +kernel
theorem d_S_hasNumber_2 : decode c_S_hasNumber 2 = .ok (.iload_n 2, 1) := by decide +kernel
theorem d_S_hasNumber_3 : decode c_S_hasNumber 3 = .ok (.aload_n 0, 1) := by decide +kernel
theorem d_S_hasNumber_4 : decode c_S_hasNumber 4 = .ok (.getfield 19, 3) := by decide +kernel
theorem d_S_hasNumber_7 : decode c_S_hasNumber 7 = .ok (.if_icmp .ge 21, 3) := by decide +kernel
theorem d_S_hasNumber_10 : decode c_S_hasNumber 10 = .ok (.aload_n 0, 1) := by decide +kernel
theorem d_S_hasNumber_11 : decode c_S_hasNumber 11 = .ok (.getfield 9, 3) := by decide +kernel
theorem d_S_hasNumber_14 : decode c_S_hasNumber 14 = .ok (.iload_n 2, 1) := by decide +kernel
theorem d_S_hasNumber_15 : decode c_S_hasNumber 15 = .ok (.iaload, 1) := by decide +kernel
theorem d_S_hasNumber_16 : decode c_S_hasNumber 16 = .ok (.iload_n 1, 1) := by decide +kernel
theorem d_S_hasNumber_17 : decode c_S_hasNumber 17 = .ok (.if_icmp .ne 5, 3) := by decide +kernel
theorem d_S_hasNumber_20 : decode c_S_hasNumber 20 = .ok (.iconst 1, 1) := by decide +kernel
theorem d_S_hasNumber_21 : decode c_S_hasNumber 21 = .ok (.ireturn, 1) := by decide +kernel
theorem d_S_hasNumber_22 : decode c_S_hasNumber 22 = .ok (.iinc 2 1, 3) := by decide +kernel
theorem d_S_hasNumber_25 : decode c_S_hasNumber 25 = .ok (.goto (-23), 3) := by decide +kernel
theorem d_S_hasNumber_28 : decode c_S_hasNumber 28 = .ok (.iconst 0, 1) := by decide +kernel
theorem d_S_hasNumber_29 : decode c_S_hasNumber 29 = .ok (.ireturn, 1) := by decide +kernel
theorem d_F_drop_0 : decode c_F_drop 0 = .ok (.iload_n 1, 1) := by decide +kernel
theorem d_F_drop_1 : decode c_F_drop 1 = .ok (.istore_n 2, 1) := by decide +kernel
theorem d_F_drop_2 : decode c_F_drop 2 = .ok (.iload_n 2, 1) := by decide +kernel
theorem d_F_drop_3 : decode c_F_drop 3 = .ok (.aload_n 0, 1) := by decide +kernel
theorem d_F_drop_4 : decode c_F_drop 4 = .ok (.getfield 22, 3) := by decide +kernel
theorem d_F_drop_7 : decode c_F_drop 7 = .ok (.iconst 1, 1) := by decide +kernel
theorem d_F_drop_8 : decode c_F_drop 8 = .ok (.isub, 1) := by decide +kernel
theorem d_F_drop_9 : decode c_F_drop 9 = .ok (.if_icmp .ge 51, 3) := by decide +kernel
theorem d_F_drop_12 : decode c_F_drop 12 = .ok (.aload_n 0, 1) := by decide +kernel
theorem d_F_drop_13 : decode c_F_drop 13 = .ok (.getfield 9, 3) := by decide +kernel
theorem d_F_drop_16 : decode c_F_drop 16 = .ok (.iload_n 2, 1) := by decide +kernel
theorem d_F_drop_17 : decode c_F_drop 17 = .ok (.aload_n 0, 1) := by decide +kernel
theorem d_F_drop_18 : decode c_F_drop 18 = .ok (.getfield 9, 3) := by decide +kernel
theorem d_F_drop_21 : decode c_F_drop 21 = .ok (.iload_n 2, 1) := by decide +kernel
theorem d_F_drop_22 : decode c_F_drop 22 = .ok (.iconst 1, 1) := by decide +kernel
theorem d_F_drop_23 : decode c_F_drop 23 = .ok (.iadd, 1) := by decide +kernel
theorem d_F_drop_24 : decode c_F_drop 24 = .ok (.iaload, 1) := by decide +kernel
theorem d_F_drop_25 : decode c_F_drop 25 = .ok (.iastore, 1) := by decide +kernel
theorem d_F_drop_26 : decode c_F_drop 26 = .ok (.aload_n 0, 1) := by decide +kernel
theorem d_F_drop_27 : decode c_F_drop 27 = .ok (.getfield 15, 3) := by decide +kernel
theorem d_F_drop_30 : decode c_F_drop 30 = .ok (.iload_n 2, 1) := by decide +kernel
theorem d_F_drop_31 : decode c_F_drop 31 = .ok (.aload_n 0, 1) := by decide +kernel
theorem d_F_drop_32 : decode c_F_drop 32 = .ok (.getfield 15, 3) := by decide +kernel
theorem d_F_drop_35 : decode c_F_drop 35 = .ok (.iload_n 2, 1) := by decide +kernel
theorem d_F_drop_36 : decode c_F_drop 36 = .ok (.iconst 1, 1) := by decide +kernel
theorem d_F_drop_37 : decode c_F_drop 37 = .ok (.iadd, 1) := by decide +kernel
theorem d_F_drop_38 : decode c_F_drop 38 = .ok (.iaload, 1) := by decide +kernel
theorem d_F_drop_39 : decode c_F_drop 39 = .ok (.iastore, 1) := by decide +kernel
theorem d_F_drop_40 : decode c_F_drop 40 = .ok (.aload_n 0, 1) := by decide +kernel
theorem d_F_drop_41 : decode c_F_drop 41 = .ok (.getfield 18, 3) := by decide +kernel
theorem d_F_drop_44 : decode c_F_drop 44 = .ok (.iload_n 2, 1) := by decide +kernel
theorem d_F_drop_45 : decode c_F_drop 45 = .ok (.aload_n 0, 1) := by decide +kernel
theorem d_F_drop_46 : decode c_F_drop 46 = .ok (.getfield 18, 3) := by decide +kernel
theorem d_F_drop_49 : decode c_F_drop 49 = .ok (.iload_n 2, 1) := by decide +kernel
theorem d_F_drop_50 : decode c_F_drop 50 = .ok (.iconst 1, 1) := by decide +kernel
theorem d_F_drop_51 : decode c_F_drop 51 = .ok (.iadd, 1) := by decide +kernel
theorem d_F_drop_52 : decode c_F_drop 52 = .ok (.laload, 1) := by decide +kernel
theorem d_F_drop_53 : decode c_F_drop 53 = .ok (.lastore, 1) := by decide +kernel
theorem d_F_drop_54 : decode c_F_drop 54 = .ok (.iinc 2 1, 3) := by decide +kernel
theorem d_F_drop_57 : decode c_F_drop 57 = .ok (.goto (-55), 3) := by decide +kernel
theorem d_F_drop_60 : decode c_F_drop 60 = .ok (.aload_n 0, 1) := by decide +kernel
theorem d_F_drop_61 : decode c_F_drop 61 = .ok (.dup, 1) := by decide +kernel
theorem d_F_drop_62 : decode c_F_drop 62 = .ok (.getfield 22, 3) := by decide +kernel
theorem d_F_drop_65 : decode c_F_drop 65 = .ok (.iconst 1, 1) := by decide +kernel
theorem d_F_drop_66 : decode c_F_drop 66 = .ok (.isub, 1) := by decide +kernel
theorem d_F_drop_67 : decode c_F_drop 67 = .ok (.putfield 22, 3) := by decide +kernel
theorem d_F_drop_70 : decode c_F_drop 70 = .ok (.return_, 1) := by decide +kernel
theorem d_V_livingIds_0 : decode c_V_livingIds 0 = .ok (.aload_n 0, 1) := by decide +kernel
theorem d_V_livingIds_1 : decode c_V_livingIds 1 = .ok (.getfield 19, 3) := by decide +kernel
theorem d_V_livingIds_4 : decode c_V_livingIds 4 = .ok (.invokevirtual 27, 3) := by decide +kernel
theorem d_V_livingIds_7 : decode c_V_livingIds 7 = .ok (.aload_n 0, 1) := by decide +kernel
theorem d_V_livingIds_8 : decode c_V_livingIds 8 = .ok (.getfield 23, 3) := by decide +kernel
theorem d_V_livingIds_11 : decode c_V_livingIds 11 = .ok (.ldc2_w 31, 3) := by decide +kernel
theorem d_V_livingIds_14 : decode c_V_livingIds 14 = .ok (.lxor, 1) := by decide +kernel
theorem d_V_livingIds_15 : decode c_V_livingIds 15 = .ok (.land, 1) := by decide +kernel
theorem d_V_livingIds_16 : decode c_V_livingIds 16 = .ok (.lreturn, 1) := by decide +kernel
theorem d_R_join_0 : decode c_R_join 0 = .ok (.aload_n 0, 1) := by decide +kernel
theorem d_R_join_1 : decode c_R_join 1 = .ok (.getfield 9, 3) := by decide +kernel
theorem d_R_join_4 : decode c_R_join 4 = .ok (.iload_n 1, 1) := by decide +kernel
theorem d_R_join_5 : decode c_R_join 5 = .ok (.iaload, 1) := by decide +kernel
theorem d_R_join_6 : decode c_R_join 6 = .ok (.istore 4, 2) := by decide +kernel
theorem d_R_join_8 : decode c_R_join 8 = .ok (.aload_n 0, 1) := by decide +kernel
theorem d_R_join_9 : decode c_R_join 9 = .ok (.getfield 9, 3) := by decide +kernel
theorem d_R_join_12 : decode c_R_join 12 = .ok (.iload_n 1, 1) := by decide +kernel
theorem d_R_join_13 : decode c_R_join 13 = .ok (.iload_n 3, 1) := by decide +kernel
theorem d_R_join_14 : decode c_R_join 14 = .ok (.ifCond .eq 12, 3) := by decide +kernel
theorem d_R_join_17 : decode c_R_join 17 = .ok (.iload 4, 2) := by decide +kernel
theorem d_R_join_19 : decode c_R_join 19 = .ok (.iconst 1, 1) := by decide +kernel
theorem d_R_join_20 : decode c_R_join 20 = .ok (.iload_n 2, 1) := by decide +kernel
theorem d_R_join_21 : decode c_R_join 21 = .ok (.ishl, 1) := by decide +kernel
theorem d_R_join_22 : decode c_R_join 22 = .ok (.ior, 1) := by decide +kernel
theorem d_R_join_23 : decode c_R_join 23 = .ok (.goto 11, 3) := by decide +kernel
theorem d_R_join_26 : decode c_R_join 26 = .ok (.iload 4, 2) := by decide +kernel
theorem d_R_join_28 : decode c_R_join 28 = .ok (.iconst 1, 1) := by decide +kernel
theorem d_R_join_29 : decode c_R_join 29 = .ok (.iload_n 2, 1) := by decide +kernel
theorem d_R_join_30 : decode c_R_join 30 = .ok (.ishl, 1) := by decide +kernel
theorem d_R_join_31 : decode c_R_join 31 = .ok (.iconst (-1), 1) := by decide +kernel
theorem d_R_join_32 : decode c_R_join 32 = .ok (.ixor, 1) := by decide +kernel
theorem d_R_join_33 : decode c_R_join 33 = .ok (.iand, 1) := by decide +kernel
theorem d_R_join_34 : decode c_R_join 34 = .ok (.iastore, 1) := by decide +kernel
theorem d_R_join_35 : decode c_R_join 35 = .ok (.aload_n 0, 1) := by decide +kernel
theorem d_R_join_36 : decode c_R_join 36 = .ok (.getfield 9, 3) := by decide +kernel
theorem d_R_join_39 : decode c_R_join 39 = .ok (.iload_n 1, 1) := by decide +kernel
theorem d_R_join_40 : decode c_R_join 40 = .ok (.iaload, 1) := by decide +kernel
theorem d_R_join_41 : decode c_R_join 41 = .ok (.iload 4, 2) := by decide +kernel
theorem d_R_join_43 : decode c_R_join 43 = .ok (.if_icmp .eq 7, 3) := by decide +kernel
theorem d_R_join_46 : decode c_R_join 46 = .ok (.iconst 1, 1) := by decide +kernel
theorem d_R_join_47 : decode c_R_join 47 = .ok (.goto 4, 3) := by decide +kernel
theorem d_R_join_50 : decode c_R_join 50 = .ok (.iconst 0, 1) := by decide +kernel
theorem d_R_join_51 : decode c_R_join 51 = .ok (.ireturn, 1) := by decide +kernel
theorem d_D_codePlace_0 : decode c_D_codePlace 0 = .ok (.iload_n 0, 1) := by decide +kernel
theorem d_D_codePlace_1 : decode c_D_codePlace 1 = .ok (.iload_n 1, 1) := by decide +kernel
theorem d_D_codePlace_2 : decode c_D_codePlace 2 = .ok (.invokestatic 28, 3) := by decide +kernel
theorem d_D_codePlace_5 : decode c_D_codePlace 5 = .ok (.bipush 8, 2) := by decide +kernel
theorem d_D_codePlace_7 : decode c_D_codePlace 7 = .ok (.imul, 1) := by decide +kernel
theorem d_D_codePlace_8 : decode c_D_codePlace 8 = .ok (.iload_n 2, 1) := by decide +kernel
theorem d_D_codePlace_9 : decode c_D_codePlace 9 = .ok (.iadd, 1) := by decide +kernel
theorem d_D_codePlace_10 : decode c_D_codePlace 10 = .ok (.ireturn, 1) := by decide +kernel
theorem d_D_valuePlace_0 : decode c_D_valuePlace 0 = .ok (.iload_n 0, 1) := by decide +kernel
theorem d_D_valuePlace_1 : decode c_D_valuePlace 1 = .ok (.iconst 3, 1) := by decide +kernel
theorem d_D_valuePlace_2 : decode c_D_valuePlace 2 = .ok (.imul, 1) := by decide +kernel
theorem d_D_valuePlace_3 : decode c_D_valuePlace 3 = .ok (.iload_n 1, 1) := by decide +kernel
theorem d_D_valuePlace_4 : decode c_D_valuePlace 4 = .ok (.iadd, 1) := by decide +kernel
theorem d_D_valuePlace_5 : decode c_D_valuePlace 5 = .ok (.ireturn, 1) := by decide +kernel
theorem d_D_finishDraft_0 : decode c_D_finishDraft 0 = .ok (.aload_n 0, 1) := by decide +kernel
theorem d_D_finishDraft_1 : decode c_D_finishDraft 1 = .ok (.getfield 24, 3) := by decide +kernel
theorem d_D_finishDraft_4 : decode c_D_finishDraft 4 = .ok (.istore_n 2, 1) := by decide +kernel
theorem d_D_finishDraft_5 : decode c_D_finishDraft 5 = .ok (.iload_n 1, 1) := by decide +kernel
theorem d_D_finishDraft_6 : decode c_D_finishDraft 6 = .ok (.iconst (-1), 1) := by decide +kernel
theorem d_D_finishDraft_7 : decode c_D_finishDraft 7 = .ok (.if_icmp .eq 39, 3) := by decide +kernel
theorem d_D_finishDraft_10 : decode c_D_finishDraft 10 = .ok (.aload_n 0, 1) := by decide +kernel
theorem d_D_finishDraft_11 : decode c_D_finishDraft 11 = .ok (.getfield 21, 3) := by decide +kernel
theorem d_D_finishDraft_14 : decode c_D_finishDraft 14 = .ok (.iload_n 2, 1) := by decide +kernel
theorem d_D_finishDraft_15 : decode c_D_finishDraft 15 = .ok (.dup2, 1) := by decide +kernel
theorem d_D_finishDraft_16 : decode c_D_finishDraft 16 = .ok (.iaload, 1) := by decide +kernel
theorem d_D_finishDraft_17 : decode c_D_finishDraft 17 = .ok (.aload_n 0, 1) := by decide +kernel
theorem d_D_finishDraft_18 : decode c_D_finishDraft 18 = .ok (.getfield 21, 3) := by decide +kernel
theorem d_D_finishDraft_21 : decode c_D_finishDraft 21 = .ok (.iload_n 1, 1) := by decide +kernel
theorem d_D_finishDraft_22 : decode c_D_finishDraft 22 = .ok (.iaload, 1) := by decide +kernel
theorem d_D_finishDraft_23 : decode c_D_finishDraft 23 = .ok (.ior, 1) := by decide +kernel
theorem d_D_finishDraft_24 : decode c_D_finishDraft 24 = .ok (.iastore, 1) := by decide +kernel
theorem d_D_finishDraft_25 : decode c_D_finishDraft 25 = .ok (.aload_n 0, 1) := by decide +kernel
theorem d_D_finishDraft_26 : decode c_D_finishDraft 26 = .ok (.getfield 18, 3) := by decide +kernel
theorem d_D_finishDraft_29 : decode c_D_finishDraft 29 = .ok (.iload_n 2, 1) := by decide +kernel
theorem d_D_finishDraft_30 : decode c_D_finishDraft 30 = .ok (.iaload, 1) := by decide +kernel
theorem d_D_finishDraft_31 : decode c_D_finishDraft 31 = .ok (.ifCond .ne 15, 3) := by decide +kernel
theorem d_D_finishDraft_34 : decode c_D_finishDraft 34 = .ok (.aload_n 0, 1) := by decide +kernel
theorem d_D_finishDraft_35 : decode c_D_finishDraft 35 = .ok (.getfield 18, 3) := by decide +kernel
theorem d_D_finishDraft_38 : decode c_D_finishDraft 38 = .ok (.iload_n 2, 1) := by decide +kernel
theorem d_D_finishDraft_39 : decode c_D_finishDraft 39 = .ok (.aload_n 0, 1) := by decide +kernel
theorem d_D_finishDraft_40 : decode c_D_finishDraft 40 = .ok (.getfield 18, 3) := by decide +kernel
theorem d_D_finishDraft_43 : decode c_D_finishDraft 43 = .ok (.iload_n 1, 1) := by decide +kernel
theorem d_D_finishDraft_44 : decode c_D_finishDraft 44 = .ok (.iaload, 1) := by decide +kernel
theorem d_D_finishDraft_45 : decode c_D_finishDraft 45 = .ok (.iastore, 1) := by decide +kernel
theorem d_D_finishDraft_46 : decode c_D_finishDraft 46 = .ok (.aload_n 0, 1) := by decide +kernel
theorem d_D_finishDraft_47 : decode c_D_finishDraft 47 = .ok (.dup, 1) := by decide +kernel
theorem d_D_finishDraft_48 : decode c_D_finishDraft 48 = .ok (.getfield 24, 3) := by decide +kernel
theorem d_D_finishDraft_51 : decode c_D_finishDraft 51 = .ok (.iconst 1, 1) := by decide +kernel
theorem d_D_finishDraft_52 : decode c_D_finishDraft 52 = .ok (.iadd, 1) := by decide +kernel
theorem d_D_finishDraft_53 : decode c_D_finishDraft 53 = .ok (.putfield 24, 3) := by decide +kernel
theorem d_D_finishDraft_56 : decode c_D_finishDraft 56 = .ok (.iload_n 2, 1) := by decide +kernel
theorem d_D_finishDraft_57 : decode c_D_finishDraft 57 = .ok (.ireturn, 1) := by decide +kernel
theorem d_Q_insert_0 : decode c_Q_insert 0 = .ok (.aload_n 0, 1) := by decide +kernel
theorem d_Q_insert_1 : decode c_Q_insert 1 = .ok (.getfield 33, 3) := by decide +kernel
theorem d_Q_insert_4 : decode c_Q_insert 4 = .ok (.istore 5, 2) := by decide +kernel
theorem d_Q_insert_6 : decode c_Q_insert 6 = .ok (.iload 5, 2) := by decide +kernel
theorem d_Q_insert_8 : decode c_Q_insert 8 = .ok (.ifCond .le 32, 3) := by decide +kernel
theorem d_Q_insert_11 : decode c_Q_insert 11 = .ok (.aload_n 0, 1) := by decide +kernel
theorem d_Q_insert_12 : decode c_Q_insert 12 = .ok (.iload 5, 2) := by decide +kernel
theorem d_Q_insert_14 : decode c_Q_insert 14 = .ok (.iconst 1, 1) := by decide +kernel
theorem d_Q_insert_15 : decode c_Q_insert 15 = .ok (.isub, 1) := by decide +kernel
theorem d_Q_insert_16 : decode c_Q_insert 16 = .ok (.iload_n 2, 1) := by decide +kernel
theorem d_Q_insert_17 : decode c_Q_insert 17 = .ok (.iload_n 3, 1) := by decide +kernel
theorem d_Q_insert_18 : decode c_Q_insert 18 = .ok (.invokevirtual 37, 3) := by decide +kernel
theorem d_Q_insert_21 : decode c_Q_insert 21 = .ok (.ifCond .eq 19, 3) := by decide +kernel
theorem d_Q_insert_24 : decode c_Q_insert 24 = .ok (.aload_n 0, 1) := by decide +kernel
theorem d_Q_insert_25 : decode c_Q_insert 25 = .ok (.iload 5, 2) := by decide +kernel
theorem d_Q_insert_27 : decode c_Q_insert 27 = .ok (.iconst 1, 1) := by decide +kernel
theorem d_Q_insert_28 : decode c_Q_insert 28 = .ok (.isub, 1) := by decide +kernel
theorem d_Q_insert_29 : decode c_Q_insert 29 = .ok (.iload 5, 2) := by decide +kernel
theorem d_Q_insert_31 : decode c_Q_insert 31 = .ok (.invokevirtual 41, 3) := by decide +kernel
theorem d_Q_insert_34 : decode c_Q_insert 34 = .ok (.iinc 5 (-1), 3) := by decide +kernel
theorem d_Q_insert_37 : decode c_Q_insert 37 = .ok (.goto (-31), 3) := by decide +kernel
theorem d_Q_insert_40 : decode c_Q_insert 40 = .ok (.aload_n 0, 1) := by decide +kernel
theorem d_Q_insert_41 : decode c_Q_insert 41 = .ok (.getfield 9, 3) := by decide +kernel
theorem d_Q_insert_44 : decode c_Q_insert 44 = .ok (.iload 5, 2) := by decide +kernel
theorem d_Q_insert_46 : decode c_Q_insert 46 = .ok (.iload_n 1, 1) := by decide +kernel
theorem d_Q_insert_47 : decode c_Q_insert 47 = .ok (.iastore, 1) := by decide +kernel
theorem d_Q_insert_48 : decode c_Q_insert 48 = .ok (.aload_n 0, 1) := by decide +kernel
theorem d_Q_insert_49 : decode c_Q_insert 49 = .ok (.getfield 15, 3) := by decide +kernel
theorem d_Q_insert_52 : decode c_Q_insert 52 = .ok (.iload 5, 2) := by decide +kernel
theorem d_Q_insert_54 : decode c_Q_insert 54 = .ok (.iload_n 2, 1) := by decide +kernel
theorem d_Q_insert_55 : decode c_Q_insert 55 = .ok (.iastore, 1) := by decide +kernel
theorem d_Q_insert_56 : decode c_Q_insert 56 = .ok (.aload_n 0, 1) := by decide +kernel
theorem d_Q_insert_57 : decode c_Q_insert 57 = .ok (.getfield 18, 3) := by decide +kernel
theorem d_Q_insert_60 : decode c_Q_insert 60 = .ok (.iload 5, 2) := by decide +kernel
theorem d_Q_insert_62 : decode c_Q_insert 62 = .ok (.iload_n 3, 1) := by decide +kernel
theorem d_Q_insert_63 : decode c_Q_insert 63 = .ok (.iastore, 1) := by decide +kernel
theorem d_Q_insert_64 : decode c_Q_insert 64 = .ok (.aload_n 0, 1) := by decide +kernel
theorem d_Q_insert_65 : decode c_Q_insert 65 = .ok (.getfield 21, 3) := by decide +kernel
theorem d_Q_insert_68 : decode c_Q_insert 68 = .ok (.iload 5, 2) := by decide +kernel
theorem d_Q_insert_70 : decode c_Q_insert 70 = .ok (.fload 4, 2) := by decide +kernel
theorem d_Q_insert_72 : decode c_Q_insert 72 = .ok (.fastore, 1) := by decide +kernel
theorem d_Q_insert_73 : decode c_Q_insert 73 = .ok (.aload_n 0, 1) := by decide +kernel
theorem d_Q_insert_74 : decode c_Q_insert 74 = .ok (.dup, 1) := by decide +kernel
theorem d_Q_insert_75 : decode c_Q_insert 75 = .ok (.getfield 33, 3) := by decide +kernel
theorem d_Q_insert_78 : decode c_Q_insert 78 = .ok (.iconst 1, 1) := by decide +kernel
theorem d_Q_insert_79 : decode c_Q_insert 79 = .ok (.iadd, 1) := by decide +kernel
theorem d_Q_insert_80 : decode c_Q_insert 80 = .ok (.putfield 33, 3) := by decide +kernel
theorem d_Q_insert_83 : decode c_Q_insert 83 = .ok (.return_, 1) := by decide +kernel
theorem d_Q_comesLater_0 : decode c_Q_comesLater 0 = .ok (.aload_n 0, 1) := by decide +kernel
theorem d_Q_comesLater_1 : decode c_Q_comesLater 1 = .ok (.getfield 15, 3) := by decide +kernel
theorem d_Q_comesLater_4 : decode c_Q_comesLater 4 = .ok (.iload_n 1, 1) := by decide +kernel
theorem d_Q_comesLater_5 : decode c_Q_comesLater 5 = .ok (.iaload, 1) := by decide +kernel
theorem d_Q_comesLater_6 : decode c_Q_comesLater 6 = .ok (.iload_n 2, 1) := by decide +kernel
theorem d_Q_comesLater_7 : decode c_Q_comesLater 7 = .ok (.if_icmp .gt 23, 3) := by decide +kernel
theorem d_Q_comesLater_10 : decode c_Q_comesLater 10 = .ok (.aload_n 0, 1) := by decide +kernel
theorem d_Q_comesLater_11 : decode c_Q_comesLater 11 = .ok (.getfield 15, 3) := by decide +kernel
theorem d_Q_comesLater_14 : decode c_Q_comesLater 14 = .ok (.iload_n 1, 1) := by decide +kernel
theorem d_Q_comesLater_15 : decode c_Q_comesLater 15 = .ok (.iaload, 1) := by decide +kernel
theorem d_Q_comesLater_16 : decode c_Q_comesLater 16 = .ok (.iload_n 2, 1) := by decide +kernel
theorem d_Q_comesLater_17 : decode c_Q_comesLater 17 = .ok (.if_icmp .ne 17, 3) := by decide +kernel
theorem d_Q_comesLater_20 : decode c_Q_comesLater 20 = .ok (.aload_n 0, 1) := by decide +kernel
theorem d_Q_comesLater_21 : decode c_Q_comesLater 21 = .ok (.getfield 18, 3) := by decide +kernel
theorem d_Q_comesLater_24 : decode c_Q_comesLater 24 = .ok (.iload_n 1, 1) := by decide +kernel
theorem d_Q_comesLater_25 : decode c_Q_comesLater 25 = .ok (.iaload, 1) := by decide +kernel
theorem d_Q_comesLater_26 : decode c_Q_comesLater 26 = .ok (.iload_n 3, 1) := by decide +kernel
theorem d_Q_comesLater_27 : decode c_Q_comesLater 27 = .ok (.if_icmp .le 7, 3) := by decide +kernel
theorem d_Q_comesLater_30 : decode c_Q_comesLater 30 = .ok (.iconst 1, 1) := by decide +kernel
theorem d_Q_comesLater_31 : decode c_Q_comesLater 31 = .ok (.goto 4, 3) := by decide +kernel
theorem d_Q_comesLater_34 : decode c_Q_comesLater 34 = .ok (.iconst 0, 1) := by decide +kernel
theorem d_Q_comesLater_35 : decode c_Q_comesLater 35 = .ok (.ireturn, 1) := by decide +kernel
theorem d_Q_move_0 : decode c_Q_move 0 = .ok (.aload_n 0, 1) := by decide +kernel
theorem d_Q_move_1 : decode c_Q_move 1 = .ok (.getfield 9, 3) := by decide +kernel
theorem d_Q_move_4 : decode c_Q_move 4 = .ok (.iload_n 2, 1) := by decide +kernel
theorem d_Q_move_5 : decode c_Q_move 5 = .ok (.aload_n 0, 1) := by decide +kernel
theorem d_Q_move_6 : decode c_Q_move 6 = .ok (.getfield 9, 3) := by decide +kernel
theorem d_Q_move_9 : decode c_Q_move 9 = .ok (.iload_n 1, 1) := by decide +kernel
theorem d_Q_move_10 : decode c_Q_move 10 = .ok (.iaload, 1) := by decide +kernel
theorem d_Q_move_11 : decode c_Q_move 11 = .ok (.iastore, 1) := by decide +kernel
theorem d_Q_move_12 : decode c_Q_move 12 = .ok (.aload_n 0, 1) := by decide +kernel
theorem d_Q_move_13 : decode c_Q_move 13 = .ok (.getfield 15, 3) := by decide +kernel
theorem d_Q_move_16 : decode c_Q_move 16 = .ok (.iload_n 2, 1) := by decide +kernel
theorem d_Q_move_17 : decode c_Q_move 17 = .ok (.aload_n 0, 1) := by decide +kernel
theorem d_Q_move_18 : decode c_Q_move 18 = .ok (.getfield 15, 3) := by decide +kernel
theorem d_Q_move_21 : decode c_Q_move 21 = .ok (.iload_n 1, 1) := by decide +kernel
theorem d_Q_move_22 : decode c_Q_move 22 = .ok (.iaload, 1) := by decide +kernel
theorem d_Q_move_23 : decode c_Q_move 23 = .ok (.iastore, 1) := by decide +kernel
theorem d_Q_move_24 : decode c_Q_move 24 = .ok (.aload_n 0, 1) := by decide +kernel
theorem d_Q_move_25 : decode c_Q_move 25 = .ok (.getfield 18, 3) := by decide +kernel
theorem d_Q_move_28 : decode c_Q_move 28 = .ok (.iload_n 2, 1) := by decide +kernel
theorem d_Q_move_29 : decode c_Q_move 29 = .ok (.aload_n 0, 1) := by decide +kernel
theorem d_Q_move_30 : decode c_Q_move 30 = .ok (.getfield 18, 3) := by decide +kernel
theorem d_Q_move_33 : decode c_Q_move 33 = .ok (.iload_n 1, 1) := by decide +kernel
theorem d_Q_move_34 : decode c_Q_move 34 = .ok (.iaload, 1) := by decide +kernel
theorem d_Q_move_35 : decode c_Q_move 35 = .ok (.iastore, 1) := by decide +kernel
theorem d_Q_move_36 : decode c_Q_move 36 = .ok (.aload_n 0, 1) := by decide +kernel
theorem d_Q_move_37 : decode c_Q_move 37 = .ok (.getfield 21, 3) := by decide +kernel
theorem d_Q_move_40 : decode c_Q_move 40 = .ok (.iload_n 2, 1) := by decide +kernel
theorem d_Q_move_41 : decode c_Q_move 41 = .ok (.aload_n 0, 1) := by decide +kernel
theorem d_Q_move_42 : decode c_Q_move 42 = .ok (.getfield 21, 3) := by decide +kernel
theorem d_Q_move_45 : decode c_Q_move 45 = .ok (.iload_n 1, 1) := by decide +kernel
theorem d_Q_move_46 : decode c_Q_move 46 = .ok (.faload, 1) := by decide +kernel
theorem d_Q_move_47 : decode c_Q_move 47 = .ok (.fastore, 1) := by decide +kernel
theorem d_Q_move_48 : decode c_Q_move 48 = .ok (.return_, 1) := by decide +kernel
theorem d_H_restart_0 : decode c_H_restart 0 = .ok (.aload_n 0, 1) := by decide +kernel
theorem d_H_restart_1 : decode c_H_restart 1 = .ok (.iload_n 1, 1) := by decide +kernel
theorem d_H_restart_2 : decode c_H_restart 2 = .ok (.putfield 23, 3) := by decide +kernel
theorem d_H_restart_5 : decode c_H_restart 5 = .ok (.aload_n 0, 1) := by decide +kernel
theorem d_H_restart_6 : decode c_H_restart 6 = .ok (.iconst 0, 1) := by decide +kernel
theorem d_H_restart_7 : decode c_H_restart 7 = .ok (.putfield 19, 3) := by decide +kernel
theorem d_H_restart_10 : decode c_H_restart 10 = .ok (.return_, 1) := by decide +kernel
theorem d_Q_openFor_0 : decode c_Q_openFor 0 = .ok (.aload_n 0, 1) := by decide +kernel
theorem d_Q_openFor_1 : decode c_Q_openFor 1 = .ok (.iconst 0, 1) := by decide +kernel
theorem d_Q_openFor_2 : decode c_Q_openFor 2 = .ok (.putfield 29, 3) := by decide +kernel
theorem d_Q_openFor_5 : decode c_Q_openFor 5 = .ok (.iconst 0, 1) := by decide +kernel
theorem d_Q_openFor_6 : decode c_Q_openFor 6 = .ok (.istore_n 3, 1) := by decide +kernel
theorem d_Q_openFor_7 : decode c_Q_openFor 7 = .ok (.iload_n 3, 1) := by decide +kernel
theorem d_Q_openFor_8 : decode c_Q_openFor 8 = .ok (.aload_n 0, 1) := by decide +kernel
theorem d_Q_openFor_9 : decode c_Q_openFor 9 = .ok (.getfield 33, 3) := by decide +kernel
theorem d_Q_openFor_12 : decode c_Q_openFor 12 = .ok (.if_icmp .ge 50, 3) := by decide +kernel
theorem d_Q_openFor_15 : decode c_Q_openFor 15 = .ok (.aload_n 0, 1) := by decide +kernel
theorem d_Q_openFor_16 : decode c_Q_openFor 16 = .ok (.getfield 25, 3) := by decide +kernel
theorem d_Q_openFor_19 : decode c_Q_openFor 19 = .ok (.iload_n 3, 1) := by decide +kernel
theorem d_Q_openFor_20 : decode c_Q_openFor 20 = .ok (.aload_n 2, 1) := by decide +kernel
theorem d_Q_openFor_21 : decode c_Q_openFor 21 = .ok (.aload_n 0, 1) := by decide +kernel
theorem d_Q_openFor_22 : decode c_Q_openFor 22 = .ok (.getfield 18, 3) := by decide +kernel
theorem d_Q_openFor_25 : decode c_Q_openFor 25 = .ok (.iload_n 3, 1) := by decide +kernel
theorem d_Q_openFor_26 : decode c_Q_openFor 26 = .ok (.iaload, 1) := by decide +kernel
theorem d_Q_openFor_27 : decode c_Q_openFor 27 = .ok (.iload_n 1, 1) := by decide +kernel
theorem d_Q_openFor_28 : decode c_Q_openFor 28 = .ok (.invokevirtual 45, 3) := by decide +kernel
theorem d_Q_openFor_31 : decode c_Q_openFor 31 = .ok (.bastore, 1) := by decide +kernel
theorem d_Q_openFor_32 : decode c_Q_openFor 32 = .ok (.aload_n 0, 1) := by decide +kernel
theorem d_Q_openFor_33 : decode c_Q_openFor 33 = .ok (.getfield 25, 3) := by decide +kernel
theorem d_Q_openFor_36 : decode c_Q_openFor 36 = .ok (.iload_n 3, 1) := by decide +kernel
theorem d_Q_openFor_37 : decode c_Q_openFor 37 = .ok (.baload, 1) := by decide +kernel
theorem d_Q_openFor_38 : decode c_Q_openFor 38 = .ok (.ifCond .ne 18, 3) := by decide +kernel
theorem d_Q_openFor_41 : decode c_Q_openFor 41 = .ok (.aload_n 0, 1) := by decide +kernel
theorem d_Q_openFor_42 : decode c_Q_openFor 42 = .ok (.getfield 9, 3) := by decide +kernel
theorem d_Q_openFor_45 : decode c_Q_openFor 45 = .ok (.iload_n 3, 1) := by decide +kernel
theorem d_Q_openFor_46 : decode c_Q_openFor 46 = .ok (.iaload, 1) := by decide +kernel
theorem d_Q_openFor_47 : decode c_Q_openFor 47 = .ok (.iconst 1, 1) := by decide +kernel
theorem d_Q_openFor_48 : decode c_Q_openFor 48 = .ok (.if_icmp .ne 8, 3) := by decide +kernel
theorem d_Q_openFor_51 : decode c_Q_openFor 51 = .ok (.aload_n 0, 1) := by decide +kernel
theorem d_Q_openFor_52 : decode c_Q_openFor 52 = .ok (.iconst 1, 1) := by decide +kernel
theorem d_Q_openFor_53 : decode c_Q_openFor 53 = .ok (.putfield 29, 3) := by decide +kernel
theorem d_Q_openFor_56 : decode c_Q_openFor 56 = .ok (.iinc 3 1, 3) := by decide +kernel
theorem d_Q_openFor_59 : decode c_Q_openFor 59 = .ok (.goto (-52), 3) := by decide +kernel
theorem d_Q_openFor_62 : decode c_Q_openFor 62 = .ok (.return_, 1) := by decide +kernel
theorem d_R_isOpen_0 : decode c_R_isOpen 0 = .ok (.aload_n 0, 1) := by decide +kernel
theorem d_R_isOpen_1 : decode c_R_isOpen 1 = .ok (.getfield 18, 3) := by decide +kernel
theorem d_R_isOpen_4 : decode c_R_isOpen 4 = .ok (.iload_n 2, 1) := by decide +kernel
theorem d_R_isOpen_5 : decode c_R_isOpen 5 = .ok (.iaload, 1) := by decide +kernel
theorem d_R_isOpen_6 : decode c_R_isOpen 6 = .ok (.aload_n 0, 1) := by decide +kernel
theorem d_R_isOpen_7 : decode c_R_isOpen 7 = .ok (.getfield 15, 3) := by decide +kernel
theorem d_R_isOpen_10 : decode c_R_isOpen 10 = .ok (.iload_n 1, 1) := by decide +kernel
theorem d_R_isOpen_11 : decode c_R_isOpen 11 = .ok (.iaload, 1) := by decide +kernel
theorem d_R_isOpen_12 : decode c_R_isOpen 12 = .ok (.if_icmp .lt 7, 3) := by decide +kernel
theorem d_R_isOpen_15 : decode c_R_isOpen 15 = .ok (.iconst 1, 1) := by decide +kernel
theorem d_R_isOpen_16 : decode c_R_isOpen 16 = .ok (.goto 4, 3) := by decide +kernel
theorem d_R_isOpen_19 : decode c_R_isOpen 19 = .ok (.iconst 0, 1) := by decide +kernel
theorem d_R_isOpen_20 : decode c_R_isOpen 20 = .ok (.ireturn, 1) := by decide +kernel
theorem d_F_placeOf_0 : decode c_F_placeOf 0 = .ok (.iconst 0, 1) := by decide +kernel
theorem d_F_placeOf_1 : decode c_F_placeOf 1 = .ok (.istore_n 3, 1) := by decide +kernel
theorem d_F_placeOf_2 : decode c_F_placeOf 2 = .ok (.iload_n 3, 1) := by decide +kernel
theorem d_F_placeOf_3 : decode c_F_placeOf 3 = .ok (.aload_n 0, 1) := by decide +kernel
theorem d_F_placeOf_4 : decode c_F_placeOf 4 = .ok (.getfield 22, 3) := by decide +kernel
theorem d_F_placeOf_7 : decode c_F_placeOf 7 = .ok (.if_icmp .ge 31, 3) := by decide +kernel
theorem d_F_placeOf_10 : decode c_F_placeOf 10 = .ok (.aload_n 0, 1) := by decide +kernel
theorem d_F_placeOf_11 : decode c_F_placeOf 11 = .ok (.getfield 9, 3) := by decide +kernel
theorem d_F_placeOf_14 : decode c_F_placeOf 14 = .ok (.iload_n 3, 1) := by decide +kernel
theorem d_F_placeOf_15 : decode c_F_placeOf 15 = .ok (.iaload, 1) := by decide +kernel
theorem d_F_placeOf_16 : decode c_F_placeOf 16 = .ok (.iload_n 1, 1) := by decide +kernel
theorem d_F_placeOf_17 : decode c_F_placeOf 17 = .ok (.if_icmp .ne 15, 3) := by decide +kernel
theorem d_F_placeOf_20 : decode c_F_placeOf 20 = .ok (.aload_n 0, 1) := by decide +kernel
theorem d_F_placeOf_21 : decode c_F_placeOf 21 = .ok (.getfield 15, 3) := by decide +kernel
theorem d_F_placeOf_24 : decode c_F_placeOf 24 = .ok (.iload_n 3, 1) := by decide +kernel
theorem d_F_placeOf_25 : decode c_F_placeOf 25 = .ok (.iaload, 1) := by decide +kernel
theorem d_F_placeOf_26 : decode c_F_placeOf 26 = .ok (.iload_n 2, 1) := by decide +kernel
theorem d_F_placeOf_27 : decode c_F_placeOf 27 = .ok (.if_icmp .ne 5, 3) := by decide +kernel
theorem d_F_placeOf_30 : decode c_F_placeOf 30 = .ok (.iload_n 3, 1) := by decide +kernel
theorem d_F_placeOf_31 : decode c_F_placeOf 31 = .ok (.ireturn, 1) := by decide +kernel
theorem d_F_placeOf_32 : decode c_F_placeOf 32 = .ok (.iinc 3 1, 3) := by decide +kernel
theorem d_F_placeOf_35 : decode c_F_placeOf 35 = .ok (.goto (-33), 3) := by decide +kernel
theorem d_F_placeOf_38 : decode c_F_placeOf 38 = .ok (.iconst (-1), 1) := by decide +kernel
theorem d_F_placeOf_39 : decode c_F_placeOf 39 = .ok (.ireturn, 1) := by decide +kernel
theorem d_F_reuse_0 : decode c_F_reuse 0 = .ok (.aload_n 0, 1) := by decide +kernel
theorem d_F_reuse_1 : decode c_F_reuse 1 = .ok (.getfield 9, 3) := by decide +kernel
theorem d_F_reuse_4 : decode c_F_reuse 4 = .ok (.iload_n 1, 1) := by decide +kernel
theorem d_F_reuse_5 : decode c_F_reuse 5 = .ok (.iaload, 1) := by decide +kernel
theorem d_F_reuse_6 : decode c_F_reuse 6 = .ok (.istore_n 2, 1) := by decide +kernel
theorem d_F_reuse_7 : decode c_F_reuse 7 = .ok (.aload_n 0, 1) := by decide +kernel
theorem d_F_reuse_8 : decode c_F_reuse 8 = .ok (.getfield 15, 3) := by decide +kernel
theorem d_F_reuse_11 : decode c_F_reuse 11 = .ok (.iload_n 1, 1) := by decide +kernel
theorem d_F_reuse_12 : decode c_F_reuse 12 = .ok (.iaload, 1) := by decide +kernel
theorem d_F_reuse_13 : decode c_F_reuse 13 = .ok (.istore_n 3, 1) := by decide +kernel
theorem d_F_reuse_14 : decode c_F_reuse 14 = .ok (.aload_n 0, 1) := by decide +kernel
theorem d_F_reuse_15 : decode c_F_reuse 15 = .ok (.getfield 18, 3) := by decide +kernel
theorem d_F_reuse_18 : decode c_F_reuse 18 = .ok (.iload_n 1, 1) := by decide +kernel
theorem d_F_reuse_19 : decode c_F_reuse 19 = .ok (.laload, 1) := by decide +kernel
theorem d_F_reuse_20 : decode c_F_reuse 20 = .ok (.lstore 4, 2) := by decide +kernel
theorem d_F_reuse_22 : decode c_F_reuse 22 = .ok (.aload_n 0, 1) := by decide +kernel
theorem d_F_reuse_23 : decode c_F_reuse 23 = .ok (.iload_n 1, 1) := by decide +kernel
theorem d_F_reuse_24 : decode c_F_reuse 24 = .ok (.invokevirtual 32, 3) := by decide +kernel
theorem d_F_reuse_27 : decode c_F_reuse 27 = .ok (.aload_n 0, 1) := by decide +kernel
theorem d_F_reuse_28 : decode c_F_reuse 28 = .ok (.iload_n 2, 1) := by decide +kernel
theorem d_F_reuse_29 : decode c_F_reuse 29 = .ok (.iload_n 3, 1) := by decide +kernel
theorem d_F_reuse_30 : decode c_F_reuse 30 = .ok (.lload 4, 2) := by decide +kernel
theorem d_F_reuse_32 : decode c_F_reuse 32 = .ok (.invokevirtual 36, 3) := by decide +kernel
theorem d_F_reuse_35 : decode c_F_reuse 35 = .ok (.aload_n 0, 1) := by decide +kernel
theorem d_F_reuse_36 : decode c_F_reuse 36 = .ok (.dup, 1) := by decide +kernel
theorem d_F_reuse_37 : decode c_F_reuse 37 = .ok (.getfield 29, 3) := by decide +kernel
theorem d_F_reuse_40 : decode c_F_reuse 40 = .ok (.iconst 1, 1) := by decide +kernel
theorem d_F_reuse_41 : decode c_F_reuse 41 = .ok (.iadd, 1) := by decide +kernel
theorem d_F_reuse_42 : decode c_F_reuse 42 = .ok (.putfield 29, 3) := by decide +kernel
theorem d_F_reuse_45 : decode c_F_reuse 45 = .ok (.lload 4, 2) := by decide +kernel
theorem d_F_reuse_47 : decode c_F_reuse 47 = .ok (.lreturn, 1) := by decide +kernel
theorem d_F_append_0 : decode c_F_append 0 = .ok (.aload_n 0, 1) := by decide +kernel
theorem d_F_append_1 : decode c_F_append 1 = .ok (.getfield 9, 3) := by decide +kernel
theorem d_F_append_4 : decode c_F_append 4 = .ok (.aload_n 0, 1) := by decide +kernel
theorem d_F_append_5 : decode c_F_append 5 = .ok (.getfield 22, 3) := by decide +kernel
theorem d_F_append_8 : decode c_F_append 8 = .ok (.iload_n 1, 1) := by decide +kernel
theorem d_F_append_9 : decode c_F_append 9 = .ok (.iastore, 1) := by decide +kernel
theorem d_F_append_10 : decode c_F_append 10 = .ok (.aload_n 0, 1) := by decide +kernel
theorem d_F_append_11 : decode c_F_append 11 = .ok (.getfield 15, 3) := by decide +kernel
theorem d_F_append_14 : decode c_F_append 14 = .ok (.aload_n 0, 1) := by decide +kernel
theorem d_F_append_15 : decode c_F_append 15 = .ok (.getfield 22, 3) := by decide +kernel
theorem d_F_append_18 : decode c_F_append 18 = .ok (.iload_n 2, 1) := by decide +kernel
theorem d_F_append_19 : decode c_F_append 19 = .ok (.iastore, 1) := by decide +kernel
theorem d_F_append_20 : decode c_F_append 20 = .ok (.aload_n 0, 1) := by decide +kernel
theorem d_F_append_21 : decode c_F_append 21 = .ok (.getfield 18, 3) := by decide +kernel
theorem d_F_append_24 : decode c_F_append 24 = .ok (.aload_n 0, 1) := by decide +kernel
theorem d_F_append_25 : decode c_F_append 25 = .ok (.getfield 22, 3) := by decide +kernel
theorem d_F_append_28 : decode c_F_append 28 = .ok (.lload_n 3, 1) := by decide +kernel
theorem d_F_append_29 : decode c_F_append 29 = .ok (.lastore, 1) := by decide +kernel
theorem d_F_append_30 : decode c_F_append 30 = .ok (.aload_n 0, 1) := by decide +kernel
theorem d_F_append_31 : decode c_F_append 31 = .ok (.dup, 1) := by decide +kernel
theorem d_F_append_32 : decode c_F_append 32 = .ok (.getfield 22, 3) := by decide +kernel
theorem d_F_append_35 : decode c_F_append 35 = .ok (.iconst 1, 1) := by decide +kernel
theorem d_F_append_36 : decode c_F_append 36 = .ok (.iadd, 1) := by decide +kernel
theorem d_F_append_37 : decode c_F_append 37 = .ok (.putfield 22, 3) := by decide +kernel
theorem d_F_append_40 : decode c_F_append 40 = .ok (.return_, 1) := by decide +kernel
theorem d_R_tokensOf_0 : decode c_R_tokensOf 0 = .ok (.iconst 1, 1) := by decide +kernel
theorem d_R_tokensOf_1 : decode c_R_tokensOf 1 = .ok (.iload_n 1, 1) := by decide +kernel
theorem d_R_tokensOf_2 : decode c_R_tokensOf 2 = .ok (.ishl, 1) := by decide +kernel
theorem d_R_tokensOf_3 : decode c_R_tokensOf 3 = .ok (.istore_n 2, 1) := by decide +kernel
theorem d_R_tokensOf_4 : decode c_R_tokensOf 4 = .ok (.iconst 0, 1) := by decide +kernel
theorem d_R_tokensOf_5 : decode c_R_tokensOf 5 = .ok (.istore_n 3, 1) := by decide +kernel
theorem d_R_tokensOf_6 : decode c_R_tokensOf 6 = .ok (.iload_n 3, 1) := by decide +kernel
theorem d_R_tokensOf_7 : decode c_R_tokensOf 7 = .ok (.bipush 8, 2) := by decide +kernel
theorem d_R_tokensOf_9 : decode c_R_tokensOf 9 = .ok (.if_icmp .ge 44, 3) := by decide +kernel
theorem d_R_tokensOf_12 : decode c_R_tokensOf 12 = .ok (.iconst 0, 1) := by decide +kernel
theorem d_R_tokensOf_13 : decode c_R_tokensOf 13 = .ok (.istore 4, 2) := by decide +kernel
theorem d_R_tokensOf_15 : decode c_R_tokensOf 15 = .ok (.iload 4, 2) := by decide +kernel
theorem d_R_tokensOf_17 : decode c_R_tokensOf 17 = .ok (.bipush 16, 2) := by decide +kernel
theorem d_R_tokensOf_19 : decode c_R_tokensOf 19 = .ok (.if_icmp .ge 28, 3) := by decide +kernel
theorem d_R_tokensOf_22 : decode c_R_tokensOf 22 = .ok (.iload_n 2, 1) := by decide +kernel
theorem d_R_tokensOf_23 : decode c_R_tokensOf 23 = .ok (.iload 4, 2) := by decide +kernel
theorem d_R_tokensOf_25 : decode c_R_tokensOf 25 = .ok (.iushr, 1) := by decide +kernel
theorem d_R_tokensOf_26 : decode c_R_tokensOf 26 = .ok (.iconst 1, 1) := by decide +kernel
theorem d_R_tokensOf_27 : decode c_R_tokensOf 27 = .ok (.iand, 1) := by decide +kernel
theorem d_R_tokensOf_28 : decode c_R_tokensOf 28 = .ok (.ifCond .eq 13, 3) := by decide +kernel
theorem d_R_tokensOf_31 : decode c_R_tokensOf 31 = .ok (.iload_n 2, 1) := by decide +kernel
theorem d_R_tokensOf_32 : decode c_R_tokensOf 32 = .ok (.aload_n 0, 1) := by decide +kernel
theorem d_R_tokensOf_33 : decode c_R_tokensOf 33 = .ok (.getfield 9, 3) := by decide +kernel
theorem d_R_tokensOf_36 : decode c_R_tokensOf 36 = .ok (.iload 4, 2) := by decide +kernel
theorem d_R_tokensOf_38 : decode c_R_tokensOf 38 = .ok (.iaload, 1) := by decide +kernel
theorem d_R_tokensOf_39 : decode c_R_tokensOf 39 = .ok (.ior, 1) := by decide +kernel
theorem d_R_tokensOf_40 : decode c_R_tokensOf 40 = .ok (.istore_n 2, 1) := by decide +kernel
theorem d_R_tokensOf_41 : decode c_R_tokensOf 41 = .ok (.iinc 4 1, 3) := by decide +kernel
theorem d_R_tokensOf_44 : decode c_R_tokensOf 44 = .ok (.goto (-29), 3) := by decide +kernel
theorem d_R_tokensOf_47 : decode c_R_tokensOf 47 = .ok (.iinc 3 1, 3) := by decide +kernel
theorem d_R_tokensOf_50 : decode c_R_tokensOf 50 = .ok (.goto (-44), 3) := by decide +kernel
theorem d_R_tokensOf_53 : decode c_R_tokensOf 53 = .ok (.iload_n 2, 1) := by decide +kernel
theorem d_R_tokensOf_54 : decode c_R_tokensOf 54 = .ok (.ireturn, 1) := by decide +kernel
theorem d_D_readableOf_0 : decode c_D_readableOf 0 = .ok (.lconst 0, 1) := by decide +kernel
theorem d_D_readableOf_1 : decode c_D_readableOf 1 = .ok (.lstore 4, 2) := by decide +kernel
theorem d_D_readableOf_3 : decode c_D_readableOf 3 = .ok (.iconst 0, 1) := by decide +kernel
theorem d_D_readableOf_4 : decode c_D_readableOf 4 = .ok (.istore 6, 2) := by decide +kernel
theorem d_D_readableOf_6 : decode c_D_readableOf 6 = .ok (.iload 6, 2) := by decide +kernel
theorem d_D_readableOf_8 : decode c_D_readableOf 8 = .ok (.aload_n 0, 1) := by decide +kernel
theorem d_D_readableOf_9 : decode c_D_readableOf 9 = .ok (.getfield 24, 3) := by decide +kernel
theorem d_D_readableOf_12 : decode c_D_readableOf 12 = .ok (.if_icmp .ge 37, 3) := by decide +kernel
theorem d_D_readableOf_15 : decode c_D_readableOf 15 = .ok (.lload_n 1, 1) := by decide +kernel
theorem d_D_readableOf_16 : decode c_D_readableOf 16 = .ok (.iload 6, 2) := by decide +kernel
theorem d_D_readableOf_18 : decode c_D_readableOf 18 = .ok (.invokestatic 32, 3) := by decide +kernel
theorem d_D_readableOf_21 : decode c_D_readableOf 21 = .ok (.ifCond .eq 22, 3) := by decide +kernel
theorem d_D_readableOf_24 : decode c_D_readableOf 24 = .ok (.aload_n 0, 1) := by decide +kernel
theorem d_D_readableOf_25 : decode c_D_readableOf 25 = .ok (.iload 6, 2) := by decide +kernel
theorem d_D_readableOf_27 : decode c_D_readableOf 27 = .ok (.iload_n 3, 1) := by decide +kernel
theorem d_D_readableOf_28 : decode c_D_readableOf 28 = .ok (.invokevirtual 36, 3) := by decide +kernel
theorem d_D_readableOf_31 : decode c_D_readableOf 31 = .ok (.ifCond .eq 12, 3) := by decide +kernel
theorem d_D_readableOf_34 : decode c_D_readableOf 34 = .ok (.lload 4, 2) := by decide +kernel
theorem d_D_readableOf_36 : decode c_D_readableOf 36 = .ok (.lconst 1, 1) := by decide +kernel
theorem d_D_readableOf_37 : decode c_D_readableOf 37 = .ok (.iload 6, 2) := by decide +kernel
theorem d_D_readableOf_39 : decode c_D_readableOf 39 = .ok (.lshl, 1) := by decide +kernel
theorem d_D_readableOf_40 : decode c_D_readableOf 40 = .ok (.lor, 1) := by decide +kernel
theorem d_D_readableOf_41 : decode c_D_readableOf 41 = .ok (.lstore 4, 2) := by decide +kernel
theorem d_D_readableOf_43 : decode c_D_readableOf 43 = .ok (.iinc 6 1, 3) := by decide +kernel
theorem d_D_readableOf_46 : decode c_D_readableOf 46 = .ok (.goto (-40), 3) := by decide +kernel
theorem d_D_readableOf_49 : decode c_D_readableOf 49 = .ok (.lload 4, 2) := by decide +kernel
theorem d_D_readableOf_51 : decode c_D_readableOf 51 = .ok (.lreturn, 1) := by decide +kernel
theorem d_D_mayRead_0 : decode c_D_mayRead 0 = .ok (.aload_n 0, 1) := by decide +kernel
theorem d_D_mayRead_1 : decode c_D_mayRead 1 = .ok (.getfield 21, 3) := by decide +kernel
theorem d_D_mayRead_4 : decode c_D_mayRead 4 = .ok (.iload_n 1, 1) := by decide +kernel
theorem d_D_mayRead_5 : decode c_D_mayRead 5 = .ok (.iaload, 1) := by decide +kernel
theorem d_D_mayRead_6 : decode c_D_mayRead 6 = .ok (.iload_n 2, 1) := by decide +kernel
theorem d_D_mayRead_7 : decode c_D_mayRead 7 = .ok (.iand, 1) := by decide +kernel
theorem d_D_mayRead_8 : decode c_D_mayRead 8 = .ok (.ifCond .ne 18, 3) := by decide +kernel
theorem d_D_mayRead_11 : decode c_D_mayRead 11 = .ok (.aload_n 0, 1) := by decide +kernel
theorem d_D_mayRead_12 : decode c_D_mayRead 12 = .ok (.getfield 18, 3) := by decide +kernel
theorem d_D_mayRead_15 : decode c_D_mayRead 15 = .ok (.iload_n 1, 1) := by decide +kernel
theorem d_D_mayRead_16 : decode c_D_mayRead 16 = .ok (.iaload, 1) := by decide +kernel
theorem d_D_mayRead_17 : decode c_D_mayRead 17 = .ok (.iload_n 2, 1) := by decide +kernel
theorem d_D_mayRead_18 : decode c_D_mayRead 18 = .ok (.iand, 1) := by decide +kernel
theorem d_D_mayRead_19 : decode c_D_mayRead 19 = .ok (.ifCond .eq 7, 3) := by decide +kernel
theorem d_D_mayRead_22 : decode c_D_mayRead 22 = .ok (.iconst 1, 1) := by decide +kernel
theorem d_D_mayRead_23 : decode c_D_mayRead 23 = .ok (.goto 4, 3) := by decide +kernel
theorem d_D_mayRead_26 : decode c_D_mayRead 26 = .ok (.iconst 0, 1) := by decide +kernel
theorem d_D_mayRead_27 : decode c_D_mayRead 27 = .ok (.ireturn, 1) := by decide +kernel
theorem d_F_keepNew_0 : decode c_F_keepNew 0 = .ok (.aload_n 0, 1) := by decide +kernel
theorem d_F_keepNew_1 : decode c_F_keepNew 1 = .ok (.getfield 22, 3) := by decide +kernel
theorem d_F_keepNew_4 : decode c_F_keepNew 4 = .ok (.iconst 5, 1) := by decide +kernel
theorem d_F_keepNew_5 : decode c_F_keepNew 5 = .ok (.if_icmp .ne 8, 3) := by decide +kernel
theorem d_F_keepNew_8 : decode c_F_keepNew 8 = .ok (.aload_n 0, 1) := by decide +kernel
theorem d_F_keepNew_9 : decode c_F_keepNew 9 = .ok (.iconst 0, 1) := by decide +kernel
theorem d_F_keepNew_10 : decode c_F_keepNew 10 = .ok (.invokevirtual 32, 3) := by decide +kernel
theorem d_F_keepNew_13 : decode c_F_keepNew 13 = .ok (.aload_n 0, 1) := by decide +kernel
theorem d_F_keepNew_14 : decode c_F_keepNew 14 = .ok (.iload_n 1, 1) := by decide +kernel
theorem d_F_keepNew_15 : decode c_F_keepNew 15 = .ok (.iload_n 2, 1) := by decide +kernel
theorem d_F_keepNew_16 : decode c_F_keepNew 16 = .ok (.lload_n 3, 1) := by decide +kernel
theorem d_F_keepNew_17 : decode c_F_keepNew 17 = .ok (.invokevirtual 36, 3) := by decide +kernel
theorem d_F_keepNew_20 : decode c_F_keepNew 20 = .ok (.aload_n 0, 1) := by decide +kernel
theorem d_F_keepNew_21 : decode c_F_keepNew 21 = .ok (.dup, 1) := by decide +kernel
theorem d_F_keepNew_22 : decode c_F_keepNew 22 = .ok (.getfield 26, 3) := by decide +kernel
theorem d_F_keepNew_25 : decode c_F_keepNew 25 = .ok (.iconst 1, 1) := by decide +kernel
theorem d_F_keepNew_26 : decode c_F_keepNew 26 = .ok (.iadd, 1) := by decide +kernel
theorem d_F_keepNew_27 : decode c_F_keepNew 27 = .ok (.putfield 26, 3) := by decide +kernel
theorem d_F_keepNew_30 : decode c_F_keepNew 30 = .ok (.return_, 1) := by decide +kernel
theorem d_Q_scoreOf_0 : decode c_Q_scoreOf 0 = .ok (.fconst 0, 1) := by decide +kernel
theorem d_Q_scoreOf_1 : decode c_Q_scoreOf 1 = .ok (.fstore 4, 2) := by decide +kernel
theorem d_Q_scoreOf_3 : decode c_Q_scoreOf 3 = .ok (.iconst 0, 1) := by decide +kernel
theorem d_Q_scoreOf_4 : decode c_Q_scoreOf 4 = .ok (.istore 5, 2) := by decide +kernel
theorem d_Q_scoreOf_6 : decode c_Q_scoreOf 6 = .ok (.iload 5, 2) := by decide +kernel
theorem d_Q_scoreOf_8 : decode c_Q_scoreOf 8 = .ok (.aload_n 0, 1) := by decide +kernel
theorem d_Q_scoreOf_9 : decode c_Q_scoreOf 9 = .ok (.getfield 33, 3) := by decide +kernel
theorem d_Q_scoreOf_12 : decode c_Q_scoreOf 12 = .ok (.if_icmp .ge 69, 3) := by decide +kernel
theorem d_Q_scoreOf_15 : decode c_Q_scoreOf 15 = .ok (.aload_n 0, 1) := by decide +kernel
theorem d_Q_scoreOf_16 : decode c_Q_scoreOf 16 = .ok (.getfield 25, 3) := by decide +kernel
theorem d_Q_scoreOf_19 : decode c_Q_scoreOf 19 = .ok (.iload 5, 2) := by decide +kernel
theorem d_Q_scoreOf_21 : decode c_Q_scoreOf 21 = .ok (.baload, 1) := by decide +kernel
theorem d_Q_scoreOf_22 : decode c_Q_scoreOf 22 = .ok (.ifCond .eq 53, 3) := by decide +kernel
theorem d_Q_scoreOf_25 : decode c_Q_scoreOf 25 = .ok (.aload_n 0, 1) := by decide +kernel
theorem d_Q_scoreOf_26 : decode c_Q_scoreOf 26 = .ok (.getfield 9, 3) := by decide +kernel
theorem d_Q_scoreOf_29 : decode c_Q_scoreOf 29 = .ok (.iload 5, 2) := by decide +kernel
theorem d_Q_scoreOf_31 : decode c_Q_scoreOf 31 = .ok (.iaload, 1) := by decide +kernel
theorem d_Q_scoreOf_32 : decode c_Q_scoreOf 32 = .ok (.ifCond .ne 43, 3) := by decide +kernel
theorem d_Q_scoreOf_35 : decode c_Q_scoreOf 35 = .ok (.aload_n 3, 1) := by decide +kernel
theorem d_Q_scoreOf_36 : decode c_Q_scoreOf 36 = .ok (.lload_n 1, 1) := by decide +kernel
theorem d_Q_scoreOf_37 : decode c_Q_scoreOf 37 = .ok (.aload_n 0, 1) := by decide +kernel
theorem d_Q_scoreOf_38 : decode c_Q_scoreOf 38 = .ok (.getfield 18, 3) := by decide +kernel
theorem d_Q_scoreOf_41 : decode c_Q_scoreOf 41 = .ok (.iload 5, 2) := by decide +kernel
theorem d_Q_scoreOf_43 : decode c_Q_scoreOf 43 = .ok (.iaload, 1) := by decide +kernel
theorem d_Q_scoreOf_44 : decode c_Q_scoreOf 44 = .ok (.aload_n 0, 1) := by decide +kernel
theorem d_Q_scoreOf_45 : decode c_Q_scoreOf 45 = .ok (.getfield 15, 3) := by decide +kernel
theorem d_Q_scoreOf_48 : decode c_Q_scoreOf 48 = .ok (.iload 5, 2) := by decide +kernel
theorem d_Q_scoreOf_50 : decode c_Q_scoreOf 50 = .ok (.iaload, 1) := by decide +kernel
theorem d_Q_scoreOf_51 : decode c_Q_scoreOf 51 = .ok (.invokevirtual 60, 3) := by decide +kernel
theorem d_Q_scoreOf_54 : decode c_Q_scoreOf 54 = .ok (.i2f, 1) := by decide +kernel
theorem d_Q_scoreOf_55 : decode c_Q_scoreOf 55 = .ok (.ldc 64, 2) := by decide +kernel
theorem d_Q_scoreOf_57 : decode c_Q_scoreOf 57 = .ok (.fdiv, 1) := by decide +kernel
theorem d_Q_scoreOf_58 : decode c_Q_scoreOf 58 = .ok (.fstore 6, 2) := by decide +kernel
theorem d_Q_scoreOf_60 : decode c_Q_scoreOf 60 = .ok (.fload 4, 2) := by decide +kernel
theorem d_Q_scoreOf_62 : decode c_Q_scoreOf 62 = .ok (.aload_n 0, 1) := by decide +kernel
theorem d_Q_scoreOf_63 : decode c_Q_scoreOf 63 = .ok (.getfield 21, 3) := by decide +kernel
theorem d_Q_scoreOf_66 : decode c_Q_scoreOf 66 = .ok (.iload 5, 2) := by decide +kernel
theorem d_Q_scoreOf_68 : decode c_Q_scoreOf 68 = .ok (.faload, 1) := by decide +kernel
theorem d_Q_scoreOf_69 : decode c_Q_scoreOf 69 = .ok (.fload 6, 2) := by decide +kernel
theorem d_Q_scoreOf_71 : decode c_Q_scoreOf 71 = .ok (.fmul, 1) := by decide +kernel
theorem d_Q_scoreOf_72 : decode c_Q_scoreOf 72 = .ok (.fadd, 1) := by decide +kernel
theorem d_Q_scoreOf_73 : decode c_Q_scoreOf 73 = .ok (.fstore 4, 2) := by decide +kernel
theorem d_Q_scoreOf_75 : decode c_Q_scoreOf 75 = .ok (.iinc 5 1, 3) := by decide +kernel
theorem d_Q_scoreOf_78 : decode c_Q_scoreOf 78 = .ok (.goto (-72), 3) := by decide +kernel
theorem d_Q_scoreOf_81 : decode c_Q_scoreOf 81 = .ok (.fload 4, 2) := by decide +kernel
theorem d_Q_scoreOf_83 : decode c_Q_scoreOf 83 = .ok (.freturn, 1) := by decide +kernel
theorem d_D_greatestCode_0 : decode c_D_greatestCode 0 = .ok (.iconst 0, 1) := by decide +kernel
theorem d_D_greatestCode_1 : decode c_D_greatestCode 1 = .ok (.istore 5, 2) := by decide +kernel
theorem d_D_greatestCode_3 : decode c_D_greatestCode 3 = .ok (.lload_n 1, 1) := by decide +kernel
theorem d_D_greatestCode_4 : decode c_D_greatestCode 4 = .ok (.lstore 6, 2) := by decide +kernel
theorem d_D_greatestCode_6 : decode c_D_greatestCode 6 = .ok (.iconst 0, 1) := by decide +kernel
theorem d_D_greatestCode_7 : decode c_D_greatestCode 7 = .ok (.istore 8, 2) := by decide +kernel
theorem d_D_greatestCode_9 : decode c_D_greatestCode 9 = .ok (.iload 8, 2) := by decide +kernel
theorem d_D_greatestCode_11 : decode c_D_greatestCode 11 = .ok (.iconst 4, 1) := by decide +kernel
theorem d_D_greatestCode_12 : decode c_D_greatestCode 12 = .ok (.if_icmp .ge 48, 3) := by decide +kernel
theorem d_D_greatestCode_15 : decode c_D_greatestCode 15 = .ok (.lload 6, 2) := by decide +kernel
theorem d_D_greatestCode_17 : decode c_D_greatestCode 17 = .ok (.lconst 0, 1) := by decide +kernel
theorem d_D_greatestCode_18 : decode c_D_greatestCode 18 = .ok (.lcmp, 1) := by decide +kernel
theorem d_D_greatestCode_19 : decode c_D_greatestCode 19 = .ok (.ifCond .eq 41, 3) := by decide +kernel
theorem d_D_greatestCode_22 : decode c_D_greatestCode 22 = .ok (.iload 5, 2) := by decide +kernel
theorem d_D_greatestCode_24 : decode c_D_greatestCode 24 = .ok (.aload_n 0, 1) := by decide +kernel
theorem d_D_greatestCode_25 : decode c_D_greatestCode 25 = .ok (.getfield 9, 3) := by decide +kernel
theorem d_D_greatestCode_28 : decode c_D_greatestCode 28 = .ok (.lload 6, 2) := by decide +kernel
theorem d_D_greatestCode_30 : decode c_D_greatestCode 30 = .ok (.invokestatic 40, 3) := by decide +kernel
theorem d_D_greatestCode_33 : decode c_D_greatestCode 33 = .ok (.iload_n 3, 1) := by decide +kernel
theorem d_D_greatestCode_34 : decode c_D_greatestCode 34 = .ok (.iload 4, 2) := by decide +kernel
theorem d_D_greatestCode_36 : decode c_D_greatestCode 36 = .ok (.invokestatic 44, 3) := by decide +kernel
theorem d_D_greatestCode_39 : decode c_D_greatestCode 39 = .ok (.iaload, 1) := by decide +kernel
theorem d_D_greatestCode_40 : decode c_D_greatestCode 40 = .ok (.invokestatic 48, 3) := by decide +kernel
theorem d_D_greatestCode_43 : decode c_D_greatestCode 43 = .ok (.istore 5, 2) := by decide +kernel
theorem d_D_greatestCode_45 : decode c_D_greatestCode 45 = .ok (.lload 6, 2) := by decide +kernel
theorem d_D_greatestCode_47 : decode c_D_greatestCode 47 = .ok (.lload 6, 2) := by decide +kernel
theorem d_D_greatestCode_49 : decode c_D_greatestCode 49 = .ok (.lconst 1, 1) := by decide +kernel
theorem d_D_greatestCode_50 : decode c_D_greatestCode 50 = .ok (.lsub, 1) := by decide +kernel
theorem d_D_greatestCode_51 : decode c_D_greatestCode 51 = .ok (.land, 1) := by decide +kernel
theorem d_D_greatestCode_52 : decode c_D_greatestCode 52 = .ok (.lstore 6, 2) := by decide +kernel
theorem d_D_greatestCode_54 : decode c_D_greatestCode 54 = .ok (.iinc 8 1, 3) := by decide +kernel
theorem d_D_greatestCode_57 : decode c_D_greatestCode 57 = .ok (.goto (-48), 3) := by decide +kernel
theorem d_D_greatestCode_60 : decode c_D_greatestCode 60 = .ok (.iload 5, 2) := by decide +kernel
theorem d_D_greatestCode_62 : decode c_D_greatestCode 62 = .ok (.ireturn, 1) := by decide +kernel
theorem d_H_lastScore_0 : decode c_H_lastScore 0 = .ok (.aload_n 0, 1) := by decide +kernel
theorem d_H_lastScore_1 : decode c_H_lastScore 1 = .ok (.getfield 19, 3) := by decide +kernel
theorem d_H_lastScore_4 : decode c_H_lastScore 4 = .ok (.ifCond .le 17, 3) := by decide +kernel
theorem d_H_lastScore_7 : decode c_H_lastScore 7 = .ok (.aload_n 0, 1) := by decide +kernel
theorem d_H_lastScore_8 : decode c_H_lastScore 8 = .ok (.getfield 15, 3) := by decide +kernel
theorem d_H_lastScore_11 : decode c_H_lastScore 11 = .ok (.aload_n 0, 1) := by decide +kernel
theorem d_H_lastScore_12 : decode c_H_lastScore 12 = .ok (.getfield 19, 3) := by decide +kernel
theorem d_H_lastScore_15 : decode c_H_lastScore 15 = .ok (.iconst 1, 1) := by decide +kernel
theorem d_H_lastScore_16 : decode c_H_lastScore 16 = .ok (.isub, 1) := by decide +kernel
theorem d_H_lastScore_17 : decode c_H_lastScore 17 = .ok (.faload, 1) := by decide +kernel
theorem d_H_lastScore_18 : decode c_H_lastScore 18 = .ok (.goto 4, 3) := by decide +kernel
theorem d_H_lastScore_21 : decode c_H_lastScore 21 = .ok (.fconst 0, 1) := by decide +kernel
theorem d_H_lastScore_22 : decode c_H_lastScore 22 = .ok (.freturn, 1) := by decide +kernel
theorem d_Q_finds_0 : decode c_Q_finds 0 = .ok (.iconst 0, 1) := by decide +kernel
theorem d_Q_finds_1 : decode c_Q_finds 1 = .ok (.istore_n 3, 1) := by decide +kernel
theorem d_Q_finds_2 : decode c_Q_finds 2 = .ok (.iconst 0, 1) := by decide +kernel
theorem d_Q_finds_3 : decode c_Q_finds 3 = .ok (.istore 4, 2) := by decide +kernel
theorem d_Q_finds_5 : decode c_Q_finds 5 = .ok (.iload 4, 2) := by decide +kernel
theorem d_Q_finds_7 : decode c_Q_finds 7 = .ok (.aload_n 0, 1) := by decide +kernel
theorem d_Q_finds_8 : decode c_Q_finds 8 = .ok (.getfield 33, 3) := by decide +kernel
theorem d_Q_finds_11 : decode c_Q_finds 11 = .ok (.if_icmp .ge 113, 3) := by decide +kernel
theorem d_Q_finds_14 : decode c_Q_finds 14 = .ok (.aload_n 2, 1) := by decide +kernel
theorem d_Q_finds_15 : decode c_Q_finds 15 = .ok (.getfield 51, 3) := by decide +kernel
theorem d_Q_finds_18 : decode c_Q_finds 18 = .ok (.iload_n 1, 1) := by decide +kernel
theorem d_Q_finds_19 : decode c_Q_finds 19 = .ok (.aload_n 0, 1) := by decide +kernel
theorem d_Q_finds_20 : decode c_Q_finds 20 = .ok (.getfield 18, 3) := by decide +kernel
theorem d_Q_finds_23 : decode c_Q_finds 23 = .ok (.iload 4, 2) := by decide +kernel
theorem d_Q_finds_25 : decode c_Q_finds 25 = .ok (.iaload, 1) := by decide +kernel
theorem d_Q_finds_26 : decode c_Q_finds 26 = .ok (.aload_n 0, 1) := by decide +kernel
theorem d_Q_finds_27 : decode c_Q_finds 27 = .ok (.getfield 15, 3) := by decide +kernel
theorem d_Q_finds_30 : decode c_Q_finds 30 = .ok (.iload 4, 2) := by decide +kernel
theorem d_Q_finds_32 : decode c_Q_finds 32 = .ok (.iaload, 1) := by decide +kernel
theorem d_Q_finds_33 : decode c_Q_finds 33 = .ok (.invokestatic 56, 3) := by decide +kernel
theorem d_Q_finds_36 : decode c_Q_finds 36 = .ok (.iaload, 1) := by decide +kernel
theorem d_Q_finds_37 : decode c_Q_finds 37 = .ok (.ifCond .le 7, 3) := by decide +kernel
theorem d_Q_finds_40 : decode c_Q_finds 40 = .ok (.iconst 1, 1) := by decide +kernel
theorem d_Q_finds_41 : decode c_Q_finds 41 = .ok (.goto 4, 3) := by decide +kernel
theorem d_Q_finds_44 : decode c_Q_finds 44 = .ok (.iconst 0, 1) := by decide +kernel
theorem d_Q_finds_45 : decode c_Q_finds 45 = .ok (.istore 5, 2) := by decide +kernel
theorem d_Q_finds_47 : decode c_Q_finds 47 = .ok (.aload_n 0, 1) := by decide +kernel
theorem d_Q_finds_48 : decode c_Q_finds 48 = .ok (.getfield 25, 3) := by decide +kernel
theorem d_Q_finds_51 : decode c_Q_finds 51 = .ok (.iload 4, 2) := by decide +kernel
theorem d_Q_finds_53 : decode c_Q_finds 53 = .ok (.baload, 1) := by decide +kernel
theorem d_Q_finds_54 : decode c_Q_finds 54 = .ok (.ifCond .eq 37, 3) := by decide +kernel
theorem d_Q_finds_57 : decode c_Q_finds 57 = .ok (.aload_n 0, 1) := by decide +kernel
theorem d_Q_finds_58 : decode c_Q_finds 58 = .ok (.getfield 9, 3) := by decide +kernel
theorem d_Q_finds_61 : decode c_Q_finds 61 = .ok (.iload 4, 2) := by decide +kernel
theorem d_Q_finds_63 : decode c_Q_finds 63 = .ok (.iaload, 1) := by decide +kernel
theorem d_Q_finds_64 : decode c_Q_finds 64 = .ok (.iconst 1, 1) := by decide +kernel
theorem d_Q_finds_65 : decode c_Q_finds 65 = .ok (.if_icmp .ne 8, 3) := by decide +kernel
theorem d_Q_finds_68 : decode c_Q_finds 68 = .ok (.iload 5, 2) := by decide +kernel
theorem d_Q_finds_70 : decode c_Q_finds 70 = .ok (.ifCond .eq 19, 3) := by decide +kernel
theorem d_Q_finds_73 : decode c_Q_finds 73 = .ok (.aload_n 0, 1) := by decide +kernel
theorem d_Q_finds_74 : decode c_Q_finds 74 = .ok (.getfield 9, 3) := by decide +kernel
theorem d_Q_finds_77 : decode c_Q_finds 77 = .ok (.iload 4, 2) := by decide +kernel
theorem d_Q_finds_79 : decode c_Q_finds 79 = .ok (.iaload, 1) := by decide +kernel
theorem d_Q_finds_80 : decode c_Q_finds 80 = .ok (.iconst 2, 1) := by decide +kernel
theorem d_Q_finds_81 : decode c_Q_finds 81 = .ok (.if_icmp .ne 10, 3) := by decide +kernel
theorem d_Q_finds_84 : decode c_Q_finds 84 = .ok (.iload 5, 2) := by decide +kernel
theorem d_Q_finds_86 : decode c_Q_finds 86 = .ok (.ifCond .eq 5, 3) := by decide +kernel
theorem d_Q_finds_89 : decode c_Q_finds 89 = .ok (.iconst 0, 1) := by decide +kernel
theorem d_Q_finds_90 : decode c_Q_finds 90 = .ok (.ireturn, 1) := by decide +kernel
theorem d_Q_finds_91 : decode c_Q_finds 91 = .ok (.aload_n 0, 1) := by decide +kernel
theorem d_Q_finds_92 : decode c_Q_finds 92 = .ok (.getfield 25, 3) := by decide +kernel
theorem d_Q_finds_95 : decode c_Q_finds 95 = .ok (.iload 4, 2) := by decide +kernel
theorem d_Q_finds_97 : decode c_Q_finds 97 = .ok (.baload, 1) := by decide +kernel
theorem d_Q_finds_98 : decode c_Q_finds 98 = .ok (.ifCond .eq 20, 3) := by decide +kernel
theorem d_Q_finds_101 : decode c_Q_finds 101 = .ok (.aload_n 0, 1) := by decide +kernel
theorem d_Q_finds_102 : decode c_Q_finds 102 = .ok (.getfield 9, 3) := by decide +kernel
theorem d_Q_finds_105 : decode c_Q_finds 105 = .ok (.iload 4, 2) := by decide +kernel
theorem d_Q_finds_107 : decode c_Q_finds 107 = .ok (.iaload, 1) := by decide +kernel
theorem d_Q_finds_108 : decode c_Q_finds 108 = .ok (.ifCond .ne 10, 3) := by decide +kernel
theorem d_Q_finds_111 : decode c_Q_finds 111 = .ok (.iload 5, 2) := by decide +kernel
theorem d_Q_finds_113 : decode c_Q_finds 113 = .ok (.ifCond .eq 5, 3) := by decide +kernel
theorem d_Q_finds_116 : decode c_Q_finds 116 = .ok (.iconst 1, 1) := by decide +kernel
theorem d_Q_finds_117 : decode c_Q_finds 117 = .ok (.istore_n 3, 1) := by decide +kernel
theorem d_Q_finds_118 : decode c_Q_finds 118 = .ok (.iinc 4 1, 3) := by decide +kernel
theorem d_Q_finds_121 : decode c_Q_finds 121 = .ok (.goto (-116), 3) := by decide +kernel
theorem d_Q_finds_124 : decode c_Q_finds 124 = .ok (.iload_n 3, 1) := by decide +kernel
theorem d_Q_finds_125 : decode c_Q_finds 125 = .ok (.ifCond .eq 14, 3) := by decide +kernel
theorem d_Q_finds_128 : decode c_Q_finds 128 = .ok (.aload_n 0, 1) := by decide +kernel
theorem d_Q_finds_129 : decode c_Q_finds 129 = .ok (.getfield 29, 3) := by decide +kernel
theorem d_Q_finds_132 : decode c_Q_finds 132 = .ok (.ifCond .ne 7, 3) := by decide +kernel
theorem d_Q_finds_135 : decode c_Q_finds 135 = .ok (.iconst 1, 1) := by decide +kernel
theorem d_Q_finds_136 : decode c_Q_finds 136 = .ok (.goto 4, 3) := by decide +kernel
theorem d_Q_finds_139 : decode c_Q_finds 139 = .ok (.iconst 0, 1) := by decide +kernel
theorem d_Q_finds_140 : decode c_Q_finds 140 = .ok (.ireturn, 1) := by decide +kernel
theorem d_H_take_0 : decode c_H_take 0 = .ok (.aload_n 0, 1) := by decide +kernel
theorem d_H_take_1 : decode c_H_take 1 = .ok (.getfield 19, 3) := by decide +kernel
theorem d_H_take_4 : decode c_H_take 4 = .ok (.aload_n 0, 1) := by decide +kernel
theorem d_H_take_5 : decode c_H_take 5 = .ok (.getfield 23, 3) := by decide +kernel
theorem d_H_take_8 : decode c_H_take 8 = .ok (.if_icmp .ne 13, 3) := by decide +kernel
theorem d_H_take_11 : decode c_H_take 11 = .ok (.fload_n 2, 1) := by decide +kernel
theorem d_H_take_12 : decode c_H_take 12 = .ok (.aload_n 0, 1) := by decide +kernel
theorem d_H_take_13 : decode c_H_take 13 = .ok (.invokevirtual 26, 3) := by decide +kernel
theorem d_H_take_16 : decode c_H_take 16 = .ok (.fcmp .g, 1) := by decide +kernel
theorem d_H_take_17 : decode c_H_take 17 = .ok (.ifCond .gt 4, 3) := by decide +kernel
theorem d_H_take_20 : decode c_H_take 20 = .ok (.return_, 1) := by decide +kernel
theorem d_H_take_21 : decode c_H_take 21 = .ok (.aload_n 0, 1) := by decide +kernel
theorem d_H_take_22 : decode c_H_take 22 = .ok (.getfield 19, 3) := by decide +kernel
theorem d_H_take_25 : decode c_H_take 25 = .ok (.aload_n 0, 1) := by decide +kernel
theorem d_H_take_26 : decode c_H_take 26 = .ok (.getfield 23, 3) := by decide +kernel
theorem d_H_take_29 : decode c_H_take 29 = .ok (.if_icmp .ge 10, 3) := by decide +kernel
theorem d_H_take_32 : decode c_H_take 32 = .ok (.aload_n 0, 1) := by decide +kernel
theorem d_H_take_33 : decode c_H_take 33 = .ok (.getfield 19, 3) := by decide +kernel
theorem d_H_take_36 : decode c_H_take 36 = .ok (.goto 9, 3) := by decide +kernel
theorem d_H_take_39 : decode c_H_take 39 = .ok (.aload_n 0, 1) := by decide +kernel
theorem d_H_take_40 : decode c_H_take 40 = .ok (.getfield 23, 3) := by decide +kernel
theorem d_H_take_43 : decode c_H_take 43 = .ok (.iconst 1, 1) := by decide +kernel
theorem d_H_take_44 : decode c_H_take 44 = .ok (.isub, 1) := by decide +kernel
theorem d_H_take_45 : decode c_H_take 45 = .ok (.istore_n 3, 1) := by decide +kernel
theorem d_H_take_46 : decode c_H_take 46 = .ok (.iload_n 3, 1) := by decide +kernel
theorem d_H_take_47 : decode c_H_take 47 = .ok (.ifCond .le 50, 3) := by decide +kernel
theorem d_H_take_50 : decode c_H_take 50 = .ok (.aload_n 0, 1) := by decide +kernel
theorem d_H_take_51 : decode c_H_take 51 = .ok (.getfield 15, 3) := by decide +kernel
theorem d_H_take_54 : decode c_H_take 54 = .ok (.iload_n 3, 1) := by decide +kernel
theorem d_H_take_55 : decode c_H_take 55 = .ok (.iconst 1, 1) := by decide +kernel
theorem d_H_take_56 : decode c_H_take 56 = .ok (.isub, 1) := by decide +kernel
theorem d_H_take_57 : decode c_H_take 57 = .ok (.faload, 1) := by decide +kernel
theorem d_H_take_58 : decode c_H_take 58 = .ok (.fload_n 2, 1) := by decide +kernel
theorem d_H_take_59 : decode c_H_take 59 = .ok (.fcmp .g, 1) := by decide +kernel
theorem d_H_take_60 : decode c_H_take 60 = .ok (.ifCond .ge 37, 3) := by decide +kernel
theorem d_H_take_63 : decode c_H_take 63 = .ok (.aload_n 0, 1) := by decide +kernel
theorem d_H_take_64 : decode c_H_take 64 = .ok (.getfield 9, 3) := by decide +kernel
theorem d_H_take_67 : decode c_H_take 67 = .ok (.iload_n 3, 1) := by decide +kernel
theorem d_H_take_68 : decode c_H_take 68 = .ok (.aload_n 0, 1) := by decide +kernel
theorem d_H_take_69 : decode c_H_take 69 = .ok (.getfield 9, 3) := by decide +kernel
theorem d_H_take_72 : decode c_H_take 72 = .ok (.iload_n 3, 1) := by decide +kernel
theorem d_H_take_73 : decode c_H_take 73 = .ok (.iconst 1, 1) := by decide +kernel
theorem d_H_take_74 : decode c_H_take 74 = .ok (.isub, 1) := by decide +kernel
theorem d_H_take_75 : decode c_H_take 75 = .ok (.iaload, 1) := by decide +kernel
theorem d_H_take_76 : decode c_H_take 76 = .ok (.iastore, 1) := by decide +kernel
theorem d_H_take_77 : decode c_H_take 77 = .ok (.aload_n 0, 1) := by decide +kernel
theorem d_H_take_78 : decode c_H_take 78 = .ok (.getfield 15, 3) := by decide +kernel
theorem d_H_take_81 : decode c_H_take 81 = .ok (.iload_n 3, 1) := by decide +kernel
theorem d_H_take_82 : decode c_H_take 82 = .ok (.aload_n 0, 1) := by decide +kernel
theorem d_H_take_83 : decode c_H_take 83 = .ok (.getfield 15, 3) := by decide +kernel
theorem d_H_take_86 : decode c_H_take 86 = .ok (.iload_n 3, 1) := by decide +kernel
theorem d_H_take_87 : decode c_H_take 87 = .ok (.iconst 1, 1) := by decide +kernel
theorem d_H_take_88 : decode c_H_take 88 = .ok (.isub, 1) := by decide +kernel
theorem d_H_take_89 : decode c_H_take 89 = .ok (.faload, 1) := by decide +kernel
theorem d_H_take_90 : decode c_H_take 90 = .ok (.fastore, 1) := by decide +kernel
theorem d_H_take_91 : decode c_H_take 91 = .ok (.iinc 3 (-1), 3) := by decide +kernel
theorem d_H_take_94 : decode c_H_take 94 = .ok (.goto (-48), 3) := by decide +kernel
theorem d_H_take_97 : decode c_H_take 97 = .ok (.aload_n 0, 1) := by decide +kernel
theorem d_H_take_98 : decode c_H_take 98 = .ok (.getfield 9, 3) := by decide +kernel
theorem d_H_take_101 : decode c_H_take 101 = .ok (.iload_n 3, 1) := by decide +kernel
theorem d_H_take_102 : decode c_H_take 102 = .ok (.iload_n 1, 1) := by decide +kernel
theorem d_H_take_103 : decode c_H_take 103 = .ok (.iastore, 1) := by decide +kernel
theorem d_H_take_104 : decode c_H_take 104 = .ok (.aload_n 0, 1) := by decide +kernel
theorem d_H_take_105 : decode c_H_take 105 = .ok (.getfield 15, 3) := by decide +kernel
theorem d_H_take_108 : decode c_H_take 108 = .ok (.iload_n 3, 1) := by decide +kernel
theorem d_H_take_109 : decode c_H_take 109 = .ok (.fload_n 2, 1) := by decide +kernel
theorem d_H_take_110 : decode c_H_take 110 = .ok (.fastore, 1) := by decide +kernel
theorem d_H_take_111 : decode c_H_take 111 = .ok (.aload_n 0, 1) := by decide +kernel
theorem d_H_take_112 : decode c_H_take 112 = .ok (.aload_n 0, 1) := by decide +kernel
theorem d_H_take_113 : decode c_H_take 113 = .ok (.getfield 19, 3) := by decide +kernel
theorem d_H_take_116 : decode c_H_take 116 = .ok (.iconst 1, 1) := by decide +kernel
theorem d_H_take_117 : decode c_H_take 117 = .ok (.iadd, 1) := by decide +kernel
theorem d_H_take_118 : decode c_H_take 118 = .ok (.aload_n 0, 1) := by decide +kernel
theorem d_H_take_119 : decode c_H_take 119 = .ok (.getfield 23, 3) := by decide +kernel
theorem d_H_take_122 : decode c_H_take 122 = .ok (.invokestatic 30, 3) := by decide +kernel
theorem d_H_take_125 : decode c_H_take 125 = .ok (.putfield 19, 3) := by decide +kernel
theorem d_H_take_128 : decode c_H_take 128 = .ok (.return_, 1) := by decide +kernel
end
section
theorem d_X_init_0 : decode c_X_init 0 = .ok (.aload_n 0, 1) := by decide +kernel
theorem d_X_init_1 : decode c_X_init 1 = .ok (.invokespecial 3, 3) := by decide +kernel
theorem d_X_init_4 : decode c_X_init 4 = .ok (.aload_n 0, 1) := by decide +kernel
theorem d_X_init_5 : decode c_X_init 5 = .ok (.new 9, 3) := by decide +kernel
theorem d_X_init_8 : decode c_X_init 8 = .ok (.dup, 1) := by decide +kernel
theorem d_X_init_9 : decode c_X_init 9 = .ok (.invokespecial 11, 3) := by decide +kernel
theorem d_X_init_12 : decode c_X_init 12 = .ok (.putfield 12, 3) := by decide +kernel
theorem d_X_init_15 : decode c_X_init 15 = .ok (.aload_n 0, 1) := by decide +kernel
theorem d_X_init_16 : decode c_X_init 16 = .ok (.new 16, 3) := by decide +kernel
theorem d_X_init_19 : decode c_X_init 19 = .ok (.dup, 1) := by decide +kernel
theorem d_X_init_20 : decode c_X_init 20 = .ok (.invokespecial 18, 3) := by decide +kernel
theorem d_X_init_23 : decode c_X_init 23 = .ok (.putfield 19, 3) := by decide +kernel
theorem d_X_init_26 : decode c_X_init 26 = .ok (.aload_n 0, 1) := by decide +kernel
theorem d_X_init_27 : decode c_X_init 27 = .ok (.new 23, 3) := by decide +kernel
theorem d_X_init_30 : decode c_X_init 30 = .ok (.dup, 1) := by decide +kernel
theorem d_X_init_31 : decode c_X_init 31 = .ok (.invokespecial 25, 3) := by decide +kernel
theorem d_X_init_34 : decode c_X_init 34 = .ok (.putfield 26, 3) := by decide +kernel
theorem d_X_init_37 : decode c_X_init 37 = .ok (.aload_n 0, 1) := by decide +kernel
theorem d_X_init_38 : decode c_X_init 38 = .ok (.new 30, 3) := by decide +kernel
theorem d_X_init_41 : decode c_X_init 41 = .ok (.dup, 1) := by decide +kernel
theorem d_X_init_42 : decode c_X_init 42 = .ok (.invokespecial 32, 3) := by decide +kernel
theorem d_X_init_45 : decode c_X_init 45 = .ok (.putfield 33, 3) := by decide +kernel
theorem d_X_init_48 : decode c_X_init 48 = .ok (.aload_n 0, 1) := by decide +kernel
theorem d_X_init_49 : decode c_X_init 49 = .ok (.new 37, 3) := by decide +kernel
theorem d_X_init_52 : decode c_X_init 52 = .ok (.dup, 1) := by decide +kernel
theorem d_X_init_53 : decode c_X_init 53 = .ok (.invokespecial 39, 3) := by decide +kernel
theorem d_X_init_56 : decode c_X_init 56 = .ok (.putfield 40, 3) := by decide +kernel
theorem d_X_init_59 : decode c_X_init 59 = .ok (.aload_n 0, 1) := by decide +kernel
theorem d_X_init_60 : decode c_X_init 60 = .ok (.new 37, 3) := by decide +kernel
theorem d_X_init_63 : decode c_X_init 63 = .ok (.dup, 1) := by decide +kernel
theorem d_X_init_64 : decode c_X_init 64 = .ok (.invokespecial 39, 3) := by decide +kernel
theorem d_X_init_67 : decode c_X_init 67 = .ok (.putfield 44, 3) := by decide +kernel
theorem d_X_init_70 : decode c_X_init 70 = .ok (.aload_n 0, 1) := by decide +kernel
theorem d_X_init_71 : decode c_X_init 71 = .ok (.lconst 0, 1) := by decide +kernel
theorem d_X_init_72 : decode c_X_init 72 = .ok (.putfield 47, 3) := by decide +kernel
theorem d_X_init_75 : decode c_X_init 75 = .ok (.aload_n 0, 1) := by decide +kernel
theorem d_X_init_76 : decode c_X_init 76 = .ok (.iconst 0, 1) := by decide +kernel
theorem d_X_init_77 : decode c_X_init 77 = .ok (.putfield 51, 3) := by decide +kernel
theorem d_X_init_80 : decode c_X_init 80 = .ok (.aload_n 0, 1) := by decide +kernel
theorem d_X_init_81 : decode c_X_init 81 = .ok (.iconst 0, 1) := by decide +kernel
theorem d_X_init_82 : decode c_X_init 82 = .ok (.putfield 55, 3) := by decide +kernel
theorem d_X_init_85 : decode c_X_init 85 = .ok (.aload_n 0, 1) := by decide +kernel
theorem d_X_init_86 : decode c_X_init 86 = .ok (.iconst 0, 1) := by decide +kernel
theorem d_X_init_87 : decode c_X_init 87 = .ok (.putfield 58, 3) := by decide +kernel
theorem d_X_init_90 : decode c_X_init 90 = .ok (.return_, 1) := by decide +kernel
theorem d_X_merge_0 : decode c_X_merge 0 = .ok (.aload_n 0, 1) := by decide +kernel
theorem d_X_merge_1 : decode c_X_merge 1 = .ok (.getfield 40, 3) := by decide +kernel
theorem d_X_merge_4 : decode c_X_merge 4 = .ok (.getfield 135, 3) := by decide +kernel
theorem d_X_merge_7 : decode c_X_merge 7 = .ok (.invokevirtual 154, 3) := by decide +kernel
theorem d_X_merge_10 : decode c_X_merge 10 = .ok (.lstore_n 1, 1) := by decide +kernel
theorem d_X_merge_11 : decode c_X_merge 11 = .ok (.lload_n 1, 1) := by decide +kernel
theorem d_X_merge_12 : decode c_X_merge 12 = .ok (.aload_n 0, 1) := by decide +kernel
theorem d_X_merge_13 : decode c_X_merge 13 = .ok (.getfield 40, 3) := by decide +kernel
theorem d_X_merge_16 : decode c_X_merge 16 = .ok (.getfield 123, 3) := by decide +kernel
theorem d_X_merge_19 : decode c_X_merge 19 = .ok (.land, 1) := by decide +kernel
theorem d_X_merge_20 : decode c_X_merge 20 = .ok (.lstore_n 3, 1) := by decide +kernel
theorem d_X_merge_21 : decode c_X_merge 21 = .ok (.aload_n 0, 1) := by decide +kernel
theorem d_X_merge_22 : decode c_X_merge 22 = .ok (.getfield 40, 3) := by decide +kernel
theorem d_X_merge_25 : decode c_X_merge 25 = .ok (.getfield 135, 3) := by decide +kernel
theorem d_X_merge_28 : decode c_X_merge 28 = .ok (.getfield 139, 3) := by decide +kernel
theorem d_X_merge_31 : decode c_X_merge 31 = .ok (.iconst 2, 1) := by decide +kernel
theorem d_X_merge_32 : decode c_X_merge 32 = .ok (.if_icmp .ge 11, 3) := by decide +kernel
theorem d_X_merge_35 : decode c_X_merge 35 = .ok (.lload_n 3, 1) := by decide +kernel
theorem d_X_merge_36 : decode c_X_merge 36 = .ok (.lconst 0, 1) := by decide +kernel
theorem d_X_merge_37 : decode c_X_merge 37 = .ok (.lcmp, 1) := by decide +kernel
theorem d_X_merge_38 : decode c_X_merge 38 = .ok (.ifCond .ne 5, 3) := by decide +kernel
theorem d_X_merge_41 : decode c_X_merge 41 = .ok (.iconst 0, 1) := by decide +kernel
theorem d_X_merge_42 : decode c_X_merge 42 = .ok (.ireturn, 1) := by decide +kernel
theorem d_X_merge_43 : decode c_X_merge 43 = .ok (.aload_n 0, 1) := by decide +kernel
theorem d_X_merge_44 : decode c_X_merge 44 = .ok (.getfield 40, 3) := by decide +kernel
theorem d_X_merge_47 : decode c_X_merge 47 = .ok (.getfield 135, 3) := by decide +kernel
theorem d_X_merge_50 : decode c_X_merge 50 = .ok (.iconst 0, 1) := by decide +kernel
theorem d_X_merge_51 : decode c_X_merge 51 = .ok (.putfield 139, 3) := by decide +kernel
theorem d_X_merge_54 : decode c_X_merge 54 = .ok (.aload_n 0, 1) := by decide +kernel
theorem d_X_merge_55 : decode c_X_merge 55 = .ok (.lload_n 1, 1) := by decide +kernel
theorem d_X_merge_56 : decode c_X_merge 56 = .ok (.lload_n 3, 1) := by decide +kernel
theorem d_X_merge_57 : decode c_X_merge 57 = .ok (.ldc2_w 133, 3) := by decide +kernel
theorem d_X_merge_60 : decode c_X_merge 60 = .ok (.lxor, 1) := by decide +kernel
theorem d_X_merge_61 : decode c_X_merge 61 = .ok (.land, 1) := by decide +kernel
theorem d_X_merge_62 : decode c_X_merge 62 = .ok (.invokevirtual 150, 3) := by decide +kernel
theorem d_X_merge_65 : decode c_X_merge 65 = .ok (.lload_n 3, 1) := by decide +kernel
theorem d_X_merge_66 : decode c_X_merge 66 = .ok (.invokestatic 144, 3) := by decide +kernel
theorem d_X_merge_69 : decode c_X_merge 69 = .ok (.ireturn, 1) := by decide +kernel
theorem d_X_appendSegment_0 : decode c_X_appendSegment 0 = .ok (.lload_n 1, 1) := by decide +kernel
theorem d_X_appendSegment_1 : decode c_X_appendSegment 1 = .ok (.lconst 0, 1) := by decide +kernel
theorem d_X_appendSegment_2 : decode c_X_appendSegment 2 = .ok (.lcmp, 1) := by decide +kernel
theorem d_X_appendSegment_3 : decode c_X_appendSegment 3 = .ok (.ifCond .eq 28, 3) := by decide +kernel
theorem d_X_appendSegment_6 : decode c_X_appendSegment 6 = .ok (.aload_n 0, 1) := by decide +kernel
theorem d_X_appendSegment_7 : decode c_X_appendSegment 7 = .ok (.getfield 40, 3) := by decide +kernel
theorem d_X_appendSegment_10 : decode c_X_appendSegment 10 = .ok (.getfield 135, 3) := by decide +kernel
theorem d_X_appendSegment_13 : decode c_X_appendSegment 13 = .ok (.aload_n 0, 1) := by decide +kernel
theorem d_X_appendSegment_14 : decode c_X_appendSegment 14 = .ok (.getfield 51, 3) := by decide +kernel
theorem d_X_appendSegment_17 : decode c_X_appendSegment 17 = .ok (.lload_n 1, 1) := by decide +kernel
theorem d_X_appendSegment_18 : decode c_X_appendSegment 18 = .ok (.invokevirtual 237, 3) := by decide +kernel
theorem d_X_appendSegment_21 : decode c_X_appendSegment 21 = .ok (.aload_n 0, 1) := by decide +kernel
theorem d_X_appendSegment_22 : decode c_X_appendSegment 22 = .ok (.dup, 1) := by decide +kernel
theorem d_X_appendSegment_23 : decode c_X_appendSegment 23 = .ok (.getfield 51, 3) := by decide +kernel
theorem d_X_appendSegment_26 : decode c_X_appendSegment 26 = .ok (.iconst 1, 1) := by decide +kernel
theorem d_X_appendSegment_27 : decode c_X_appendSegment 27 = .ok (.iadd, 1) := by decide +kernel
theorem d_X_appendSegment_28 : decode c_X_appendSegment 28 = .ok (.putfield 51, 3) := by decide +kernel
theorem d_X_appendSegment_31 : decode c_X_appendSegment 31 = .ok (.return_, 1) := by decide +kernel
theorem d_X_refresh_0 : decode c_X_refresh 0 = .ok (.aload_n 0, 1) := by decide +kernel
theorem d_X_refresh_1 : decode c_X_refresh 1 = .ok (.getfield 40, 3) := by decide +kernel
theorem d_X_refresh_4 : decode c_X_refresh 4 = .ok (.getfield 68, 3) := by decide +kernel
theorem d_X_refresh_7 : decode c_X_refresh 7 = .ok (.aload_n 0, 1) := by decide +kernel
theorem d_X_refresh_8 : decode c_X_refresh 8 = .ok (.getfield 44, 3) := by decide +kernel
theorem d_X_refresh_11 : decode c_X_refresh 11 = .ok (.getfield 68, 3) := by decide +kernel
theorem d_X_refresh_14 : decode c_X_refresh 14 = .ok (.invokevirtual 158, 3) := by decide +kernel
theorem d_X_refresh_17 : decode c_X_refresh 17 = .ok (.istore_n 1, 1) := by decide +kernel
theorem d_X_refresh_18 : decode c_X_refresh 18 = .ok (.aload_n 0, 1) := by decide +kernel
theorem d_X_refresh_19 : decode c_X_refresh 19 = .ok (.getfield 44, 3) := by decide +kernel
theorem d_X_refresh_22 : decode c_X_refresh 22 = .ok (.aload_n 0, 1) := by decide +kernel
theorem d_X_refresh_23 : decode c_X_refresh 23 = .ok (.getfield 40, 3) := by decide +kernel
theorem d_X_refresh_26 : decode c_X_refresh 26 = .ok (.invokevirtual 162, 3) := by decide +kernel
theorem d_X_refresh_29 : decode c_X_refresh 29 = .ok (.iload_n 1, 1) := by decide +kernel
theorem d_X_refresh_30 : decode c_X_refresh 30 = .ok (.ifCond .eq 20, 3) := by decide +kernel
theorem d_X_refresh_33 : decode c_X_refresh 33 = .ok (.aload_n 0, 1) := by decide +kernel
theorem d_X_refresh_34 : decode c_X_refresh 34 = .ok (.getfield 19, 3) := by decide +kernel
theorem d_X_refresh_37 : decode c_X_refresh 37 = .ok (.aload_n 0, 1) := by decide +kernel
theorem d_X_refresh_38 : decode c_X_refresh 38 = .ok (.getfield 44, 3) := by decide +kernel
theorem d_X_refresh_41 : decode c_X_refresh 41 = .ok (.getfield 135, 3) := by decide +kernel
theorem d_X_refresh_44 : decode c_X_refresh 44 = .ok (.invokevirtual 166, 3) := by decide +kernel
theorem d_X_refresh_47 : decode c_X_refresh 47 = .ok (.goto 11, 3) := by decide +kernel
theorem d_X_refresh_50 : decode c_X_refresh 50 = .ok (.aload_n 0, 1) := by decide +kernel
theorem d_X_refresh_51 : decode c_X_refresh 51 = .ok (.getfield 19, 3) := by decide +kernel
theorem d_X_refresh_54 : decode c_X_refresh 54 = .ok (.iconst 0, 1) := by decide +kernel
theorem d_X_refresh_55 : decode c_X_refresh 55 = .ok (.putfield 170, 3) := by decide +kernel
theorem d_X_refresh_58 : decode c_X_refresh 58 = .ok (.aload_n 0, 1) := by decide +kernel
theorem d_X_refresh_59 : decode c_X_refresh 59 = .ok (.getfield 44, 3) := by decide +kernel
theorem d_X_refresh_62 : decode c_X_refresh 62 = .ok (.invokevirtual 173, 3) := by decide +kernel
theorem d_X_refresh_65 : decode c_X_refresh 65 = .ok (.invokestatic 144, 3) := by decide +kernel
theorem d_X_refresh_68 : decode c_X_refresh 68 = .ok (.ireturn, 1) := by decide +kernel
theorem d_X_clear_0 : decode c_X_clear 0 = .ok (.aload_n 0, 1) := by decide +kernel
theorem d_X_clear_1 : decode c_X_clear 1 = .ok (.getfield 26, 3) := by decide +kernel
theorem d_X_clear_4 : decode c_X_clear 4 = .ok (.getfield 176, 3) := by decide +kernel
theorem d_X_clear_7 : decode c_X_clear 7 = .ok (.istore_n 1, 1) := by decide +kernel
theorem d_X_clear_8 : decode c_X_clear 8 = .ok (.aload_n 0, 1) := by decide +kernel
theorem d_X_clear_9 : decode c_X_clear 9 = .ok (.getfield 26, 3) := by decide +kernel
theorem d_X_clear_12 : decode c_X_clear 12 = .ok (.iconst 0, 1) := by decide +kernel
theorem d_X_clear_13 : decode c_X_clear 13 = .ok (.putfield 176, 3) := by decide +kernel
theorem d_X_clear_16 : decode c_X_clear 16 = .ok (.iload_n 1, 1) := by decide +kernel
theorem d_X_clear_17 : decode c_X_clear 17 = .ok (.ireturn, 1) := by decide +kernel
theorem d_X_member_0 : decode c_X_member 0 = .ok (.iload_n 1, 1) := by decide +kernel
theorem d_X_member_1 : decode c_X_member 1 = .ok (.bipush 16, 2) := by decide +kernel
theorem d_X_member_3 : decode c_X_member 3 = .ok (.invokestatic 61, 3) := by decide +kernel
theorem d_X_member_6 : decode c_X_member 6 = .ok (.ifCond .eq 23, 3) := by decide +kernel
theorem d_X_member_9 : decode c_X_member 9 = .ok (.iload_n 2, 1) := by decide +kernel
theorem d_X_member_10 : decode c_X_member 10 = .ok (.bipush 16, 2) := by decide +kernel
theorem d_X_member_12 : decode c_X_member 12 = .ok (.invokestatic 61, 3) := by decide +kernel
theorem d_X_member_15 : decode c_X_member 15 = .ok (.ifCond .eq 14, 3) := by decide +kernel
theorem d_X_member_18 : decode c_X_member 18 = .ok (.iload_n 2, 1) := by decide +kernel
theorem d_X_member_19 : decode c_X_member 19 = .ok (.bipush 8, 2) := by decide +kernel
theorem d_X_member_21 : decode c_X_member 21 = .ok (.if_icmp .lt 8, 3) := by decide +kernel
theorem d_X_member_24 : decode c_X_member 24 = .ok (.iload_n 1, 1) := by decide +kernel
theorem d_X_member_25 : decode c_X_member 25 = .ok (.iload_n 2, 1) := by decide +kernel
theorem d_X_member_26 : decode c_X_member 26 = .ok (.if_icmp .ne 11, 3) := by decide +kernel
theorem d_X_member_29 : decode c_X_member 29 = .ok (.new 65, 3) := by decide +kernel
theorem d_X_member_32 : decode c_X_member 32 = .ok (.dup, 1) := by decide +kernel
theorem d_X_member_33 : decode c_X_member 33 = .ok (.invokespecial 67, 3) := by decide +kernel
theorem d_X_member_36 : decode c_X_member 36 = .ok (.athrow, 1) := by decide +kernel
theorem d_X_member_37 : decode c_X_member 37 = .ok (.aload_n 0, 1) := by decide +kernel
theorem d_X_member_38 : decode c_X_member 38 = .ok (.getfield 40, 3) := by decide +kernel
theorem d_X_member_41 : decode c_X_member 41 = .ok (.getfield 68, 3) := by decide +kernel
theorem d_X_member_44 : decode c_X_member 44 = .ok (.iload_n 1, 1) := by decide +kernel
theorem d_X_member_45 : decode c_X_member 45 = .ok (.iload_n 2, 1) := by decide +kernel
theorem d_X_member_46 : decode c_X_member 46 = .ok (.iload_n 3, 1) := by decide +kernel
theorem d_X_member_47 : decode c_X_member 47 = .ok (.invokevirtual 72, 3) := by decide +kernel
theorem d_X_member_50 : decode c_X_member 50 = .ok (.ireturn, 1) := by decide +kernel
theorem d_X_isBelow_0 : decode c_X_isBelow 0 = .ok (.iload_n 0, 1) := by decide +kernel
theorem d_X_isBelow_1 : decode c_X_isBelow 1 = .ok (.ifCond .lt 12, 3) := by decide +kernel
theorem d_X_isBelow_4 : decode c_X_isBelow 4 = .ok (.iload_n 0, 1) := by decide +kernel
theorem d_X_isBelow_5 : decode c_X_isBelow 5 = .ok (.iload_n 1, 1) := by decide +kernel
theorem d_X_isBelow_6 : decode c_X_isBelow 6 = .ok (.if_icmp .ge 7, 3) := by decide +kernel
theorem d_X_isBelow_9 : decode c_X_isBelow 9 = .ok (.iconst 1, 1) := by decide +kernel
theorem d_X_isBelow_10 : decode c_X_isBelow 10 = .ok (.goto 4, 3) := by decide +kernel
theorem d_X_isBelow_13 : decode c_X_isBelow 13 = .ok (.iconst 0, 1) := by decide +kernel
theorem d_X_isBelow_14 : decode c_X_isBelow 14 = .ok (.ireturn, 1) := by decide +kernel
theorem d_X_level_0 : decode c_X_level 0 = .ok (.iload_n 1, 1) := by decide +kernel
theorem d_X_level_1 : decode c_X_level 1 = .ok (.iconst 2, 1) := by decide +kernel
theorem d_X_level_2 : decode c_X_level 2 = .ok (.invokestatic 61, 3) := by decide +kernel
theorem d_X_level_5 : decode c_X_level 5 = .ok (.ifCond .eq 28, 3) := by decide +kernel
theorem d_X_level_8 : decode c_X_level 8 = .ok (.iload_n 2, 1) := by decide +kernel
theorem d_X_level_9 : decode c_X_level 9 = .ok (.iload_n 1, 1) := by decide +kernel
theorem d_X_level_10 : decode c_X_level 10 = .ok (.ifCond .ne 7, 3) := by decide +kernel
theorem d_X_level_13 : decode c_X_level 13 = .ok (.iconst 3, 1) := by decide +kernel
theorem d_X_level_14 : decode c_X_level 14 = .ok (.goto 5, 3) := by decide +kernel
theorem d_X_level_17 : decode c_X_level 17 = .ok (.bipush 8, 2) := by decide +kernel
theorem d_X_level_19 : decode c_X_level 19 = .ok (.invokestatic 61, 3) := by decide +kernel
theorem d_X_level_22 : decode c_X_level 22 = .ok (.ifCond .eq 11, 3) := by decide +kernel
theorem d_X_level_25 : decode c_X_level 25 = .ok (.iload_n 3, 1) := by decide +kernel
theorem d_X_level_26 : decode c_X_level 26 = .ok (.iconst 4, 1) := by decide +kernel
theorem d_X_level_27 : decode c_X_level 27 = .ok (.invokestatic 61, 3) := by decide +kernel
theorem d_X_level_30 : decode c_X_level 30 = .ok (.ifCond .ne 11, 3) := by decide +kernel
theorem d_X_level_33 : decode c_X_level 33 = .ok (.new 65, 3) := by decide +kernel
theorem d_X_level_36 : decode c_X_level 36 = .ok (.dup, 1) := by decide +kernel
theorem d_X_level_37 : decode c_X_level 37 = .ok (.invokespecial 67, 3) := by decide +kernel
theorem d_X_level_40 : decode c_X_level 40 = .ok (.athrow, 1) := by decide +kernel
theorem d_X_level_41 : decode c_X_level 41 = .ok (.iload_n 1, 1) := by decide +kernel
theorem d_X_level_42 : decode c_X_level 42 = .ok (.ifCond .ne 16, 3) := by decide +kernel
theorem d_X_level_45 : decode c_X_level 45 = .ok (.aload_n 0, 1) := by decide +kernel
theorem d_X_level_46 : decode c_X_level 46 = .ok (.getfield 40, 3) := by decide +kernel
theorem d_X_level_49 : decode c_X_level 49 = .ok (.getfield 68, 3) := by decide +kernel
theorem d_X_level_52 : decode c_X_level 52 = .ok (.getfield 78, 3) := by decide +kernel
theorem d_X_level_55 : decode c_X_level 55 = .ok (.goto 13, 3) := by decide +kernel
theorem d_X_level_58 : decode c_X_level 58 = .ok (.aload_n 0, 1) := by decide +kernel
theorem d_X_level_59 : decode c_X_level 59 = .ok (.getfield 40, 3) := by decide +kernel
theorem d_X_level_62 : decode c_X_level 62 = .ok (.getfield 68, 3) := by decide +kernel
theorem d_X_level_65 : decode c_X_level 65 = .ok (.getfield 82, 3) := by decide +kernel
theorem d_X_level_68 : decode c_X_level 68 = .ok (.astore 4, 2) := by decide +kernel
theorem d_X_level_70 : decode c_X_level 70 = .ok (.aload 4, 2) := by decide +kernel
theorem d_X_level_72 : decode c_X_level 72 = .ok (.iload_n 2, 1) := by decide +kernel
theorem d_X_level_73 : decode c_X_level 73 = .ok (.iaload, 1) := by decide +kernel
theorem d_X_level_74 : decode c_X_level 74 = .ok (.istore 5, 2) := by decide +kernel
theorem d_X_level_76 : decode c_X_level 76 = .ok (.aload 4, 2) := by decide +kernel
theorem d_X_level_78 : decode c_X_level 78 = .ok (.iload_n 2, 1) := by decide +kernel
theorem d_X_level_79 : decode c_X_level 79 = .ok (.iload_n 3, 1) := by decide +kernel
theorem d_X_level_80 : decode c_X_level 80 = .ok (.iastore, 1) := by decide +kernel
theorem d_X_level_81 : decode c_X_level 81 = .ok (.iload 5, 2) := by decide +kernel
theorem d_X_level_83 : decode c_X_level 83 = .ok (.ireturn, 1) := by decide +kernel
theorem d_X_weigh_0 : decode c_X_weigh 0 = .ok (.iload_n 1, 1) := by decide +kernel
theorem d_X_weigh_1 : decode c_X_weigh 1 = .ok (.iconst 3, 1) := by decide +kernel
theorem d_X_weigh_2 : decode c_X_weigh 2 = .ok (.invokestatic 61, 3) := by decide +kernel
theorem d_X_weigh_5 : decode c_X_weigh 5 = .ok (.ifCond .eq 19, 3) := by decide +kernel
theorem d_X_weigh_8 : decode c_X_weigh 8 = .ok (.iload_n 2, 1) := by decide +kernel
theorem d_X_weigh_9 : decode c_X_weigh 9 = .ok (.bipush 8, 2) := by decide +kernel
theorem d_X_weigh_11 : decode c_X_weigh 11 = .ok (.invokestatic 61, 3) := by decide +kernel
theorem d_X_weigh_14 : decode c_X_weigh 14 = .ok (.ifCond .eq 10, 3) := by decide +kernel
theorem d_X_weigh_17 : decode c_X_weigh 17 = .ok (.dload_n 3, 1) := by decide +kernel
theorem d_X_weigh_18 : decode c_X_weigh 18 = .ok (.invokestatic 85, 3) := by decide +kernel
theorem d_X_weigh_21 : decode c_X_weigh 21 = .ok (.ifCond .ne 11, 3) := by decide +kernel
theorem d_X_weigh_24 : decode c_X_weigh 24 = .ok (.new 65, 3) := by decide +kernel
theorem d_X_weigh_27 : decode c_X_weigh 27 = .ok (.dup, 1) := by decide +kernel
theorem d_X_weigh_28 : decode c_X_weigh 28 = .ok (.invokespecial 67, 3) := by decide +kernel
theorem d_X_weigh_31 : decode c_X_weigh 31 = .ok (.athrow, 1) := by decide +kernel
theorem d_X_weigh_32 : decode c_X_weigh 32 = .ok (.dload_n 3, 1) := by decide +kernel
theorem d_X_weigh_33 : decode c_X_weigh 33 = .ok (.invokestatic 89, 3) := by decide +kernel
theorem d_X_weigh_36 : decode c_X_weigh 36 = .ok (.istore 5, 2) := by decide +kernel
theorem d_X_weigh_38 : decode c_X_weigh 38 = .ok (.aload_n 0, 1) := by decide +kernel
theorem d_X_weigh_39 : decode c_X_weigh 39 = .ok (.getfield 12, 3) := by decide +kernel
theorem d_X_weigh_42 : decode c_X_weigh 42 = .ok (.getfield 93, 3) := by decide +kernel
theorem d_X_weigh_45 : decode c_X_weigh 45 = .ok (.aload_n 0, 1) := by decide +kernel
theorem d_X_weigh_46 : decode c_X_weigh 46 = .ok (.getfield 12, 3) := by decide +kernel
theorem d_X_weigh_49 : decode c_X_weigh 49 = .ok (.getfield 96, 3) := by decide +kernel
theorem d_X_weigh_52 : decode c_X_weigh 52 = .ok (.iload_n 1, 1) := by decide +kernel
theorem d_X_weigh_53 : decode c_X_weigh 53 = .ok (.iload_n 2, 1) := by decide +kernel
theorem d_X_weigh_54 : decode c_X_weigh 54 = .ok (.invokestatic 99, 3) := by decide +kernel
theorem d_X_weigh_57 : decode c_X_weigh 57 = .ok (.iload 5, 2) := by decide +kernel
theorem d_X_weigh_59 : decode c_X_weigh 59 = .ok (.iastore, 1) := by decide +kernel
theorem d_X_weigh_60 : decode c_X_weigh 60 = .ok (.iload 5, 2) := by decide +kernel
theorem d_X_weigh_62 : decode c_X_weigh 62 = .ok (.ireturn, 1) := by decide +kernel
theorem d_X_isWeight_0 : decode c_X_isWeight 0 = .ok (.dload_n 0, 1) := by decide +kernel
theorem d_X_isWeight_1 : decode c_X_isWeight 1 = .ok (.dconst 0, 1) := by decide +kernel
theorem d_X_isWeight_2 : decode c_X_isWeight 2 = .ok (.dcmp .l, 1) := by decide +kernel
theorem d_X_isWeight_3 : decode c_X_isWeight 3 = .ok (.ifCond .eq 19, 3) := by decide +kernel
theorem d_X_isWeight_6 : decode c_X_isWeight 6 = .ok (.dload_n 0, 1) := by decide +kernel
theorem d_X_isWeight_7 : decode c_X_isWeight 7 = .ok (.ldc2_w 231, 3) := by decide +kernel
theorem d_X_isWeight_10 : decode c_X_isWeight 10 = .ok (.dcmp .l, 1) := by decide +kernel
theorem d_X_isWeight_11 : decode c_X_isWeight 11 = .ok (.ifCond .lt 15, 3) := by decide +kernel
theorem d_X_isWeight_14 : decode c_X_isWeight 14 = .ok (.dload_n 0, 1) := by decide +kernel
theorem d_X_isWeight_15 : decode c_X_isWeight 15 = .ok (.ldc2_w 233, 3) := by decide +kernel
theorem d_X_isWeight_18 : decode c_X_isWeight 18 = .ok (.dcmp .g, 1) := by decide +kernel
theorem d_X_isWeight_19 : decode c_X_isWeight 19 = .ok (.ifCond .gt 7, 3) := by decide +kernel
theorem d_X_isWeight_22 : decode c_X_isWeight 22 = .ok (.iconst 1, 1) := by decide +kernel
theorem d_X_isWeight_23 : decode c_X_isWeight 23 = .ok (.goto 4, 3) := by decide +kernel
theorem d_X_isWeight_26 : decode c_X_isWeight 26 = .ok (.iconst 0, 1) := by decide +kernel
theorem d_X_isWeight_27 : decode c_X_isWeight 27 = .ok (.ireturn, 1) := by decide +kernel
theorem d_X_codeOf_0 : decode c_X_codeOf 0 = .ok (.dload_n 0, 1) := by decide +kernel
theorem d_X_codeOf_1 : decode c_X_codeOf 1 = .ok (.d2f, 1) := by decide +kernel
theorem d_X_codeOf_2 : decode c_X_codeOf 2 = .ok (.ldc 235, 2) := by decide +kernel
theorem d_X_codeOf_4 : decode c_X_codeOf 4 = .ok (.fmul, 1) := by decide +kernel
theorem d_X_codeOf_5 : decode c_X_codeOf 5 = .ok (.ldc 236, 2) := by decide +kernel
theorem d_X_codeOf_7 : decode c_X_codeOf 7 = .ok (.fadd, 1) := by decide +kernel
theorem d_X_codeOf_8 : decode c_X_codeOf 8 = .ok (.f2i, 1) := by decide +kernel
theorem d_X_codeOf_9 : decode c_X_codeOf 9 = .ok (.istore_n 2, 1) := by decide +kernel
theorem d_X_codeOf_10 : decode c_X_codeOf 10 = .ok (.iload_n 2, 1) := by decide +kernel
theorem d_X_codeOf_11 : decode c_X_codeOf 11 = .ok (.sipush 255, 3) := by decide +kernel
theorem d_X_codeOf_14 : decode c_X_codeOf 14 = .ok (.if_icmp .le 9, 3) := by decide +kernel
theorem d_X_codeOf_17 : decode c_X_codeOf 17 = .ok (.sipush 255, 3) := by decide +kernel
theorem d_X_codeOf_20 : decode c_X_codeOf 20 = .ok (.goto 4, 3) := by decide +kernel
theorem d_X_codeOf_23 : decode c_X_codeOf 23 = .ok (.iload_n 2, 1) := by decide +kernel
theorem d_X_codeOf_24 : decode c_X_codeOf 24 = .ok (.ireturn, 1) := by decide +kernel
theorem d_X_put_0 : decode c_X_put 0 = .ok (.iload_n 1, 1) := by decide +kernel
theorem d_X_put_1 : decode c_X_put 1 = .ok (.iconst 3, 1) := by decide +kernel
theorem d_X_put_2 : decode c_X_put 2 = .ok (.invokestatic 61, 3) := by decide +kernel
theorem d_X_put_5 : decode c_X_put 5 = .ok (.ifCond .ne 11, 3) := by decide +kernel
theorem d_X_put_8 : decode c_X_put 8 = .ok (.new 65, 3) := by decide +kernel
theorem d_X_put_11 : decode c_X_put 11 = .ok (.dup, 1) := by decide +kernel
theorem d_X_put_12 : decode c_X_put 12 = .ok (.invokespecial 67, 3) := by decide +kernel
theorem d_X_put_15 : decode c_X_put 15 = .ok (.athrow, 1) := by decide +kernel
theorem d_X_put_16 : decode c_X_put 16 = .ok (.aload_n 0, 1) := by decide +kernel
theorem d_X_put_17 : decode c_X_put 17 = .ok (.getfield 12, 3) := by decide +kernel
theorem d_X_put_20 : decode c_X_put 20 = .ok (.getfield 96, 3) := by decide +kernel
theorem d_X_put_23 : decode c_X_put 23 = .ok (.iload_n 1, 1) := by decide +kernel
theorem d_X_put_24 : decode c_X_put 24 = .ok (.invokestatic 103, 3) := by decide +kernel
theorem d_X_put_27 : decode c_X_put 27 = .ok (.istore_n 3, 1) := by decide +kernel
theorem d_X_put_28 : decode c_X_put 28 = .ok (.aload_n 0, 1) := by decide +kernel
theorem d_X_put_29 : decode c_X_put 29 = .ok (.getfield 12, 3) := by decide +kernel
theorem d_X_put_32 : decode c_X_put 32 = .ok (.getfield 107, 3) := by decide +kernel
theorem d_X_put_35 : decode c_X_put 35 = .ok (.iload_n 3, 1) := by decide +kernel
theorem d_X_put_36 : decode c_X_put 36 = .ok (.iaload, 1) := by decide +kernel
theorem d_X_put_37 : decode c_X_put 37 = .ok (.istore 4, 2) := by decide +kernel
theorem d_X_put_39 : decode c_X_put 39 = .ok (.aload_n 0, 1) := by decide +kernel
theorem d_X_put_40 : decode c_X_put 40 = .ok (.getfield 12, 3) := by decide +kernel
theorem d_X_put_43 : decode c_X_put 43 = .ok (.getfield 107, 3) := by decide +kernel
theorem d_X_put_46 : decode c_X_put 46 = .ok (.iload_n 3, 1) := by decide +kernel
theorem d_X_put_47 : decode c_X_put 47 = .ok (.iload_n 2, 1) := by decide +kernel
theorem d_X_put_48 : decode c_X_put 48 = .ok (.iastore, 1) := by decide +kernel
theorem d_X_put_49 : decode c_X_put 49 = .ok (.iload 4, 2) := by decide +kernel
theorem d_X_put_51 : decode c_X_put 51 = .ok (.ireturn, 1) := by decide +kernel
theorem d_X_rule_0 : decode c_X_rule 0 = .ok (.iload_n 1, 1) := by decide +kernel
theorem d_X_rule_1 : decode c_X_rule 1 = .ok (.bipush 16, 2) := by decide +kernel
theorem d_X_rule_3 : decode c_X_rule 3 = .ok (.invokestatic 61, 3) := by decide +kernel
theorem d_X_rule_6 : decode c_X_rule 6 = .ok (.ifCond .ne 11, 3) := by decide +kernel
theorem d_X_rule_9 : decode c_X_rule 9 = .ok (.new 65, 3) := by decide +kernel
theorem d_X_rule_12 : decode c_X_rule 12 = .ok (.dup, 1) := by decide +kernel
theorem d_X_rule_13 : decode c_X_rule 13 = .ok (.invokespecial 67, 3) := by decide +kernel
theorem d_X_rule_16 : decode c_X_rule 16 = .ok (.athrow, 1) := by decide +kernel
theorem d_X_rule_17 : decode c_X_rule 17 = .ok (.iload_n 2, 1) := by decide +kernel
theorem d_X_rule_18 : decode c_X_rule 18 = .ok (.ifCond .eq 13, 3) := by decide +kernel
theorem d_X_rule_21 : decode c_X_rule 21 = .ok (.aload_n 0, 1) := by decide +kernel
theorem d_X_rule_22 : decode c_X_rule 22 = .ok (.getfield 12, 3) := by decide +kernel
theorem d_X_rule_25 : decode c_X_rule 25 = .ok (.getfield 110, 3) := by decide +kernel
theorem d_X_rule_28 : decode c_X_rule 28 = .ok (.goto 10, 3) := by decide +kernel
theorem d_X_rule_31 : decode c_X_rule 31 = .ok (.aload_n 0, 1) := by decide +kernel
theorem d_X_rule_32 : decode c_X_rule 32 = .ok (.getfield 12, 3) := by decide +kernel
theorem d_X_rule_35 : decode c_X_rule 35 = .ok (.getfield 113, 3) := by decide +kernel
theorem d_X_rule_38 : decode c_X_rule 38 = .ok (.astore_n 3, 1) := by decide +kernel
theorem d_X_rule_39 : decode c_X_rule 39 = .ok (.aload_n 3, 1) := by decide +kernel
theorem d_X_rule_40 : decode c_X_rule 40 = .ok (.aload_n 0, 1) := by decide +kernel
theorem d_X_rule_41 : decode c_X_rule 41 = .ok (.getfield 12, 3) := by decide +kernel
theorem d_X_rule_44 : decode c_X_rule 44 = .ok (.getfield 96, 3) := by decide +kernel
theorem d_X_rule_47 : decode c_X_rule 47 = .ok (.iaload, 1) := by decide +kernel
theorem d_X_rule_48 : decode c_X_rule 48 = .ok (.istore 4, 2) := by decide +kernel
theorem d_X_rule_50 : decode c_X_rule 50 = .ok (.aload_n 3, 1) := by decide +kernel
theorem d_X_rule_51 : decode c_X_rule 51 = .ok (.aload_n 0, 1) := by decide +kernel
theorem d_X_rule_52 : decode c_X_rule 52 = .ok (.getfield 12, 3) := by decide +kernel
theorem d_X_rule_55 : decode c_X_rule 55 = .ok (.getfield 96, 3) := by decide +kernel
theorem d_X_rule_58 : decode c_X_rule 58 = .ok (.iload 4, 2) := by decide +kernel
theorem d_X_rule_60 : decode c_X_rule 60 = .ok (.iconst 1, 1) := by decide +kernel
theorem d_X_rule_61 : decode c_X_rule 61 = .ok (.iload_n 1, 1) := by decide +kernel
theorem d_X_rule_62 : decode c_X_rule 62 = .ok (.ishl, 1) := by decide +kernel
theorem d_X_rule_63 : decode c_X_rule 63 = .ok (.ior, 1) := by decide +kernel
theorem d_X_rule_64 : decode c_X_rule 64 = .ok (.iastore, 1) := by decide +kernel
theorem d_X_rule_65 : decode c_X_rule 65 = .ok (.aload_n 3, 1) := by decide +kernel
theorem d_X_rule_66 : decode c_X_rule 66 = .ok (.aload_n 0, 1) := by decide +kernel
theorem d_X_rule_67 : decode c_X_rule 67 = .ok (.getfield 12, 3) := by decide +kernel
theorem d_X_rule_70 : decode c_X_rule 70 = .ok (.getfield 96, 3) := by decide +kernel
theorem d_X_rule_73 : decode c_X_rule 73 = .ok (.iaload, 1) := by decide +kernel
theorem d_X_rule_74 : decode c_X_rule 74 = .ok (.iload 4, 2) := by decide +kernel
theorem d_X_rule_76 : decode c_X_rule 76 = .ok (.if_icmp .eq 7, 3) := by decide +kernel
theorem d_X_rule_79 : decode c_X_rule 79 = .ok (.iconst 1, 1) := by decide +kernel
theorem d_X_rule_80 : decode c_X_rule 80 = .ok (.goto 4, 3) := by decide +kernel
theorem d_X_rule_83 : decode c_X_rule 83 = .ok (.iconst 0, 1) := by decide +kernel
theorem d_X_rule_84 : decode c_X_rule 84 = .ok (.ireturn, 1) := by decide +kernel
theorem d_X_add_0 : decode c_X_add 0 = .ok (.iload_n 1, 1) := by decide +kernel
theorem d_X_add_1 : decode c_X_add 1 = .ok (.iconst (-1), 1) := by decide +kernel
theorem d_X_add_2 : decode c_X_add 2 = .ok (.if_icmp .eq 25, 3) := by decide +kernel
theorem d_X_add_5 : decode c_X_add 5 = .ok (.iload_n 1, 1) := by decide +kernel
theorem d_X_add_6 : decode c_X_add 6 = .ok (.aload_n 0, 1) := by decide +kernel
theorem d_X_add_7 : decode c_X_add 7 = .ok (.getfield 12, 3) := by decide +kernel
theorem d_X_add_10 : decode c_X_add 10 = .ok (.getfield 96, 3) := by decide +kernel
theorem d_X_add_13 : decode c_X_add 13 = .ok (.invokestatic 61, 3) := by decide +kernel
theorem d_X_add_16 : decode c_X_add 16 = .ok (.ifCond .ne 11, 3) := by decide +kernel
theorem d_X_add_19 : decode c_X_add 19 = .ok (.new 65, 3) := by decide +kernel
theorem d_X_add_22 : decode c_X_add 22 = .ok (.dup, 1) := by decide +kernel
theorem d_X_add_23 : decode c_X_add 23 = .ok (.invokespecial 67, 3) := by decide +kernel
theorem d_X_add_26 : decode c_X_add 26 = .ok (.athrow, 1) := by decide +kernel
theorem d_X_add_27 : decode c_X_add 27 = .ok (.aload_n 0, 1) := by decide +kernel
theorem d_X_add_28 : decode c_X_add 28 = .ok (.getfield 12, 3) := by decide +kernel
theorem d_X_add_31 : decode c_X_add 31 = .ok (.getfield 96, 3) := by decide +kernel
theorem d_X_add_34 : decode c_X_add 34 = .ok (.bipush 40, 2) := by decide +kernel
theorem d_X_add_36 : decode c_X_add 36 = .ok (.if_icmp .lt 11, 3) := by decide +kernel
theorem d_X_add_39 : decode c_X_add 39 = .ok (.new 116, 3) := by decide +kernel
theorem d_X_add_42 : decode c_X_add 42 = .ok (.dup, 1) := by decide +kernel
theorem d_X_add_43 : decode c_X_add 43 = .ok (.invokespecial 118, 3) := by decide +kernel
theorem d_X_add_46 : decode c_X_add 46 = .ok (.athrow, 1) := by decide +kernel
theorem d_X_add_47 : decode c_X_add 47 = .ok (.aload_n 0, 1) := by decide +kernel
theorem d_X_add_48 : decode c_X_add 48 = .ok (.getfield 12, 3) := by decide +kernel
theorem d_X_add_51 : decode c_X_add 51 = .ok (.iload_n 1, 1) := by decide +kernel
theorem d_X_add_52 : decode c_X_add 52 = .ok (.invokevirtual 119, 3) := by decide +kernel
theorem d_X_add_55 : decode c_X_add 55 = .ok (.istore_n 2, 1) := by decide +kernel
theorem d_X_add_56 : decode c_X_add 56 = .ok (.aload_n 0, 1) := by decide +kernel
theorem d_X_add_57 : decode c_X_add 57 = .ok (.dup, 1) := by decide +kernel
theorem d_X_add_58 : decode c_X_add 58 = .ok (.getfield 47, 3) := by decide +kernel
theorem d_X_add_61 : decode c_X_add 61 = .ok (.lconst 1, 1) := by decide +kernel
theorem d_X_add_62 : decode c_X_add 62 = .ok (.iload_n 2, 1) := by decide +kernel
theorem d_X_add_63 : decode c_X_add 63 = .ok (.lshl, 1) := by decide +kernel
theorem d_X_add_64 : decode c_X_add 64 = .ok (.lor, 1) := by decide +kernel
theorem d_X_add_65 : decode c_X_add 65 = .ok (.putfield 47, 3) := by decide +kernel
theorem d_X_add_68 : decode c_X_add 68 = .ok (.iload_n 2, 1) := by decide +kernel
theorem d_X_add_69 : decode c_X_add 69 = .ok (.ireturn, 1) := by decide +kernel
theorem d_X_remove_0 : decode c_X_remove 0 = .ok (.iload_n 1, 1) := by decide +kernel
theorem d_X_remove_1 : decode c_X_remove 1 = .ok (.aload_n 0, 1) := by decide +kernel
theorem d_X_remove_2 : decode c_X_remove 2 = .ok (.getfield 12, 3) := by decide +kernel
theorem d_X_remove_5 : decode c_X_remove 5 = .ok (.getfield 96, 3) := by decide +kernel
theorem d_X_remove_8 : decode c_X_remove 8 = .ok (.invokestatic 61, 3) := by decide +kernel
theorem d_X_remove_11 : decode c_X_remove 11 = .ok (.ifCond .eq 17, 3) := by decide +kernel
theorem d_X_remove_14 : decode c_X_remove 14 = .ok (.aload_n 0, 1) := by decide +kernel
theorem d_X_remove_15 : decode c_X_remove 15 = .ok (.getfield 40, 3) := by decide +kernel
theorem d_X_remove_18 : decode c_X_remove 18 = .ok (.getfield 123, 3) := by decide +kernel
theorem d_X_remove_21 : decode c_X_remove 21 = .ok (.iload_n 1, 1) := by decide +kernel
theorem d_X_remove_22 : decode c_X_remove 22 = .ok (.invokestatic 126, 3) := by decide +kernel
theorem d_X_remove_25 : decode c_X_remove 25 = .ok (.ifCond .eq 11, 3) := by decide +kernel
theorem d_X_remove_28 : decode c_X_remove 28 = .ok (.new 130, 3) := by decide +kernel
theorem d_X_remove_31 : decode c_X_remove 31 = .ok (.dup, 1) := by decide +kernel
theorem d_X_remove_32 : decode c_X_remove 32 = .ok (.invokespecial 132, 3) := by decide +kernel
theorem d_X_remove_35 : decode c_X_remove 35 = .ok (.athrow, 1) := by decide +kernel
theorem d_X_remove_36 : decode c_X_remove 36 = .ok (.aload_n 0, 1) := by decide +kernel
theorem d_X_remove_37 : decode c_X_remove 37 = .ok (.getfield 40, 3) := by decide +kernel
theorem d_X_remove_40 : decode c_X_remove 40 = .ok (.dup, 1) := by decide +kernel
theorem d_X_remove_41 : decode c_X_remove 41 = .ok (.getfield 123, 3) := by decide +kernel
theorem d_X_remove_44 : decode c_X_remove 44 = .ok (.lconst 1, 1) := by decide +kernel
theorem d_X_remove_45 : decode c_X_remove 45 = .ok (.iload_n 1, 1) := by decide +kernel
theorem d_X_remove_46 : decode c_X_remove 46 = .ok (.lshl, 1) := by decide +kernel
theorem d_X_remove_47 : decode c_X_remove 47 = .ok (.lor, 1) := by decide +kernel
theorem d_X_remove_48 : decode c_X_remove 48 = .ok (.putfield 123, 3) := by decide +kernel
theorem d_X_remove_51 : decode c_X_remove 51 = .ok (.aload_n 0, 1) := by decide +kernel
theorem d_X_remove_52 : decode c_X_remove 52 = .ok (.dup, 1) := by decide +kernel
theorem d_X_remove_53 : decode c_X_remove 53 = .ok (.getfield 47, 3) := by decide +kernel
theorem d_X_remove_56 : decode c_X_remove 56 = .ok (.lconst 1, 1) := by decide +kernel
theorem d_X_remove_57 : decode c_X_remove 57 = .ok (.iload_n 1, 1) := by decide +kernel
theorem d_X_remove_58 : decode c_X_remove 58 = .ok (.lshl, 1) := by decide +kernel
theorem d_X_remove_59 : decode c_X_remove 59 = .ok (.ldc2_w 133, 3) := by decide +kernel
theorem d_X_remove_62 : decode c_X_remove 62 = .ok (.lxor, 1) := by decide +kernel
theorem d_X_remove_63 : decode c_X_remove 63 = .ok (.land, 1) := by decide +kernel
theorem d_X_remove_64 : decode c_X_remove 64 = .ok (.putfield 47, 3) := by decide +kernel
theorem d_X_remove_67 : decode c_X_remove 67 = .ok (.return_, 1) := by decide +kernel
theorem d_X_holds_0 : decode c_X_holds 0 = .ok (.lload_n 0, 1) := by decide +kernel
theorem d_X_holds_1 : decode c_X_holds 1 = .ok (.iload_n 2, 1) := by decide +kernel
theorem d_X_holds_2 : decode c_X_holds 2 = .ok (.lushr, 1) := by decide +kernel
theorem d_X_holds_3 : decode c_X_holds 3 = .ok (.lconst 1, 1) := by decide +kernel
theorem d_X_holds_4 : decode c_X_holds 4 = .ok (.land, 1) := by decide +kernel
theorem d_X_holds_5 : decode c_X_holds 5 = .ok (.lconst 0, 1) := by decide +kernel
theorem d_X_holds_6 : decode c_X_holds 6 = .ok (.lcmp, 1) := by decide +kernel
theorem d_X_holds_7 : decode c_X_holds 7 = .ok (.ifCond .eq 7, 3) := by decide +kernel
theorem d_X_holds_10 : decode c_X_holds 10 = .ok (.iconst 1, 1) := by decide +kernel
theorem d_X_holds_11 : decode c_X_holds 11 = .ok (.goto 4, 3) := by decide +kernel
theorem d_X_holds_14 : decode c_X_holds 14 = .ok (.iconst 0, 1) := by decide +kernel
theorem d_X_holds_15 : decode c_X_holds 15 = .ok (.ireturn, 1) := by decide +kernel
theorem d_X_flush_0 : decode c_X_flush 0 = .ok (.aload_n 0, 1) := by decide +kernel
theorem d_X_flush_1 : decode c_X_flush 1 = .ok (.getfield 40, 3) := by decide +kernel
theorem d_X_flush_4 : decode c_X_flush 4 = .ok (.getfield 135, 3) := by decide +kernel
theorem d_X_flush_7 : decode c_X_flush 7 = .ok (.getfield 139, 3) := by decide +kernel
theorem d_X_flush_10 : decode c_X_flush 10 = .ok (.bipush 6, 2) := by decide +kernel
theorem d_X_flush_12 : decode c_X_flush 12 = .ok (.if_icmp .lt 11, 3) := by decide +kernel
theorem d_X_flush_15 : decode c_X_flush 15 = .ok (.new 116, 3) := by decide +kernel
theorem d_X_flush_18 : decode c_X_flush 18 = .ok (.dup, 1) := by decide +kernel
theorem d_X_flush_19 : decode c_X_flush 19 = .ok (.invokespecial 118, 3) := by decide +kernel
theorem d_X_flush_22 : decode c_X_flush 22 = .ok (.athrow, 1) := by decide +kernel
theorem d_X_flush_23 : decode c_X_flush 23 = .ok (.aload_n 0, 1) := by decide +kernel
theorem d_X_flush_24 : decode c_X_flush 24 = .ok (.getfield 47, 3) := by decide +kernel
theorem d_X_flush_27 : decode c_X_flush 27 = .ok (.invokestatic 144, 3) := by decide +kernel
theorem d_X_flush_30 : decode c_X_flush 30 = .ok (.istore_n 1, 1) := by decide +kernel
theorem d_X_flush_31 : decode c_X_flush 31 = .ok (.aload_n 0, 1) := by decide +kernel
theorem d_X_flush_32 : decode c_X_flush 32 = .ok (.aload_n 0, 1) := by decide +kernel
theorem d_X_flush_33 : decode c_X_flush 33 = .ok (.getfield 47, 3) := by decide +kernel
theorem d_X_flush_36 : decode c_X_flush 36 = .ok (.invokevirtual 150, 3) := by decide +kernel
theorem d_X_flush_39 : decode c_X_flush 39 = .ok (.aload_n 0, 1) := by decide +kernel
theorem d_X_flush_40 : decode c_X_flush 40 = .ok (.lconst 0, 1) := by decide +kernel
theorem d_X_flush_41 : decode c_X_flush 41 = .ok (.putfield 47, 3) := by decide +kernel
theorem d_X_flush_44 : decode c_X_flush 44 = .ok (.iload_n 1, 1) := by decide +kernel
theorem d_X_flush_45 : decode c_X_flush 45 = .ok (.ireturn, 1) := by decide +kernel
theorem d_X_clause_0 : decode c_X_clause 0 = .ok (.iload_n 1, 1) := by decide +kernel
theorem d_X_clause_1 : decode c_X_clause 1 = .ok (.iconst 3, 1) := by decide +kernel
theorem d_X_clause_2 : decode c_X_clause 2 = .ok (.invokestatic 61, 3) := by decide +kernel
theorem d_X_clause_5 : decode c_X_clause 5 = .ok (.ifCond .eq 28, 3) := by decide +kernel
theorem d_X_clause_8 : decode c_X_clause 8 = .ok (.iload_n 2, 1) := by decide +kernel
theorem d_X_clause_9 : decode c_X_clause 9 = .ok (.bipush 8, 2) := by decide +kernel
theorem d_X_clause_11 : decode c_X_clause 11 = .ok (.invokestatic 61, 3) := by decide +kernel
theorem d_X_clause_14 : decode c_X_clause 14 = .ok (.ifCond .eq 19, 3) := by decide +kernel
theorem d_X_clause_17 : decode c_X_clause 17 = .ok (.iload_n 3, 1) := by decide +kernel
theorem d_X_clause_18 : decode c_X_clause 18 = .ok (.iconst 3, 1) := by decide +kernel
theorem d_X_clause_19 : decode c_X_clause 19 = .ok (.invokestatic 61, 3) := by decide +kernel
theorem d_X_clause_22 : decode c_X_clause 22 = .ok (.ifCond .eq 11, 3) := by decide +kernel
theorem d_X_clause_25 : decode c_X_clause 25 = .ok (.dload 4, 2) := by decide +kernel
theorem d_X_clause_27 : decode c_X_clause 27 = .ok (.invokestatic 85, 3) := by decide +kernel
theorem d_X_clause_30 : decode c_X_clause 30 = .ok (.ifCond .ne 11, 3) := by decide +kernel
theorem d_X_clause_33 : decode c_X_clause 33 = .ok (.new 65, 3) := by decide +kernel
theorem d_X_clause_36 : decode c_X_clause 36 = .ok (.dup, 1) := by decide +kernel
theorem d_X_clause_37 : decode c_X_clause 37 = .ok (.invokespecial 67, 3) := by decide +kernel
theorem d_X_clause_40 : decode c_X_clause 40 = .ok (.athrow, 1) := by decide +kernel
theorem d_X_clause_41 : decode c_X_clause 41 = .ok (.aload_n 0, 1) := by decide +kernel
theorem d_X_clause_42 : decode c_X_clause 42 = .ok (.getfield 26, 3) := by decide +kernel
theorem d_X_clause_45 : decode c_X_clause 45 = .ok (.getfield 176, 3) := by decide +kernel
theorem d_X_clause_48 : decode c_X_clause 48 = .ok (.bipush 6, 2) := by decide +kernel
theorem d_X_clause_50 : decode c_X_clause 50 = .ok (.if_icmp .lt 11, 3) := by decide +kernel
theorem d_X_clause_53 : decode c_X_clause 53 = .ok (.new 116, 3) := by decide +kernel
theorem d_X_clause_56 : decode c_X_clause 56 = .ok (.dup, 1) := by decide +kernel
theorem d_X_clause_57 : decode c_X_clause 57 = .ok (.invokespecial 118, 3) := by decide +kernel
theorem d_X_clause_60 : decode c_X_clause 60 = .ok (.athrow, 1) := by decide +kernel
theorem d_X_clause_61 : decode c_X_clause 61 = .ok (.aload_n 0, 1) := by decide +kernel
theorem d_X_clause_62 : decode c_X_clause 62 = .ok (.getfield 26, 3) := by decide +kernel
theorem d_X_clause_65 : decode c_X_clause 65 = .ok (.iload_n 1, 1) := by decide +kernel
theorem d_X_clause_66 : decode c_X_clause 66 = .ok (.iload_n 2, 1) := by decide +kernel
theorem d_X_clause_67 : decode c_X_clause 67 = .ok (.iload_n 3, 1) := by decide +kernel
theorem d_X_clause_68 : decode c_X_clause 68 = .ok (.dload 4, 2) := by decide +kernel
theorem d_X_clause_70 : decode c_X_clause 70 = .ok (.d2f, 1) := by decide +kernel
theorem d_X_clause_71 : decode c_X_clause 71 = .ok (.invokevirtual 177, 3) := by decide +kernel
theorem d_X_clause_74 : decode c_X_clause 74 = .ok (.aload_n 0, 1) := by decide +kernel
theorem d_X_clause_75 : decode c_X_clause 75 = .ok (.getfield 26, 3) := by decide +kernel
theorem d_X_clause_78 : decode c_X_clause 78 = .ok (.getfield 176, 3) := by decide +kernel
theorem d_X_clause_81 : decode c_X_clause 81 = .ok (.ireturn, 1) := by decide +kernel
theorem d_X_search_0 : decode c_X_search 0 = .ok (.iload_n 1, 1) := by decide +kernel
theorem d_X_search_1 : decode c_X_search 1 = .ok (.bipush 8, 2) := by decide +kernel
theorem d_X_search_3 : decode c_X_search 3 = .ok (.invokestatic 61, 3) := by decide +kernel
theorem d_X_search_6 : decode c_X_search 6 = .ok (.ifCond .eq 14, 3) := by decide +kernel
theorem d_X_search_9 : decode c_X_search 9 = .ok (.iload_n 2, 1) := by decide +kernel
theorem d_X_search_10 : decode c_X_search 10 = .ok (.iconst 1, 1) := by decide +kernel
theorem d_X_search_11 : decode c_X_search 11 = .ok (.if_icmp .lt 9, 3) := by decide +kernel
theorem d_X_search_14 : decode c_X_search 14 = .ok (.iload_n 2, 1) := by decide +kernel
theorem d_X_search_15 : decode c_X_search 15 = .ok (.bipush 8, 2) := by decide +kernel
theorem d_X_search_17 : decode c_X_search 17 = .ok (.if_icmp .le 11, 3) := by decide +kernel
theorem d_X_search_20 : decode c_X_search 20 = .ok (.new 65, 3) := by decide +kernel
theorem d_X_search_23 : decode c_X_search 23 = .ok (.dup, 1) := by decide +kernel
theorem d_X_search_24 : decode c_X_search 24 = .ok (.invokespecial 67, 3) := by decide +kernel
theorem d_X_search_27 : decode c_X_search 27 = .ok (.athrow, 1) := by decide +kernel
theorem d_X_search_28 : decode c_X_search 28 = .ok (.aload_n 0, 1) := by decide +kernel
theorem d_X_search_29 : decode c_X_search 29 = .ok (.iconst 0, 1) := by decide +kernel
theorem d_X_search_30 : decode c_X_search 30 = .ok (.putfield 55, 3) := by decide +kernel
theorem d_X_search_33 : decode c_X_search 33 = .ok (.aload_n 0, 1) := by decide +kernel
theorem d_X_search_34 : decode c_X_search 34 = .ok (.iconst 0, 1) := by decide +kernel
theorem d_X_search_35 : decode c_X_search 35 = .ok (.putfield 58, 3) := by decide +kernel
theorem d_X_search_38 : decode c_X_search 38 = .ok (.aload_n 0, 1) := by decide +kernel
theorem d_X_search_39 : decode c_X_search 39 = .ok (.getfield 33, 3) := by decide +kernel
theorem d_X_search_42 : decode c_X_search 42 = .ok (.iload_n 2, 1) := by decide +kernel
theorem d_X_search_43 : decode c_X_search 43 = .ok (.invokevirtual 181, 3) := by decide +kernel
theorem d_X_search_46 : decode c_X_search 46 = .ok (.aload_n 0, 1) := by decide +kernel
theorem d_X_search_47 : decode c_X_search 47 = .ok (.getfield 26, 3) := by decide +kernel
theorem d_X_search_50 : decode c_X_search 50 = .ok (.iload_n 1, 1) := by decide +kernel
theorem d_X_search_51 : decode c_X_search 51 = .ok (.aload_n 0, 1) := by decide +kernel
theorem d_X_search_52 : decode c_X_search 52 = .ok (.getfield 44, 3) := by decide +kernel
theorem d_X_search_55 : decode c_X_search 55 = .ok (.getfield 68, 3) := by decide +kernel
theorem d_X_search_58 : decode c_X_search 58 = .ok (.invokevirtual 185, 3) := by decide +kernel
theorem d_X_search_61 : decode c_X_search 61 = .ok (.aload_n 0, 1) := by decide +kernel
theorem d_X_search_62 : decode c_X_search 62 = .ok (.getfield 44, 3) := by decide +kernel
theorem d_X_search_65 : decode c_X_search 65 = .ok (.invokevirtual 173, 3) := by decide +kernel
theorem d_X_search_68 : decode c_X_search 68 = .ok (.lstore_n 3, 1) := by decide +kernel
theorem d_X_search_69 : decode c_X_search 69 = .ok (.iconst 0, 1) := by decide +kernel
theorem d_X_search_70 : decode c_X_search 70 = .ok (.istore 5, 2) := by decide +kernel
theorem d_X_search_72 : decode c_X_search 72 = .ok (.iload 5, 2) := by decide +kernel
theorem d_X_search_74 : decode c_X_search 74 = .ok (.aload_n 0, 1) := by decide +kernel
theorem d_X_search_75 : decode c_X_search 75 = .ok (.getfield 44, 3) := by decide +kernel
theorem d_X_search_78 : decode c_X_search 78 = .ok (.getfield 135, 3) := by decide +kernel
theorem d_X_search_81 : decode c_X_search 81 = .ok (.getfield 139, 3) := by decide +kernel
theorem d_X_search_84 : decode c_X_search 84 = .ok (.if_icmp .ge 63, 3) := by decide +kernel
theorem d_X_search_87 : decode c_X_search 87 = .ok (.aload_n 0, 1) := by decide +kernel
theorem d_X_search_88 : decode c_X_search 88 = .ok (.aload_n 0, 1) := by decide +kernel
theorem d_X_search_89 : decode c_X_search 89 = .ok (.getfield 44, 3) := by decide +kernel
theorem d_X_search_92 : decode c_X_search 92 = .ok (.getfield 135, 3) := by decide +kernel
theorem d_X_search_95 : decode c_X_search 95 = .ok (.getfield 189, 3) := by decide +kernel
theorem d_X_search_98 : decode c_X_search 98 = .ok (.iload 5, 2) := by decide +kernel
theorem d_X_search_100 : decode c_X_search 100 = .ok (.iaload, 1) := by decide +kernel
theorem d_X_search_101 : decode c_X_search 101 = .ok (.aload_n 0, 1) := by decide +kernel
theorem d_X_search_102 : decode c_X_search 102 = .ok (.getfield 44, 3) := by decide +kernel
theorem d_X_search_105 : decode c_X_search 105 = .ok (.getfield 135, 3) := by decide +kernel
theorem d_X_search_108 : decode c_X_search 108 = .ok (.getfield 192, 3) := by decide +kernel
theorem d_X_search_111 : decode c_X_search 111 = .ok (.iload 5, 2) := by decide +kernel
theorem d_X_search_113 : decode c_X_search 113 = .ok (.laload, 1) := by decide +kernel
theorem d_X_search_114 : decode c_X_search 114 = .ok (.iload_n 1, 1) := by decide +kernel
theorem d_X_search_115 : decode c_X_search 115 = .ok (.invokevirtual 195, 3) := by decide +kernel
theorem d_X_search_118 : decode c_X_search 118 = .ok (.lstore 6, 2) := by decide +kernel
theorem d_X_search_120 : decode c_X_search 120 = .ok (.aload_n 0, 1) := by decide +kernel
theorem d_X_search_121 : decode c_X_search 121 = .ok (.aload_n 0, 1) := by decide +kernel
theorem d_X_search_122 : decode c_X_search 122 = .ok (.getfield 44, 3) := by decide +kernel
theorem d_X_search_125 : decode c_X_search 125 = .ok (.getfield 135, 3) := by decide +kernel
theorem d_X_search_128 : decode c_X_search 128 = .ok (.getfield 192, 3) := by decide +kernel
theorem d_X_search_131 : decode c_X_search 131 = .ok (.iload 5, 2) := by decide +kernel
theorem d_X_search_133 : decode c_X_search 133 = .ok (.laload, 1) := by decide +kernel
theorem d_X_search_134 : decode c_X_search 134 = .ok (.lload 6, 2) := by decide +kernel
theorem d_X_search_136 : decode c_X_search 136 = .ok (.lload_n 3, 1) := by decide +kernel
theorem d_X_search_137 : decode c_X_search 137 = .ok (.land, 1) := by decide +kernel
theorem d_X_search_138 : decode c_X_search 138 = .ok (.invokevirtual 199, 3) := by decide +kernel
theorem d_X_search_141 : decode c_X_search 141 = .ok (.iinc 5 1, 3) := by decide +kernel
theorem d_X_search_144 : decode c_X_search 144 = .ok (.goto (-72), 3) := by decide +kernel
theorem d_X_search_147 : decode c_X_search 147 = .ok (.aload_n 0, 1) := by decide +kernel
theorem d_X_search_148 : decode c_X_search 148 = .ok (.getfield 33, 3) := by decide +kernel
theorem d_X_search_151 : decode c_X_search 151 = .ok (.getfield 203, 3) := by decide +kernel
theorem d_X_search_154 : decode c_X_search 154 = .ok (.ireturn, 1) := by decide +kernel
theorem d_X_filterOf_0 : decode c_X_filterOf 0 = .ok (.aload_n 0, 1) := by decide +kernel
theorem d_X_filterOf_1 : decode c_X_filterOf 1 = .ok (.getfield 19, 3) := by decide +kernel
theorem d_X_filterOf_4 : decode c_X_filterOf 4 = .ok (.iload_n 1, 1) := by decide +kernel
theorem d_X_filterOf_5 : decode c_X_filterOf 5 = .ok (.iload 4, 2) := by decide +kernel
theorem d_X_filterOf_7 : decode c_X_filterOf 7 = .ok (.invokevirtual 241, 3) := by decide +kernel
theorem d_X_filterOf_10 : decode c_X_filterOf 10 = .ok (.istore 5, 2) := by decide +kernel
theorem d_X_filterOf_12 : decode c_X_filterOf 12 = .ok (.iload 5, 2) := by decide +kernel
theorem d_X_filterOf_14 : decode c_X_filterOf 14 = .ok (.ifCond .lt 13, 3) := by decide +kernel
theorem d_X_filterOf_17 : decode c_X_filterOf 17 = .ok (.aload_n 0, 1) := by decide +kernel
theorem d_X_filterOf_18 : decode c_X_filterOf 18 = .ok (.getfield 19, 3) := by decide +kernel
theorem d_X_filterOf_21 : decode c_X_filterOf 21 = .ok (.iload 5, 2) := by decide +kernel
theorem d_X_filterOf_23 : decode c_X_filterOf 23 = .ok (.invokevirtual 244, 3) := by decide +kernel
theorem d_X_filterOf_26 : decode c_X_filterOf 26 = .ok (.lreturn, 1) := by decide +kernel
theorem d_X_filterOf_27 : decode c_X_filterOf 27 = .ok (.aload_n 0, 1) := by decide +kernel
theorem d_X_filterOf_28 : decode c_X_filterOf 28 = .ok (.getfield 12, 3) := by decide +kernel
theorem d_X_filterOf_31 : decode c_X_filterOf 31 = .ok (.lload_n 2, 1) := by decide +kernel
theorem d_X_filterOf_32 : decode c_X_filterOf 32 = .ok (.aload_n 0, 1) := by decide +kernel
theorem d_X_filterOf_33 : decode c_X_filterOf 33 = .ok (.getfield 44, 3) := by decide +kernel
theorem d_X_filterOf_36 : decode c_X_filterOf 36 = .ok (.getfield 68, 3) := by decide +kernel
theorem d_X_filterOf_39 : decode c_X_filterOf 39 = .ok (.iload 4, 2) := by decide +kernel
theorem d_X_filterOf_41 : decode c_X_filterOf 41 = .ok (.invokevirtual 213, 3) := by decide +kernel
theorem d_X_filterOf_44 : decode c_X_filterOf 44 = .ok (.invokevirtual 248, 3) := by decide +kernel
theorem d_X_filterOf_47 : decode c_X_filterOf 47 = .ok (.lstore 6, 2) := by decide +kernel
theorem d_X_filterOf_49 : decode c_X_filterOf 49 = .ok (.aload_n 0, 1) := by decide +kernel
theorem d_X_filterOf_50 : decode c_X_filterOf 50 = .ok (.getfield 19, 3) := by decide +kernel
theorem d_X_filterOf_53 : decode c_X_filterOf 53 = .ok (.iload_n 1, 1) := by decide +kernel
theorem d_X_filterOf_54 : decode c_X_filterOf 54 = .ok (.iload 4, 2) := by decide +kernel
theorem d_X_filterOf_56 : decode c_X_filterOf 56 = .ok (.lload 6, 2) := by decide +kernel
theorem d_X_filterOf_58 : decode c_X_filterOf 58 = .ok (.invokevirtual 252, 3) := by decide +kernel
theorem d_X_filterOf_61 : decode c_X_filterOf 61 = .ok (.lload 6, 2) := by decide +kernel
theorem d_X_filterOf_63 : decode c_X_filterOf 63 = .ok (.lreturn, 1) := by decide +kernel
theorem d_X_passThrough_0 : decode c_X_passThrough 0 = .ok (.lload_n 1, 1) := by decide +kernel
theorem d_X_passThrough_1 : decode c_X_passThrough 1 = .ok (.lstore 5, 2) := by decide +kernel
theorem d_X_passThrough_3 : decode c_X_passThrough 3 = .ok (.iconst 0, 1) := by decide +kernel
theorem d_X_passThrough_4 : decode c_X_passThrough 4 = .ok (.istore 7, 2) := by decide +kernel
theorem d_X_passThrough_6 : decode c_X_passThrough 6 = .ok (.iload 7, 2) := by decide +kernel
theorem d_X_passThrough_8 : decode c_X_passThrough 8 = .ok (.bipush 10, 2) := by decide +kernel
theorem d_X_passThrough_10 : decode c_X_passThrough 10 = .ok (.if_icmp .ge 83, 3) := by decide +kernel
theorem d_X_passThrough_13 : decode c_X_passThrough 13 = .ok (.lload 5, 2) := by decide +kernel
theorem d_X_passThrough_15 : decode c_X_passThrough 15 = .ok (.lconst 0, 1) := by decide +kernel
theorem d_X_passThrough_16 : decode c_X_passThrough 16 = .ok (.lcmp, 1) := by decide +kernel
theorem d_X_passThrough_17 : decode c_X_passThrough 17 = .ok (.ifCond .eq 76, 3) := by decide +kernel
theorem d_X_passThrough_20 : decode c_X_passThrough 20 = .ok (.lload 5, 2) := by decide +kernel
theorem d_X_passThrough_22 : decode c_X_passThrough 22 = .ok (.invokestatic 256, 3) := by decide +kernel
theorem d_X_passThrough_25 : decode c_X_passThrough 25 = .ok (.lstore 8, 2) := by decide +kernel
theorem d_X_passThrough_27 : decode c_X_passThrough 27 = .ok (.lload 5, 2) := by decide +kernel
theorem d_X_passThrough_29 : decode c_X_passThrough 29 = .ok (.lload 8, 2) := by decide +kernel
theorem d_X_passThrough_31 : decode c_X_passThrough 31 = .ok (.ldc2_w 133, 3) := by decide +kernel
theorem d_X_passThrough_34 : decode c_X_passThrough 34 = .ok (.lxor, 1) := by decide +kernel
theorem d_X_passThrough_35 : decode c_X_passThrough 35 = .ok (.land, 1) := by decide +kernel
theorem d_X_passThrough_36 : decode c_X_passThrough 36 = .ok (.lstore 5, 2) := by decide +kernel
theorem d_X_passThrough_38 : decode c_X_passThrough 38 = .ok (.aload_n 0, 1) := by decide +kernel
theorem d_X_passThrough_39 : decode c_X_passThrough 39 = .ok (.getfield 33, 3) := by decide +kernel
theorem d_X_passThrough_42 : decode c_X_passThrough 42 = .ok (.getfield 203, 3) := by decide +kernel
theorem d_X_passThrough_45 : decode c_X_passThrough 45 = .ok (.aload_n 0, 1) := by decide +kernel
theorem d_X_passThrough_46 : decode c_X_passThrough 46 = .ok (.getfield 33, 3) := by decide +kernel
theorem d_X_passThrough_49 : decode c_X_passThrough 49 = .ok (.getfield 260, 3) := by decide +kernel
theorem d_X_passThrough_52 : decode c_X_passThrough 52 = .ok (.if_icmp .lt 27, 3) := by decide +kernel
theorem d_X_passThrough_55 : decode c_X_passThrough 55 = .ok (.aload_n 0, 1) := by decide +kernel
theorem d_X_passThrough_56 : decode c_X_passThrough 56 = .ok (.getfield 26, 3) := by decide +kernel
theorem d_X_passThrough_59 : decode c_X_passThrough 59 = .ok (.lload 8, 2) := by decide +kernel
theorem d_X_passThrough_61 : decode c_X_passThrough 61 = .ok (.aload_n 0, 1) := by decide +kernel
theorem d_X_passThrough_62 : decode c_X_passThrough 62 = .ok (.getfield 12, 3) := by decide +kernel
theorem d_X_passThrough_65 : decode c_X_passThrough 65 = .ok (.invokevirtual 263, 3) := by decide +kernel
theorem d_X_passThrough_68 : decode c_X_passThrough 68 = .ok (.aload_n 0, 1) := by decide +kernel
theorem d_X_passThrough_69 : decode c_X_passThrough 69 = .ok (.getfield 33, 3) := by decide +kernel
theorem d_X_passThrough_72 : decode c_X_passThrough 72 = .ok (.invokevirtual 267, 3) := by decide +kernel
theorem d_X_passThrough_75 : decode c_X_passThrough 75 = .ok (.fcmp .l, 1) := by decide +kernel
theorem d_X_passThrough_76 : decode c_X_passThrough 76 = .ok (.ifCond .le 11, 3) := by decide +kernel
theorem d_X_passThrough_79 : decode c_X_passThrough 79 = .ok (.aload_n 0, 1) := by decide +kernel
theorem d_X_passThrough_80 : decode c_X_passThrough 80 = .ok (.lload 8, 2) := by decide +kernel
theorem d_X_passThrough_82 : decode c_X_passThrough 82 = .ok (.lload_n 3, 1) := by decide +kernel
theorem d_X_passThrough_83 : decode c_X_passThrough 83 = .ok (.land, 1) := by decide +kernel
theorem d_X_passThrough_84 : decode c_X_passThrough 84 = .ok (.invokevirtual 271, 3) := by decide +kernel
theorem d_X_passThrough_87 : decode c_X_passThrough 87 = .ok (.iinc 7 1, 3) := by decide +kernel
theorem d_X_passThrough_90 : decode c_X_passThrough 90 = .ok (.goto (-84), 3) := by decide +kernel
theorem d_X_passThrough_93 : decode c_X_passThrough 93 = .ok (.return_, 1) := by decide +kernel
theorem d_X_firstBlock_0 : decode c_X_firstBlock 0 = .ok (.lload_n 0, 1) := by decide +kernel
theorem d_X_firstBlock_1 : decode c_X_firstBlock 1 = .ok (.lstore_n 2, 1) := by decide +kernel
theorem d_X_firstBlock_2 : decode c_X_firstBlock 2 = .ok (.iconst 0, 1) := by decide +kernel
theorem d_X_firstBlock_3 : decode c_X_firstBlock 3 = .ok (.istore 4, 2) := by decide +kernel
theorem d_X_firstBlock_5 : decode c_X_firstBlock 5 = .ok (.iload 4, 2) := by decide +kernel
theorem d_X_firstBlock_7 : decode c_X_firstBlock 7 = .ok (.iconst 4, 1) := by decide +kernel
theorem d_X_firstBlock_8 : decode c_X_firstBlock 8 = .ok (.if_icmp .ge 15, 3) := by decide +kernel
theorem d_X_firstBlock_11 : decode c_X_firstBlock 11 = .ok (.lload_n 2, 1) := by decide +kernel
theorem d_X_firstBlock_12 : decode c_X_firstBlock 12 = .ok (.lload_n 2, 1) := by decide +kernel
theorem d_X_firstBlock_13 : decode c_X_firstBlock 13 = .ok (.lconst 1, 1) := by decide +kernel
theorem d_X_firstBlock_14 : decode c_X_firstBlock 14 = .ok (.lsub, 1) := by decide +kernel
theorem d_X_firstBlock_15 : decode c_X_firstBlock 15 = .ok (.land, 1) := by decide +kernel
theorem d_X_firstBlock_16 : decode c_X_firstBlock 16 = .ok (.lstore_n 2, 1) := by decide +kernel
theorem d_X_firstBlock_17 : decode c_X_firstBlock 17 = .ok (.iinc 4 1, 3) := by decide +kernel
theorem d_X_firstBlock_20 : decode c_X_firstBlock 20 = .ok (.goto (-15), 3) := by decide +kernel
theorem d_X_firstBlock_23 : decode c_X_firstBlock 23 = .ok (.lload_n 0, 1) := by decide +kernel
theorem d_X_firstBlock_24 : decode c_X_firstBlock 24 = .ok (.lload_n 2, 1) := by decide +kernel
theorem d_X_firstBlock_25 : decode c_X_firstBlock 25 = .ok (.ldc2_w 133, 3) := by decide +kernel
theorem d_X_firstBlock_28 : decode c_X_firstBlock 28 = .ok (.lxor, 1) := by decide +kernel
theorem d_X_firstBlock_29 : decode c_X_firstBlock 29 = .ok (.land, 1) := by decide +kernel
theorem d_X_firstBlock_30 : decode c_X_firstBlock 30 = .ok (.lreturn, 1) := by decide +kernel
theorem d_X_lowestId_0 : decode c_X_lowestId 0 = .ok (.lload_n 0, 1) := by decide +kernel
theorem d_X_lowestId_1 : decode c_X_lowestId 1 = .ok (.lload_n 0, 1) := by decide +kernel
theorem d_X_lowestId_2 : decode c_X_lowestId 2 = .ok (.lneg, 1) := by decide +kernel
theorem d_X_lowestId_3 : decode c_X_lowestId 3 = .ok (.land, 1) := by decide +kernel
theorem d_X_lowestId_4 : decode c_X_lowestId 4 = .ok (.lconst 1, 1) := by decide +kernel
theorem d_X_lowestId_5 : decode c_X_lowestId 5 = .ok (.lsub, 1) := by decide +kernel
theorem d_X_lowestId_6 : decode c_X_lowestId 6 = .ok (.invokestatic 144, 3) := by decide +kernel
theorem d_X_lowestId_9 : decode c_X_lowestId 9 = .ok (.ireturn, 1) := by decide +kernel
theorem d_X_lookAt_0 : decode c_X_lookAt 0 = .ok (.aload_n 0, 1) := by decide +kernel
theorem d_X_lookAt_1 : decode c_X_lookAt 1 = .ok (.dup, 1) := by decide +kernel
theorem d_X_lookAt_2 : decode c_X_lookAt 2 = .ok (.getfield 55, 3) := by decide +kernel
theorem d_X_lookAt_5 : decode c_X_lookAt 5 = .ok (.iconst 1, 1) := by decide +kernel
theorem d_X_lookAt_6 : decode c_X_lookAt 6 = .ok (.iadd, 1) := by decide +kernel
theorem d_X_lookAt_7 : decode c_X_lookAt 7 = .ok (.putfield 55, 3) := by decide +kernel
theorem d_X_lookAt_10 : decode c_X_lookAt 10 = .ok (.lload_n 1, 1) := by decide +kernel
theorem d_X_lookAt_11 : decode c_X_lookAt 11 = .ok (.lstore_n 3, 1) := by decide +kernel
theorem d_X_lookAt_12 : decode c_X_lookAt 12 = .ok (.iconst 0, 1) := by decide +kernel
theorem d_X_lookAt_13 : decode c_X_lookAt 13 = .ok (.istore 5, 2) := by decide +kernel
theorem d_X_lookAt_15 : decode c_X_lookAt 15 = .ok (.iload 5, 2) := by decide +kernel
theorem d_X_lookAt_17 : decode c_X_lookAt 17 = .ok (.iconst 4, 1) := by decide +kernel
theorem d_X_lookAt_18 : decode c_X_lookAt 18 = .ok (.if_icmp .ge 77, 3) := by decide +kernel
theorem d_X_lookAt_21 : decode c_X_lookAt 21 = .ok (.lload_n 3, 1) := by decide +kernel
theorem d_X_lookAt_22 : decode c_X_lookAt 22 = .ok (.lconst 0, 1) := by decide +kernel
theorem d_X_lookAt_23 : decode c_X_lookAt 23 = .ok (.lcmp, 1) := by decide +kernel
theorem d_X_lookAt_24 : decode c_X_lookAt 24 = .ok (.ifCond .eq 71, 3) := by decide +kernel
theorem d_X_lookAt_27 : decode c_X_lookAt 27 = .ok (.lload_n 3, 1) := by decide +kernel
theorem d_X_lookAt_28 : decode c_X_lookAt 28 = .ok (.invokestatic 274, 3) := by decide +kernel
theorem d_X_lookAt_31 : decode c_X_lookAt 31 = .ok (.istore 6, 2) := by decide +kernel
theorem d_X_lookAt_33 : decode c_X_lookAt 33 = .ok (.lload_n 3, 1) := by decide +kernel
theorem d_X_lookAt_34 : decode c_X_lookAt 34 = .ok (.lload_n 3, 1) := by decide +kernel
theorem d_X_lookAt_35 : decode c_X_lookAt 35 = .ok (.lconst 1, 1) := by decide +kernel
theorem d_X_lookAt_36 : decode c_X_lookAt 36 = .ok (.lsub, 1) := by decide +kernel
theorem d_X_lookAt_37 : decode c_X_lookAt 37 = .ok (.land, 1) := by decide +kernel
theorem d_X_lookAt_38 : decode c_X_lookAt 38 = .ok (.lstore_n 3, 1) := by decide +kernel
theorem d_X_lookAt_39 : decode c_X_lookAt 39 = .ok (.aload_n 0, 1) := by decide +kernel
theorem d_X_lookAt_40 : decode c_X_lookAt 40 = .ok (.getfield 26, 3) := by decide +kernel
theorem d_X_lookAt_43 : decode c_X_lookAt 43 = .ok (.iload 6, 2) := by decide +kernel
theorem d_X_lookAt_45 : decode c_X_lookAt 45 = .ok (.aload_n 0, 1) := by decide +kernel
theorem d_X_lookAt_46 : decode c_X_lookAt 46 = .ok (.getfield 12, 3) := by decide +kernel
theorem d_X_lookAt_49 : decode c_X_lookAt 49 = .ok (.invokevirtual 277, 3) := by decide +kernel
theorem d_X_lookAt_52 : decode c_X_lookAt 52 = .ok (.ifCond .eq 37, 3) := by decide +kernel
theorem d_X_lookAt_55 : decode c_X_lookAt 55 = .ok (.aload_n 0, 1) := by decide +kernel
theorem d_X_lookAt_56 : decode c_X_lookAt 56 = .ok (.dup, 1) := by decide +kernel
theorem d_X_lookAt_57 : decode c_X_lookAt 57 = .ok (.getfield 58, 3) := by decide +kernel
theorem d_X_lookAt_60 : decode c_X_lookAt 60 = .ok (.iconst 1, 1) := by decide +kernel
theorem d_X_lookAt_61 : decode c_X_lookAt 61 = .ok (.iadd, 1) := by decide +kernel
theorem d_X_lookAt_62 : decode c_X_lookAt 62 = .ok (.putfield 58, 3) := by decide +kernel
theorem d_X_lookAt_65 : decode c_X_lookAt 65 = .ok (.aload_n 0, 1) := by decide +kernel
theorem d_X_lookAt_66 : decode c_X_lookAt 66 = .ok (.getfield 33, 3) := by decide +kernel
theorem d_X_lookAt_69 : decode c_X_lookAt 69 = .ok (.iload 6, 2) := by decide +kernel
theorem d_X_lookAt_71 : decode c_X_lookAt 71 = .ok (.aload_n 0, 1) := by decide +kernel
theorem d_X_lookAt_72 : decode c_X_lookAt 72 = .ok (.getfield 26, 3) := by decide +kernel
theorem d_X_lookAt_75 : decode c_X_lookAt 75 = .ok (.lconst 1, 1) := by decide +kernel
theorem d_X_lookAt_76 : decode c_X_lookAt 76 = .ok (.iload 6, 2) := by decide +kernel
theorem d_X_lookAt_78 : decode c_X_lookAt 78 = .ok (.lshl, 1) := by decide +kernel
theorem d_X_lookAt_79 : decode c_X_lookAt 79 = .ok (.aload_n 0, 1) := by decide +kernel
theorem d_X_lookAt_80 : decode c_X_lookAt 80 = .ok (.getfield 12, 3) := by decide +kernel
theorem d_X_lookAt_83 : decode c_X_lookAt 83 = .ok (.invokevirtual 263, 3) := by decide +kernel
theorem d_X_lookAt_86 : decode c_X_lookAt 86 = .ok (.invokevirtual 281, 3) := by decide +kernel
theorem d_X_lookAt_89 : decode c_X_lookAt 89 = .ok (.iinc 5 1, 3) := by decide +kernel
theorem d_X_lookAt_92 : decode c_X_lookAt 92 = .ok (.goto (-77), 3) := by decide +kernel
theorem d_X_lookAt_95 : decode c_X_lookAt 95 = .ok (.return_, 1) := by decide +kernel
theorem d_X_hit_0 : decode c_X_hit 0 = .ok (.iload_n 1, 1) := by decide +kernel
theorem d_X_hit_1 : decode c_X_hit 1 = .ok (.aload_n 0, 1) := by decide +kernel
theorem d_X_hit_2 : decode c_X_hit 2 = .ok (.getfield 33, 3) := by decide +kernel
theorem d_X_hit_5 : decode c_X_hit 5 = .ok (.getfield 203, 3) := by decide +kernel
theorem d_X_hit_8 : decode c_X_hit 8 = .ok (.invokestatic 61, 3) := by decide +kernel
theorem d_X_hit_11 : decode c_X_hit 11 = .ok (.ifCond .ne 11, 3) := by decide +kernel
theorem d_X_hit_14 : decode c_X_hit 14 = .ok (.new 204, 3) := by decide +kernel
theorem d_X_hit_17 : decode c_X_hit 17 = .ok (.dup, 1) := by decide +kernel
theorem d_X_hit_18 : decode c_X_hit 18 = .ok (.invokespecial 206, 3) := by decide +kernel
theorem d_X_hit_21 : decode c_X_hit 21 = .ok (.athrow, 1) := by decide +kernel
theorem d_X_hit_22 : decode c_X_hit 22 = .ok (.aload_n 0, 1) := by decide +kernel
theorem d_X_hit_23 : decode c_X_hit 23 = .ok (.getfield 33, 3) := by decide +kernel
theorem d_X_hit_26 : decode c_X_hit 26 = .ok (.getfield 207, 3) := by decide +kernel
theorem d_X_hit_29 : decode c_X_hit 29 = .ok (.iload_n 1, 1) := by decide +kernel
theorem d_X_hit_30 : decode c_X_hit 30 = .ok (.iaload, 1) := by decide +kernel
theorem d_X_hit_31 : decode c_X_hit 31 = .ok (.ireturn, 1) := by decide +kernel
theorem d_X_score_0 : decode c_X_score 0 = .ok (.iload_n 1, 1) := by decide +kernel
theorem d_X_score_1 : decode c_X_score 1 = .ok (.aload_n 0, 1) := by decide +kernel
theorem d_X_score_2 : decode c_X_score 2 = .ok (.getfield 33, 3) := by decide +kernel
theorem d_X_score_5 : decode c_X_score 5 = .ok (.getfield 203, 3) := by decide +kernel
theorem d_X_score_8 : decode c_X_score 8 = .ok (.invokestatic 61, 3) := by decide +kernel
theorem d_X_score_11 : decode c_X_score 11 = .ok (.ifCond .ne 11, 3) := by decide +kernel
theorem d_X_score_14 : decode c_X_score 14 = .ok (.new 204, 3) := by decide +kernel
theorem d_X_score_17 : decode c_X_score 17 = .ok (.dup, 1) := by decide +kernel
theorem d_X_score_18 : decode c_X_score 18 = .ok (.invokespecial 206, 3) := by decide +kernel
theorem d_X_score_21 : decode c_X_score 21 = .ok (.athrow, 1) := by decide +kernel
theorem d_X_score_22 : decode c_X_score 22 = .ok (.aload_n 0, 1) := by decide +kernel
theorem d_X_score_23 : decode c_X_score 23 = .ok (.getfield 33, 3) := by decide +kernel
theorem d_X_score_26 : decode c_X_score 26 = .ok (.getfield 209, 3) := by decide +kernel
theorem d_X_score_29 : decode c_X_score 29 = .ok (.iload_n 1, 1) := by decide +kernel
theorem d_X_score_30 : decode c_X_score 30 = .ok (.faload, 1) := by decide +kernel
theorem d_X_score_31 : decode c_X_score 31 = .ok (.f2d, 1) := by decide +kernel
theorem d_X_score_32 : decode c_X_score 32 = .ok (.dreturn, 1) := by decide +kernel
theorem d_X_value_0 : decode c_X_value 0 = .ok (.iload_n 1, 1) := by decide +kernel
theorem d_X_value_1 : decode c_X_value 1 = .ok (.bipush 8, 2) := by decide +kernel
theorem d_X_value_3 : decode c_X_value 3 = .ok (.invokestatic 61, 3) := by decide +kernel
theorem d_X_value_6 : decode c_X_value 6 = .ok (.ifCond .eq 11, 3) := by decide +kernel
theorem d_X_value_9 : decode c_X_value 9 = .ok (.iload_n 3, 1) := by decide +kernel
theorem d_X_value_10 : decode c_X_value 10 = .ok (.iconst 3, 1) := by decide +kernel
theorem d_X_value_11 : decode c_X_value 11 = .ok (.invokestatic 61, 3) := by decide +kernel
theorem d_X_value_14 : decode c_X_value 14 = .ok (.ifCond .ne 11, 3) := by decide +kernel
theorem d_X_value_17 : decode c_X_value 17 = .ok (.new 65, 3) := by decide +kernel
theorem d_X_value_20 : decode c_X_value 20 = .ok (.dup, 1) := by decide +kernel
theorem d_X_value_21 : decode c_X_value 21 = .ok (.invokespecial 67, 3) := by decide +kernel
theorem d_X_value_24 : decode c_X_value 24 = .ok (.athrow, 1) := by decide +kernel
theorem d_X_value_25 : decode c_X_value 25 = .ok (.iload_n 2, 1) := by decide +kernel
theorem d_X_value_26 : decode c_X_value 26 = .ok (.bipush 40, 2) := by decide +kernel
theorem d_X_value_28 : decode c_X_value 28 = .ok (.invokestatic 61, 3) := by decide +kernel
theorem d_X_value_31 : decode c_X_value 31 = .ok (.ifCond .eq 39, 3) := by decide +kernel
theorem d_X_value_34 : decode c_X_value 34 = .ok (.aload_n 0, 1) := by decide +kernel
theorem d_X_value_35 : decode c_X_value 35 = .ok (.getfield 44, 3) := by decide +kernel
theorem d_X_value_38 : decode c_X_value 38 = .ok (.invokevirtual 173, 3) := by decide +kernel
theorem d_X_value_41 : decode c_X_value 41 = .ok (.iload_n 2, 1) := by decide +kernel
theorem d_X_value_42 : decode c_X_value 42 = .ok (.invokestatic 126, 3) := by decide +kernel
theorem d_X_value_45 : decode c_X_value 45 = .ok (.ifCond .eq 25, 3) := by decide +kernel
theorem d_X_value_48 : decode c_X_value 48 = .ok (.aload_n 0, 1) := by decide +kernel
theorem d_X_value_49 : decode c_X_value 49 = .ok (.getfield 12, 3) := by decide +kernel
theorem d_X_value_52 : decode c_X_value 52 = .ok (.iload_n 2, 1) := by decide +kernel
theorem d_X_value_53 : decode c_X_value 53 = .ok (.aload_n 0, 1) := by decide +kernel
theorem d_X_value_54 : decode c_X_value 54 = .ok (.getfield 44, 3) := by decide +kernel
theorem d_X_value_57 : decode c_X_value 57 = .ok (.getfield 68, 3) := by decide +kernel
theorem d_X_value_60 : decode c_X_value 60 = .ok (.iload_n 1, 1) := by decide +kernel
theorem d_X_value_61 : decode c_X_value 61 = .ok (.invokevirtual 213, 3) := by decide +kernel
theorem d_X_value_64 : decode c_X_value 64 = .ok (.invokevirtual 216, 3) := by decide +kernel
theorem d_X_value_67 : decode c_X_value 67 = .ok (.ifCond .ne 11, 3) := by decide +kernel
theorem d_X_value_70 : decode c_X_value 70 = .ok (.new 130, 3) := by decide +kernel
theorem d_X_value_73 : decode c_X_value 73 = .ok (.dup, 1) := by decide +kernel
theorem d_X_value_74 : decode c_X_value 74 = .ok (.invokespecial 132, 3) := by decide +kernel
theorem d_X_value_77 : decode c_X_value 77 = .ok (.athrow, 1) := by decide +kernel
theorem d_X_value_78 : decode c_X_value 78 = .ok (.aload_n 0, 1) := by decide +kernel
theorem d_X_value_79 : decode c_X_value 79 = .ok (.getfield 44, 3) := by decide +kernel
theorem d_X_value_82 : decode c_X_value 82 = .ok (.getfield 68, 3) := by decide +kernel
theorem d_X_value_85 : decode c_X_value 85 = .ok (.iload_n 3, 1) := by decide +kernel
theorem d_X_value_86 : decode c_X_value 86 = .ok (.iload_n 1, 1) := by decide +kernel
theorem d_X_value_87 : decode c_X_value 87 = .ok (.invokevirtual 219, 3) := by decide +kernel
theorem d_X_value_90 : decode c_X_value 90 = .ok (.ifCond .ne 11, 3) := by decide +kernel
theorem d_X_value_93 : decode c_X_value 93 = .ok (.new 222, 3) := by decide +kernel
theorem d_X_value_96 : decode c_X_value 96 = .ok (.dup, 1) := by decide +kernel
theorem d_X_value_97 : decode c_X_value 97 = .ok (.invokespecial 224, 3) := by decide +kernel
theorem d_X_value_100 : decode c_X_value 100 = .ok (.athrow, 1) := by decide +kernel
theorem d_X_value_101 : decode c_X_value 101 = .ok (.aload_n 0, 1) := by decide +kernel
theorem d_X_value_102 : decode c_X_value 102 = .ok (.getfield 12, 3) := by decide +kernel
theorem d_X_value_105 : decode c_X_value 105 = .ok (.getfield 107, 3) := by decide +kernel
theorem d_X_value_108 : decode c_X_value 108 = .ok (.iload_n 2, 1) := by decide +kernel
theorem d_X_value_109 : decode c_X_value 109 = .ok (.iload_n 3, 1) := by decide +kernel
theorem d_X_value_110 : decode c_X_value 110 = .ok (.invokestatic 103, 3) := by decide +kernel
theorem d_X_value_113 : decode c_X_value 113 = .ok (.iaload, 1) := by decide +kernel
theorem d_X_value_114 : decode c_X_value 114 = .ok (.ireturn, 1) := by decide +kernel
theorem d_X_count_0 : decode c_X_count 0 = .ok (.iload_n 1, 1) := by decide +kernel
theorem d_X_count_1 : decode c_X_count 1 = .ok (.bipush 10, 2) := by decide +kernel
theorem d_X_count_3 : decode c_X_count 3 = .ok (.if_icmp .lt 24, 3) := by decide +kernel
theorem d_X_count_6 : decode c_X_count 6 = .ok (.iload_n 1, 1) := by decide +kernel
theorem d_X_count_7 : decode c_X_count 7 = .ok (.bipush 18, 2) := by decide +kernel
theorem d_X_count_9 : decode c_X_count 9 = .ok (.if_icmp .ge 18, 3) := by decide +kernel
theorem d_X_count_12 : decode c_X_count 12 = .ok (.aload_n 0, 1) := by decide +kernel
theorem d_X_count_13 : decode c_X_count 13 = .ok (.getfield 40, 3) := by decide +kernel
theorem d_X_count_16 : decode c_X_count 16 = .ok (.getfield 68, 3) := by decide +kernel
theorem d_X_count_19 : decode c_X_count 19 = .ok (.iload_n 1, 1) := by decide +kernel
theorem d_X_count_20 : decode c_X_count 20 = .ok (.bipush 10, 2) := by decide +kernel
theorem d_X_count_22 : decode c_X_count 22 = .ok (.isub, 1) := by decide +kernel
theorem d_X_count_23 : decode c_X_count 23 = .ok (.invokevirtual 213, 3) := by decide +kernel
theorem d_X_count_26 : decode c_X_count 26 = .ok (.ireturn, 1) := by decide +kernel
theorem d_X_count_27 : decode c_X_count 27 = .ok (.iload_n 1, 1) := by decide +kernel
theorem d_X_count_28 : decode c_X_count 28 = .ok (.bipush 20, 2) := by decide +kernel
theorem d_X_count_30 : decode c_X_count 30 = .ok (.if_icmp .lt 24, 3) := by decide +kernel
theorem d_X_count_33 : decode c_X_count 33 = .ok (.iload_n 1, 1) := by decide +kernel
theorem d_X_count_34 : decode c_X_count 34 = .ok (.bipush 28, 2) := by decide +kernel
theorem d_X_count_36 : decode c_X_count 36 = .ok (.if_icmp .ge 18, 3) := by decide +kernel
theorem d_X_count_39 : decode c_X_count 39 = .ok (.aload_n 0, 1) := by decide +kernel
theorem d_X_count_40 : decode c_X_count 40 = .ok (.getfield 44, 3) := by decide +kernel
theorem d_X_count_43 : decode c_X_count 43 = .ok (.getfield 68, 3) := by decide +kernel
theorem d_X_count_46 : decode c_X_count 46 = .ok (.iload_n 1, 1) := by decide +kernel
theorem d_X_count_47 : decode c_X_count 47 = .ok (.bipush 20, 2) := by decide +kernel
theorem d_X_count_49 : decode c_X_count 49 = .ok (.isub, 1) := by decide +kernel
theorem d_X_count_50 : decode c_X_count 50 = .ok (.invokevirtual 213, 3) := by decide +kernel
theorem d_X_count_53 : decode c_X_count 53 = .ok (.ireturn, 1) := by decide +kernel
theorem d_X_count_54 : decode c_X_count 54 = .ok (.iload_n 1, 1) := by decide +kernel
theorem d_X_count_55 : decode c_X_count 55 = .ok (.tableswitch 121 0 8 #[49, 57, 65, 76, 87, 92, 97, 105, 113], 49) := by decide +kernel
theorem d_X_count_104 : decode c_X_count 104 = .ok (.aload_n 0, 1) := by decide +kernel
theorem d_X_count_105 : decode c_X_count 105 = .ok (.getfield 12, 3) := by decide +kernel
theorem d_X_count_108 : decode c_X_count 108 = .ok (.getfield 96, 3) := by decide +kernel
theorem d_X_count_111 : decode c_X_count 111 = .ok (.ireturn, 1) := by decide +kernel
theorem d_X_count_112 : decode c_X_count 112 = .ok (.aload_n 0, 1) := by decide +kernel
theorem d_X_count_113 : decode c_X_count 113 = .ok (.getfield 47, 3) := by decide +kernel
theorem d_X_count_116 : decode c_X_count 116 = .ok (.invokestatic 144, 3) := by decide +kernel
theorem d_X_count_119 : decode c_X_count 119 = .ok (.ireturn, 1) := by decide +kernel
theorem d_X_count_120 : decode c_X_count 120 = .ok (.aload_n 0, 1) := by decide +kernel
theorem d_X_count_121 : decode c_X_count 121 = .ok (.getfield 40, 3) := by decide +kernel
theorem d_X_count_124 : decode c_X_count 124 = .ok (.getfield 135, 3) := by decide +kernel
theorem d_X_count_127 : decode c_X_count 127 = .ok (.getfield 139, 3) := by decide +kernel
theorem d_X_count_130 : decode c_X_count 130 = .ok (.ireturn, 1) := by decide +kernel
theorem d_X_count_131 : decode c_X_count 131 = .ok (.aload_n 0, 1) := by decide +kernel
theorem d_X_count_132 : decode c_X_count 132 = .ok (.getfield 44, 3) := by decide +kernel
theorem d_X_count_135 : decode c_X_count 135 = .ok (.getfield 135, 3) := by decide +kernel
theorem d_X_count_138 : decode c_X_count 138 = .ok (.getfield 139, 3) := by decide +kernel
theorem d_X_count_141 : decode c_X_count 141 = .ok (.ireturn, 1) := by decide +kernel
theorem d_X_count_142 : decode c_X_count 142 = .ok (.aload_n 0, 1) := by decide +kernel
theorem d_X_count_143 : decode c_X_count 143 = .ok (.getfield 55, 3) := by decide +kernel
theorem d_X_count_146 : decode c_X_count 146 = .ok (.ireturn, 1) := by decide +kernel
theorem d_X_count_147 : decode c_X_count 147 = .ok (.aload_n 0, 1) := by decide +kernel
theorem d_X_count_148 : decode c_X_count 148 = .ok (.getfield 58, 3) := by decide +kernel
theorem d_X_count_151 : decode c_X_count 151 = .ok (.ireturn, 1) := by decide +kernel
theorem d_X_count_152 : decode c_X_count 152 = .ok (.aload_n 0, 1) := by decide +kernel
theorem d_X_count_153 : decode c_X_count 153 = .ok (.getfield 19, 3) := by decide +kernel
theorem d_X_count_156 : decode c_X_count 156 = .ok (.getfield 225, 3) := by decide +kernel
theorem d_X_count_159 : decode c_X_count 159 = .ok (.ireturn, 1) := by decide +kernel
theorem d_X_count_160 : decode c_X_count 160 = .ok (.aload_n 0, 1) := by decide +kernel
theorem d_X_count_161 : decode c_X_count 161 = .ok (.getfield 19, 3) := by decide +kernel
theorem d_X_count_164 : decode c_X_count 164 = .ok (.getfield 228, 3) := by decide +kernel
theorem d_X_count_167 : decode c_X_count 167 = .ok (.ireturn, 1) := by decide +kernel
theorem d_X_count_168 : decode c_X_count 168 = .ok (.aload_n 0, 1) := by decide +kernel
theorem d_X_count_169 : decode c_X_count 169 = .ok (.getfield 19, 3) := by decide +kernel
theorem d_X_count_172 : decode c_X_count 172 = .ok (.getfield 170, 3) := by decide +kernel
theorem d_X_count_175 : decode c_X_count 175 = .ok (.ireturn, 1) := by decide +kernel
theorem d_X_count_176 : decode c_X_count 176 = .ok (.new 65, 3) := by decide +kernel
theorem d_X_count_179 : decode c_X_count 179 = .ok (.dup, 1) := by decide +kernel
theorem d_X_count_180 : decode c_X_count 180 = .ok (.invokespecial 67, 3) := by decide +kernel
theorem d_X_count_183 : decode c_X_count 183 = .ok (.athrow, 1) := by decide +kernel
end
section
theorem d_M_init_0 : decode c_M_init 0 = .ok (.aload_n 0, 1) := by decide +kernel
theorem d_M_init_1 : decode c_M_init 1 = .ok (.invokespecial 1, 3) := by decide +kernel
theorem d_M_init_4 : decode c_M_init 4 = .ok (.aload_n 0, 1) := by decide +kernel
theorem d_M_init_5 : decode c_M_init 5 = .ok (.bipush 16, 2) := by decide +kernel
theorem d_M_init_7 : decode c_M_init 7 = .ok (.newarray .int, 2) := by decide +kernel
theorem d_M_init_9 : decode c_M_init 9 = .ok (.putfield 7, 3) := by decide +kernel
theorem d_M_init_12 : decode c_M_init 12 = .ok (.aload_n 0, 1) := by decide +kernel
theorem d_M_init_13 : decode c_M_init 13 = .ok (.iconst 3, 1) := by decide +kernel
theorem d_M_init_14 : decode c_M_init 14 = .ok (.newarray .int, 2) := by decide +kernel
theorem d_M_init_16 : decode c_M_init 16 = .ok (.putfield 13, 3) := by decide +kernel
theorem d_M_init_19 : decode c_M_init 19 = .ok (.aload_n 0, 1) := by decide +kernel
theorem d_M_init_20 : decode c_M_init 20 = .ok (.bipush 8, 2) := by decide +kernel
theorem d_M_init_22 : decode c_M_init 22 = .ok (.newarray .int, 2) := by decide +kernel
theorem d_M_init_24 : decode c_M_init 24 = .ok (.putfield 16, 3) := by decide +kernel
theorem d_M_init_27 : decode c_M_init 27 = .ok (.aload_n 0, 1) := by decide +kernel
theorem d_M_init_28 : decode c_M_init 28 = .ok (.bipush 16, 2) := by decide +kernel
theorem d_M_init_30 : decode c_M_init 30 = .ok (.newarray .int, 2) := by decide +kernel
theorem d_M_init_32 : decode c_M_init 32 = .ok (.putfield 19, 3) := by decide +kernel
theorem d_M_init_35 : decode c_M_init 35 = .ok (.aload_n 0, 1) := by decide +kernel
theorem d_M_init_36 : decode c_M_init 36 = .ok (.iconst 3, 1) := by decide +kernel
theorem d_M_init_37 : decode c_M_init 37 = .ok (.newarray .int, 2) := by decide +kernel
theorem d_M_init_39 : decode c_M_init 39 = .ok (.putfield 22, 3) := by decide +kernel
theorem d_M_init_42 : decode c_M_init 42 = .ok (.aload_n 0, 1) := by decide +kernel
theorem d_M_init_43 : decode c_M_init 43 = .ok (.bipush 8, 2) := by decide +kernel
theorem d_M_init_45 : decode c_M_init 45 = .ok (.newarray .int, 2) := by decide +kernel
theorem d_M_init_47 : decode c_M_init 47 = .ok (.putfield 25, 3) := by decide +kernel
theorem d_M_init_50 : decode c_M_init 50 = .ok (.aload_n 0, 1) := by decide +kernel
theorem d_M_init_51 : decode c_M_init 51 = .ok (.bipush 123, 2) := by decide +kernel
theorem d_M_init_53 : decode c_M_init 53 = .ok (.newarray .int, 2) := by decide +kernel
theorem d_M_init_55 : decode c_M_init 55 = .ok (.putfield 28, 3) := by decide +kernel
theorem d_M_init_58 : decode c_M_init 58 = .ok (.aload_n 0, 1) := by decide +kernel
theorem d_M_init_59 : decode c_M_init 59 = .ok (.sipush 984, 3) := by decide +kernel
theorem d_M_init_62 : decode c_M_init 62 = .ok (.newarray .int, 2) := by decide +kernel
theorem d_M_init_64 : decode c_M_init 64 = .ok (.putfield 31, 3) := by decide +kernel
theorem d_M_init_67 : decode c_M_init 67 = .ok (.aload_n 0, 1) := by decide +kernel
theorem d_M_init_68 : decode c_M_init 68 = .ok (.bipush 41, 2) := by decide +kernel
theorem d_M_init_70 : decode c_M_init 70 = .ok (.newarray .int, 2) := by decide +kernel
theorem d_M_init_72 : decode c_M_init 72 = .ok (.putfield 34, 3) := by decide +kernel
theorem d_M_init_75 : decode c_M_init 75 = .ok (.aload_n 0, 1) := by decide +kernel
theorem d_M_init_76 : decode c_M_init 76 = .ok (.bipush 41, 2) := by decide +kernel
theorem d_M_init_78 : decode c_M_init 78 = .ok (.newarray .int, 2) := by decide +kernel
theorem d_M_init_80 : decode c_M_init 80 = .ok (.putfield 37, 3) := by decide +kernel
theorem d_M_init_83 : decode c_M_init 83 = .ok (.aload_n 0, 1) := by decide +kernel
theorem d_M_init_84 : decode c_M_init 84 = .ok (.bipush 41, 2) := by decide +kernel
theorem d_M_init_86 : decode c_M_init 86 = .ok (.newarray .int, 2) := by decide +kernel
theorem d_M_init_88 : decode c_M_init 88 = .ok (.putfield 40, 3) := by decide +kernel
theorem d_M_init_91 : decode c_M_init 91 = .ok (.aload_n 0, 1) := by decide +kernel
theorem d_M_init_92 : decode c_M_init 92 = .ok (.bipush 40, 2) := by decide +kernel
theorem d_M_init_94 : decode c_M_init 94 = .ok (.newarray .int, 2) := by decide +kernel
theorem d_M_init_96 : decode c_M_init 96 = .ok (.putfield 43, 3) := by decide +kernel
theorem d_M_init_99 : decode c_M_init 99 = .ok (.aload_n 0, 1) := by decide +kernel
theorem d_M_init_100 : decode c_M_init 100 = .ok (.bipush 40, 2) := by decide +kernel
theorem d_M_init_102 : decode c_M_init 102 = .ok (.newarray .int, 2) := by decide +kernel
theorem d_M_init_104 : decode c_M_init 104 = .ok (.putfield 46, 3) := by decide +kernel
theorem d_M_init_107 : decode c_M_init 107 = .ok (.aload_n 0, 1) := by decide +kernel
theorem d_M_init_108 : decode c_M_init 108 = .ok (.bipush 40, 2) := by decide +kernel
theorem d_M_init_110 : decode c_M_init 110 = .ok (.newarray .boolean, 2) := by decide +kernel
theorem d_M_init_112 : decode c_M_init 112 = .ok (.putfield 49, 3) := by decide +kernel
theorem d_M_init_115 : decode c_M_init 115 = .ok (.aload_n 0, 1) := by decide +kernel
theorem d_M_init_116 : decode c_M_init 116 = .ok (.bipush 40, 2) := by decide +kernel
theorem d_M_init_118 : decode c_M_init 118 = .ok (.newarray .boolean, 2) := by decide +kernel
theorem d_M_init_120 : decode c_M_init 120 = .ok (.putfield 53, 3) := by decide +kernel
theorem d_M_init_123 : decode c_M_init 123 = .ok (.aload_n 0, 1) := by decide +kernel
theorem d_M_init_124 : decode c_M_init 124 = .ok (.bipush 6, 2) := by decide +kernel
theorem d_M_init_126 : decode c_M_init 126 = .ok (.newarray .int, 2) := by decide +kernel
theorem d_M_init_128 : decode c_M_init 128 = .ok (.putfield 56, 3) := by decide +kernel
theorem d_M_init_131 : decode c_M_init 131 = .ok (.aload_n 0, 1) := by decide +kernel
theorem d_M_init_132 : decode c_M_init 132 = .ok (.bipush 6, 2) := by decide +kernel
theorem d_M_init_134 : decode c_M_init 134 = .ok (.newarray .int, 2) := by decide +kernel
theorem d_M_init_136 : decode c_M_init 136 = .ok (.putfield 59, 3) := by decide +kernel
theorem d_M_init_139 : decode c_M_init 139 = .ok (.aload_n 0, 1) := by decide +kernel
theorem d_M_init_140 : decode c_M_init 140 = .ok (.bipush 6, 2) := by decide +kernel
theorem d_M_init_142 : decode c_M_init 142 = .ok (.newarray .int, 2) := by decide +kernel
theorem d_M_init_144 : decode c_M_init 144 = .ok (.putfield 62, 3) := by decide +kernel
theorem d_M_init_147 : decode c_M_init 147 = .ok (.aload_n 0, 1) := by decide +kernel
theorem d_M_init_148 : decode c_M_init 148 = .ok (.bipush 6, 2) := by decide +kernel
theorem d_M_init_150 : decode c_M_init 150 = .ok (.newarray .int, 2) := by decide +kernel
theorem d_M_init_152 : decode c_M_init 152 = .ok (.putfield 65, 3) := by decide +kernel
theorem d_M_init_155 : decode c_M_init 155 = .ok (.aload_n 0, 1) := by decide +kernel
theorem d_M_init_156 : decode c_M_init 156 = .ok (.bipush 6, 2) := by decide +kernel
theorem d_M_init_158 : decode c_M_init 158 = .ok (.newarray .int, 2) := by decide +kernel
theorem d_M_init_160 : decode c_M_init 160 = .ok (.putfield 68, 3) := by decide +kernel
theorem d_M_init_163 : decode c_M_init 163 = .ok (.aload_n 0, 1) := by decide +kernel
theorem d_M_init_164 : decode c_M_init 164 = .ok (.bipush 6, 2) := by decide +kernel
theorem d_M_init_166 : decode c_M_init 166 = .ok (.newarray .int, 2) := by decide +kernel
theorem d_M_init_168 : decode c_M_init 168 = .ok (.putfield 71, 3) := by decide +kernel
theorem d_M_init_171 : decode c_M_init 171 = .ok (.aload_n 0, 1) := by decide +kernel
theorem d_M_init_172 : decode c_M_init 172 = .ok (.bipush 9, 2) := by decide +kernel
theorem d_M_init_174 : decode c_M_init 174 = .ok (.newarray .int, 2) := by decide +kernel
theorem d_M_init_176 : decode c_M_init 176 = .ok (.putfield 74, 3) := by decide +kernel
theorem d_M_init_179 : decode c_M_init 179 = .ok (.aload_n 0, 1) := by decide +kernel
theorem d_M_init_180 : decode c_M_init 180 = .ok (.bipush 6, 2) := by decide +kernel
theorem d_M_init_182 : decode c_M_init 182 = .ok (.newarray .double, 2) := by decide +kernel
theorem d_M_init_184 : decode c_M_init 184 = .ok (.putfield 77, 3) := by decide +kernel
theorem d_M_init_187 : decode c_M_init 187 = .ok (.aload_n 0, 1) := by decide +kernel
theorem d_M_init_188 : decode c_M_init 188 = .ok (.bipush 9, 2) := by decide +kernel
theorem d_M_init_190 : decode c_M_init 190 = .ok (.newarray .float, 2) := by decide +kernel
theorem d_M_init_192 : decode c_M_init 192 = .ok (.putfield 81, 3) := by decide +kernel
theorem d_M_init_195 : decode c_M_init 195 = .ok (.aload_n 0, 1) := by decide +kernel
theorem d_M_init_196 : decode c_M_init 196 = .ok (.iconst 5, 1) := by decide +kernel
theorem d_M_init_197 : decode c_M_init 197 = .ok (.newarray .int, 2) := by decide +kernel
theorem d_M_init_199 : decode c_M_init 199 = .ok (.putfield 85, 3) := by decide +kernel
theorem d_M_init_202 : decode c_M_init 202 = .ok (.aload_n 0, 1) := by decide +kernel
theorem d_M_init_203 : decode c_M_init 203 = .ok (.iconst 5, 1) := by decide +kernel
theorem d_M_init_204 : decode c_M_init 204 = .ok (.newarray .int, 2) := by decide +kernel
theorem d_M_init_206 : decode c_M_init 206 = .ok (.putfield 88, 3) := by decide +kernel
theorem d_M_init_209 : decode c_M_init 209 = .ok (.aload_n 0, 1) := by decide +kernel
theorem d_M_init_210 : decode c_M_init 210 = .ok (.iconst 5, 1) := by decide +kernel
theorem d_M_init_211 : decode c_M_init 211 = .ok (.newarray .int, 2) := by decide +kernel
theorem d_M_init_213 : decode c_M_init 213 = .ok (.putfield 91, 3) := by decide +kernel
theorem d_M_init_216 : decode c_M_init 216 = .ok (.aload_n 0, 1) := by decide +kernel
theorem d_M_init_217 : decode c_M_init 217 = .ok (.getfield 40, 3) := by decide +kernel
theorem d_M_init_220 : decode c_M_init 220 = .ok (.bipush 40, 2) := by decide +kernel
theorem d_M_init_222 : decode c_M_init 222 = .ok (.iconst (-1), 1) := by decide +kernel
theorem d_M_init_223 : decode c_M_init 223 = .ok (.iastore, 1) := by decide +kernel
theorem d_M_init_224 : decode c_M_init 224 = .ok (.return_, 1) := by decide +kernel
theorem d_M_member_0 : decode c_M_member 0 = .ok (.aload_n 0, 1) := by decide +kernel
theorem d_M_member_1 : decode c_M_member 1 = .ok (.iload_n 1, 1) := by decide +kernel
theorem d_M_member_2 : decode c_M_member 2 = .ok (.iconst 0, 1) := by decide +kernel
theorem d_M_member_3 : decode c_M_member 3 = .ok (.bipush 15, 2) := by decide +kernel
theorem d_M_member_5 : decode c_M_member 5 = .ok (.invokestatic 98, 3) := by decide +kernel
theorem d_M_member_8 : decode c_M_member 8 = .ok (.ifCond .eq 23, 3) := by decide +kernel
theorem d_M_member_11 : decode c_M_member 11 = .ok (.iload_n 2, 1) := by decide +kernel
theorem d_M_member_12 : decode c_M_member 12 = .ok (.bipush 8, 2) := by decide +kernel
theorem d_M_member_14 : decode c_M_member 14 = .ok (.bipush 15, 2) := by decide +kernel
theorem d_M_member_16 : decode c_M_member 16 = .ok (.invokestatic 98, 3) := by decide +kernel
theorem d_M_member_19 : decode c_M_member 19 = .ok (.ifCond .eq 12, 3) := by decide +kernel
theorem d_M_member_22 : decode c_M_member 22 = .ok (.iload_n 1, 1) := by decide +kernel
theorem d_M_member_23 : decode c_M_member 23 = .ok (.iload_n 2, 1) := by decide +kernel
theorem d_M_member_24 : decode c_M_member 24 = .ok (.if_icmp .eq 7, 3) := by decide +kernel
theorem d_M_member_27 : decode c_M_member 27 = .ok (.iconst 0, 1) := by decide +kernel
theorem d_M_member_28 : decode c_M_member 28 = .ok (.goto 4, 3) := by decide +kernel
theorem d_M_member_31 : decode c_M_member 31 = .ok (.iconst 1, 1) := by decide +kernel
theorem d_M_member_32 : decode c_M_member 32 = .ok (.putfield 94, 3) := by decide +kernel
theorem d_M_member_35 : decode c_M_member 35 = .ok (.aload_n 0, 1) := by decide +kernel
theorem d_M_member_36 : decode c_M_member 36 = .ok (.getfield 94, 3) := by decide +kernel
theorem d_M_member_39 : decode c_M_member 39 = .ok (.ifCond .le 5, 3) := by decide +kernel
theorem d_M_member_42 : decode c_M_member 42 = .ok (.iconst 0, 1) := by decide +kernel
theorem d_M_member_43 : decode c_M_member 43 = .ok (.ireturn, 1) := by decide +kernel
theorem d_M_member_44 : decode c_M_member 44 = .ok (.iload_n 3, 1) := by decide +kernel
theorem d_M_member_45 : decode c_M_member 45 = .ok (.ifCond .eq 16, 3) := by decide +kernel
theorem d_M_member_48 : decode c_M_member 48 = .ok (.aload_n 0, 1) := by decide +kernel
theorem d_M_member_49 : decode c_M_member 49 = .ok (.getfield 7, 3) := by decide +kernel
theorem d_M_member_52 : decode c_M_member 52 = .ok (.iload_n 1, 1) := by decide +kernel
theorem d_M_member_53 : decode c_M_member 53 = .ok (.iaload, 1) := by decide +kernel
theorem d_M_member_54 : decode c_M_member 54 = .ok (.iconst 1, 1) := by decide +kernel
theorem d_M_member_55 : decode c_M_member 55 = .ok (.iload_n 2, 1) := by decide +kernel
theorem d_M_member_56 : decode c_M_member 56 = .ok (.ishl, 1) := by decide +kernel
theorem d_M_member_57 : decode c_M_member 57 = .ok (.ior, 1) := by decide +kernel
theorem d_M_member_58 : decode c_M_member 58 = .ok (.goto 15, 3) := by decide +kernel
theorem d_M_member_61 : decode c_M_member 61 = .ok (.aload_n 0, 1) := by decide +kernel
theorem d_M_member_62 : decode c_M_member 62 = .ok (.getfield 7, 3) := by decide +kernel
theorem d_M_member_65 : decode c_M_member 65 = .ok (.iload_n 1, 1) := by decide +kernel
theorem d_M_member_66 : decode c_M_member 66 = .ok (.iaload, 1) := by decide +kernel
theorem d_M_member_67 : decode c_M_member 67 = .ok (.iconst 1, 1) := by decide +kernel
theorem d_M_member_68 : decode c_M_member 68 = .ok (.iload_n 2, 1) := by decide +kernel
theorem d_M_member_69 : decode c_M_member 69 = .ok (.ishl, 1) := by decide +kernel
theorem d_M_member_70 : decode c_M_member 70 = .ok (.iconst (-1), 1) := by decide +kernel
theorem d_M_member_71 : decode c_M_member 71 = .ok (.ixor, 1) := by decide +kernel
theorem d_M_member_72 : decode c_M_member 72 = .ok (.iand, 1) := by decide +kernel
theorem d_M_member_73 : decode c_M_member 73 = .ok (.istore 4, 2) := by decide +kernel
theorem d_M_member_75 : decode c_M_member 75 = .ok (.iload 4, 2) := by decide +kernel
theorem d_M_member_77 : decode c_M_member 77 = .ok (.aload_n 0, 1) := by decide +kernel
theorem d_M_member_78 : decode c_M_member 78 = .ok (.getfield 7, 3) := by decide +kernel
theorem d_M_member_81 : decode c_M_member 81 = .ok (.iload_n 1, 1) := by decide +kernel
theorem d_M_member_82 : decode c_M_member 82 = .ok (.iaload, 1) := by decide +kernel
theorem d_M_member_83 : decode c_M_member 83 = .ok (.if_icmp .eq 7, 3) := by decide +kernel
theorem d_M_member_86 : decode c_M_member 86 = .ok (.iconst 1, 1) := by decide +kernel
theorem d_M_member_87 : decode c_M_member 87 = .ok (.goto 4, 3) := by decide +kernel
theorem d_M_member_90 : decode c_M_member 90 = .ok (.iconst 0, 1) := by decide +kernel
theorem d_M_member_91 : decode c_M_member 91 = .ok (.istore 5, 2) := by decide +kernel
theorem d_M_member_93 : decode c_M_member 93 = .ok (.aload_n 0, 1) := by decide +kernel
theorem d_M_member_94 : decode c_M_member 94 = .ok (.getfield 7, 3) := by decide +kernel
theorem d_M_member_97 : decode c_M_member 97 = .ok (.iload_n 1, 1) := by decide +kernel
theorem d_M_member_98 : decode c_M_member 98 = .ok (.iload 4, 2) := by decide +kernel
theorem d_M_member_100 : decode c_M_member 100 = .ok (.iastore, 1) := by decide +kernel
theorem d_M_member_101 : decode c_M_member 101 = .ok (.iload 5, 2) := by decide +kernel
theorem d_M_member_103 : decode c_M_member 103 = .ok (.ireturn, 1) := by decide +kernel
theorem d_M_add_0 : decode c_M_add 0 = .ok (.iload_n 1, 1) := by decide +kernel
theorem d_M_add_1 : decode c_M_add 1 = .ok (.iconst (-1), 1) := by decide +kernel
theorem d_M_add_2 : decode c_M_add 2 = .ok (.aload_n 0, 1) := by decide +kernel
theorem d_M_add_3 : decode c_M_add 3 = .ok (.getfield 116, 3) := by decide +kernel
theorem d_M_add_6 : decode c_M_add 6 = .ok (.iconst 1, 1) := by decide +kernel
theorem d_M_add_7 : decode c_M_add 7 = .ok (.isub, 1) := by decide +kernel
theorem d_M_add_8 : decode c_M_add 8 = .ok (.invokestatic 98, 3) := by decide +kernel
theorem d_M_add_11 : decode c_M_add 11 = .ok (.ifCond .ne 9, 3) := by decide +kernel
theorem d_M_add_14 : decode c_M_add 14 = .ok (.aload_n 0, 1) := by decide +kernel
theorem d_M_add_15 : decode c_M_add 15 = .ok (.iconst 1, 1) := by decide +kernel
theorem d_M_add_16 : decode c_M_add 16 = .ok (.invokevirtual 102, 3) := by decide +kernel
theorem d_M_add_19 : decode c_M_add 19 = .ok (.ireturn, 1) := by decide +kernel
theorem d_M_add_20 : decode c_M_add 20 = .ok (.aload_n 0, 1) := by decide +kernel
theorem d_M_add_21 : decode c_M_add 21 = .ok (.getfield 116, 3) := by decide +kernel
theorem d_M_add_24 : decode c_M_add 24 = .ok (.bipush 40, 2) := by decide +kernel
theorem d_M_add_26 : decode c_M_add 26 = .ok (.if_icmp .ne 9, 3) := by decide +kernel
theorem d_M_add_29 : decode c_M_add 29 = .ok (.aload_n 0, 1) := by decide +kernel
theorem d_M_add_30 : decode c_M_add 30 = .ok (.iconst 2, 1) := by decide +kernel
theorem d_M_add_31 : decode c_M_add 31 = .ok (.invokevirtual 102, 3) := by decide +kernel
theorem d_M_add_34 : decode c_M_add 34 = .ok (.ireturn, 1) := by decide +kernel
theorem d_M_add_35 : decode c_M_add 35 = .ok (.aload_n 0, 1) := by decide +kernel
theorem d_M_add_36 : decode c_M_add 36 = .ok (.iconst 0, 1) := by decide +kernel
theorem d_M_add_37 : decode c_M_add 37 = .ok (.putfield 94, 3) := by decide +kernel
theorem d_M_add_40 : decode c_M_add 40 = .ok (.aload_n 0, 1) := by decide +kernel
theorem d_M_add_41 : decode c_M_add 41 = .ok (.getfield 116, 3) := by decide +kernel
theorem d_M_add_44 : decode c_M_add 44 = .ok (.istore_n 2, 1) := by decide +kernel
theorem d_M_add_45 : decode c_M_add 45 = .ok (.aload_n 0, 1) := by decide +kernel
theorem d_M_add_46 : decode c_M_add 46 = .ok (.dup, 1) := by decide +kernel
theorem d_M_add_47 : decode c_M_add 47 = .ok (.getfield 116, 3) := by decide +kernel
theorem d_M_add_50 : decode c_M_add 50 = .ok (.iconst 1, 1) := by decide +kernel
theorem d_M_add_51 : decode c_M_add 51 = .ok (.iadd, 1) := by decide +kernel
theorem d_M_add_52 : decode c_M_add 52 = .ok (.putfield 116, 3) := by decide +kernel
theorem d_M_add_55 : decode c_M_add 55 = .ok (.iconst 0, 1) := by decide +kernel
theorem d_M_add_56 : decode c_M_add 56 = .ok (.istore_n 3, 1) := by decide +kernel
theorem d_M_add_57 : decode c_M_add 57 = .ok (.iload_n 3, 1) := by decide +kernel
theorem d_M_add_58 : decode c_M_add 58 = .ok (.bipush 24, 2) := by decide +kernel
theorem d_M_add_60 : decode c_M_add 60 = .ok (.if_icmp .ge 41, 3) := by decide +kernel
theorem d_M_add_63 : decode c_M_add 63 = .ok (.aload_n 0, 1) := by decide +kernel
theorem d_M_add_64 : decode c_M_add 64 = .ok (.getfield 31, 3) := by decide +kernel
theorem d_M_add_67 : decode c_M_add 67 = .ok (.bipush 24, 2) := by decide +kernel
theorem d_M_add_69 : decode c_M_add 69 = .ok (.iload_n 2, 1) := by decide +kernel
theorem d_M_add_70 : decode c_M_add 70 = .ok (.imul, 1) := by decide +kernel
theorem d_M_add_71 : decode c_M_add 71 = .ok (.iload_n 3, 1) := by decide +kernel
theorem d_M_add_72 : decode c_M_add 72 = .ok (.iadd, 1) := by decide +kernel
theorem d_M_add_73 : decode c_M_add 73 = .ok (.aload_n 0, 1) := by decide +kernel
theorem d_M_add_74 : decode c_M_add 74 = .ok (.getfield 31, 3) := by decide +kernel
theorem d_M_add_77 : decode c_M_add 77 = .ok (.sipush 960, 3) := by decide +kernel
theorem d_M_add_80 : decode c_M_add 80 = .ok (.iload_n 3, 1) := by decide +kernel
theorem d_M_add_81 : decode c_M_add 81 = .ok (.iadd, 1) := by decide +kernel
theorem d_M_add_82 : decode c_M_add 82 = .ok (.iaload, 1) := by decide +kernel
theorem d_M_add_83 : decode c_M_add 83 = .ok (.iastore, 1) := by decide +kernel
theorem d_M_add_84 : decode c_M_add 84 = .ok (.aload_n 0, 1) := by decide +kernel
theorem d_M_add_85 : decode c_M_add 85 = .ok (.getfield 31, 3) := by decide +kernel
theorem d_M_add_88 : decode c_M_add 88 = .ok (.sipush 960, 3) := by decide +kernel
theorem d_M_add_91 : decode c_M_add 91 = .ok (.iload_n 3, 1) := by decide +kernel
theorem d_M_add_92 : decode c_M_add 92 = .ok (.iadd, 1) := by decide +kernel
theorem d_M_add_93 : decode c_M_add 93 = .ok (.iconst 0, 1) := by decide +kernel
theorem d_M_add_94 : decode c_M_add 94 = .ok (.iastore, 1) := by decide +kernel
theorem d_M_add_95 : decode c_M_add 95 = .ok (.iinc 3 1, 3) := by decide +kernel
theorem d_M_add_98 : decode c_M_add 98 = .ok (.goto (-41), 3) := by decide +kernel
theorem d_M_add_101 : decode c_M_add 101 = .ok (.iconst 0, 1) := by decide +kernel
theorem d_M_add_102 : decode c_M_add 102 = .ok (.istore_n 3, 1) := by decide +kernel
theorem d_M_add_103 : decode c_M_add 103 = .ok (.iload_n 3, 1) := by decide +kernel
theorem d_M_add_104 : decode c_M_add 104 = .ok (.iconst 3, 1) := by decide +kernel
theorem d_M_add_105 : decode c_M_add 105 = .ok (.if_icmp .ge 38, 3) := by decide +kernel
theorem d_M_add_108 : decode c_M_add 108 = .ok (.aload_n 0, 1) := by decide +kernel
theorem d_M_add_109 : decode c_M_add 109 = .ok (.getfield 28, 3) := by decide +kernel
theorem d_M_add_112 : decode c_M_add 112 = .ok (.iconst 3, 1) := by decide +kernel
theorem d_M_add_113 : decode c_M_add 113 = .ok (.iload_n 2, 1) := by decide +kernel
theorem d_M_add_114 : decode c_M_add 114 = .ok (.imul, 1) := by decide +kernel
theorem d_M_add_115 : decode c_M_add 115 = .ok (.iload_n 3, 1) := by decide +kernel
theorem d_M_add_116 : decode c_M_add 116 = .ok (.iadd, 1) := by decide +kernel
theorem d_M_add_117 : decode c_M_add 117 = .ok (.aload_n 0, 1) := by decide +kernel
theorem d_M_add_118 : decode c_M_add 118 = .ok (.getfield 28, 3) := by decide +kernel
theorem d_M_add_121 : decode c_M_add 121 = .ok (.bipush 120, 2) := by decide +kernel
theorem d_M_add_123 : decode c_M_add 123 = .ok (.iload_n 3, 1) := by decide +kernel
theorem d_M_add_124 : decode c_M_add 124 = .ok (.iadd, 1) := by decide +kernel
theorem d_M_add_125 : decode c_M_add 125 = .ok (.iaload, 1) := by decide +kernel
theorem d_M_add_126 : decode c_M_add 126 = .ok (.iastore, 1) := by decide +kernel
theorem d_M_add_127 : decode c_M_add 127 = .ok (.aload_n 0, 1) := by decide +kernel
theorem d_M_add_128 : decode c_M_add 128 = .ok (.getfield 28, 3) := by decide +kernel
theorem d_M_add_131 : decode c_M_add 131 = .ok (.bipush 120, 2) := by decide +kernel
theorem d_M_add_133 : decode c_M_add 133 = .ok (.iload_n 3, 1) := by decide +kernel
theorem d_M_add_134 : decode c_M_add 134 = .ok (.iadd, 1) := by decide +kernel
theorem d_M_add_135 : decode c_M_add 135 = .ok (.iconst 0, 1) := by decide +kernel
theorem d_M_add_136 : decode c_M_add 136 = .ok (.iastore, 1) := by decide +kernel
theorem d_M_add_137 : decode c_M_add 137 = .ok (.iinc 3 1, 3) := by decide +kernel
theorem d_M_add_140 : decode c_M_add 140 = .ok (.goto (-37), 3) := by decide +kernel
theorem d_M_add_143 : decode c_M_add 143 = .ok (.aload_n 0, 1) := by decide +kernel
theorem d_M_add_144 : decode c_M_add 144 = .ok (.getfield 34, 3) := by decide +kernel
theorem d_M_add_147 : decode c_M_add 147 = .ok (.iload_n 2, 1) := by decide +kernel
theorem d_M_add_148 : decode c_M_add 148 = .ok (.aload_n 0, 1) := by decide +kernel
theorem d_M_add_149 : decode c_M_add 149 = .ok (.getfield 34, 3) := by decide +kernel
theorem d_M_add_152 : decode c_M_add 152 = .ok (.bipush 40, 2) := by decide +kernel
theorem d_M_add_154 : decode c_M_add 154 = .ok (.iaload, 1) := by decide +kernel
theorem d_M_add_155 : decode c_M_add 155 = .ok (.iastore, 1) := by decide +kernel
theorem d_M_add_156 : decode c_M_add 156 = .ok (.aload_n 0, 1) := by decide +kernel
theorem d_M_add_157 : decode c_M_add 157 = .ok (.getfield 37, 3) := by decide +kernel
theorem d_M_add_160 : decode c_M_add 160 = .ok (.iload_n 2, 1) := by decide +kernel
theorem d_M_add_161 : decode c_M_add 161 = .ok (.aload_n 0, 1) := by decide +kernel
theorem d_M_add_162 : decode c_M_add 162 = .ok (.getfield 37, 3) := by decide +kernel
theorem d_M_add_165 : decode c_M_add 165 = .ok (.bipush 40, 2) := by decide +kernel
theorem d_M_add_167 : decode c_M_add 167 = .ok (.iaload, 1) := by decide +kernel
theorem d_M_add_168 : decode c_M_add 168 = .ok (.iastore, 1) := by decide +kernel
theorem d_M_add_169 : decode c_M_add 169 = .ok (.aload_n 0, 1) := by decide +kernel
theorem d_M_add_170 : decode c_M_add 170 = .ok (.getfield 34, 3) := by decide +kernel
theorem d_M_add_173 : decode c_M_add 173 = .ok (.bipush 40, 2) := by decide +kernel
theorem d_M_add_175 : decode c_M_add 175 = .ok (.iconst 0, 1) := by decide +kernel
theorem d_M_add_176 : decode c_M_add 176 = .ok (.iastore, 1) := by decide +kernel
theorem d_M_add_177 : decode c_M_add 177 = .ok (.aload_n 0, 1) := by decide +kernel
theorem d_M_add_178 : decode c_M_add 178 = .ok (.getfield 37, 3) := by decide +kernel
theorem d_M_add_181 : decode c_M_add 181 = .ok (.bipush 40, 2) := by decide +kernel
theorem d_M_add_183 : decode c_M_add 183 = .ok (.iconst 0, 1) := by decide +kernel
theorem d_M_add_184 : decode c_M_add 184 = .ok (.iastore, 1) := by decide +kernel
theorem d_M_add_185 : decode c_M_add 185 = .ok (.aload_n 0, 1) := by decide +kernel
theorem d_M_add_186 : decode c_M_add 186 = .ok (.getfield 40, 3) := by decide +kernel
theorem d_M_add_189 : decode c_M_add 189 = .ok (.iload_n 2, 1) := by decide +kernel
theorem d_M_add_190 : decode c_M_add 190 = .ok (.iload_n 1, 1) := by decide +kernel
theorem d_M_add_191 : decode c_M_add 191 = .ok (.iastore, 1) := by decide +kernel
theorem d_M_add_192 : decode c_M_add 192 = .ok (.aload_n 0, 1) := by decide +kernel
theorem d_M_add_193 : decode c_M_add 193 = .ok (.getfield 43, 3) := by decide +kernel
theorem d_M_add_196 : decode c_M_add 196 = .ok (.iload_n 2, 1) := by decide +kernel
theorem d_M_add_197 : decode c_M_add 197 = .ok (.iconst (-1), 1) := by decide +kernel
theorem d_M_add_198 : decode c_M_add 198 = .ok (.iastore, 1) := by decide +kernel
theorem d_M_add_199 : decode c_M_add 199 = .ok (.aload_n 0, 1) := by decide +kernel
theorem d_M_add_200 : decode c_M_add 200 = .ok (.getfield 46, 3) := by decide +kernel
theorem d_M_add_203 : decode c_M_add 203 = .ok (.iload_n 2, 1) := by decide +kernel
theorem d_M_add_204 : decode c_M_add 204 = .ok (.bipush (-2), 2) := by decide +kernel
theorem d_M_add_206 : decode c_M_add 206 = .ok (.iastore, 1) := by decide +kernel
theorem d_M_add_207 : decode c_M_add 207 = .ok (.iload_n 2, 1) := by decide +kernel
theorem d_M_add_208 : decode c_M_add 208 = .ok (.ireturn, 1) := by decide +kernel
theorem d_M_merge_0 : decode c_M_merge 0 = .ok (.aload_n 0, 1) := by decide +kernel
theorem d_M_merge_1 : decode c_M_merge 1 = .ok (.iconst 0, 1) := by decide +kernel
theorem d_M_merge_2 : decode c_M_merge 2 = .ok (.putfield 94, 3) := by decide +kernel
theorem d_M_merge_5 : decode c_M_merge 5 = .ok (.iconst 0, 1) := by decide +kernel
theorem d_M_merge_6 : decode c_M_merge 6 = .ok (.istore_n 1, 1) := by decide +kernel
theorem d_M_merge_7 : decode c_M_merge 7 = .ok (.iconst 0, 1) := by decide +kernel
theorem d_M_merge_8 : decode c_M_merge 8 = .ok (.istore_n 2, 1) := by decide +kernel
theorem d_M_merge_9 : decode c_M_merge 9 = .ok (.iconst 0, 1) := by decide +kernel
theorem d_M_merge_10 : decode c_M_merge 10 = .ok (.istore_n 3, 1) := by decide +kernel
theorem d_M_merge_11 : decode c_M_merge 11 = .ok (.iload_n 3, 1) := by decide +kernel
theorem d_M_merge_12 : decode c_M_merge 12 = .ok (.aload_n 0, 1) := by decide +kernel
theorem d_M_merge_13 : decode c_M_merge 13 = .ok (.getfield 116, 3) := by decide +kernel
theorem d_M_merge_16 : decode c_M_merge 16 = .ok (.if_icmp .ge 39, 3) := by decide +kernel
theorem d_M_merge_19 : decode c_M_merge 19 = .ok (.aload_n 0, 1) := by decide +kernel
theorem d_M_merge_20 : decode c_M_merge 20 = .ok (.getfield 43, 3) := by decide +kernel
theorem d_M_merge_23 : decode c_M_merge 23 = .ok (.iload_n 3, 1) := by decide +kernel
theorem d_M_merge_24 : decode c_M_merge 24 = .ok (.iaload, 1) := by decide +kernel
theorem d_M_merge_25 : decode c_M_merge 25 = .ok (.ifCond .ge 6, 3) := by decide +kernel
theorem d_M_merge_28 : decode c_M_merge 28 = .ok (.goto 21, 3) := by decide +kernel
theorem d_M_merge_31 : decode c_M_merge 31 = .ok (.aload_n 0, 1) := by decide +kernel
theorem d_M_merge_32 : decode c_M_merge 32 = .ok (.getfield 49, 3) := by decide +kernel
theorem d_M_merge_35 : decode c_M_merge 35 = .ok (.iload_n 3, 1) := by decide +kernel
theorem d_M_merge_36 : decode c_M_merge 36 = .ok (.baload, 1) := by decide +kernel
theorem d_M_merge_37 : decode c_M_merge 37 = .ok (.ifCond .eq 9, 3) := by decide +kernel
theorem d_M_merge_40 : decode c_M_merge 40 = .ok (.iinc 1 1, 3) := by decide +kernel
theorem d_M_merge_43 : decode c_M_merge 43 = .ok (.goto 6, 3) := by decide +kernel
theorem d_M_merge_46 : decode c_M_merge 46 = .ok (.iinc 2 1, 3) := by decide +kernel
theorem d_M_merge_49 : decode c_M_merge 49 = .ok (.iinc 3 1, 3) := by decide +kernel
theorem d_M_merge_52 : decode c_M_merge 52 = .ok (.goto (-41), 3) := by decide +kernel
theorem d_M_merge_55 : decode c_M_merge 55 = .ok (.aload_n 0, 1) := by decide +kernel
theorem d_M_merge_56 : decode c_M_merge 56 = .ok (.getfield 119, 3) := by decide +kernel
theorem d_M_merge_59 : decode c_M_merge 59 = .ok (.iconst 2, 1) := by decide +kernel
theorem d_M_merge_60 : decode c_M_merge 60 = .ok (.if_icmp .ge 9, 3) := by decide +kernel
theorem d_M_merge_63 : decode c_M_merge 63 = .ok (.iload_n 1, 1) := by decide +kernel
theorem d_M_merge_64 : decode c_M_merge 64 = .ok (.ifCond .ne 5, 3) := by decide +kernel
theorem d_M_merge_67 : decode c_M_merge 67 = .ok (.iconst 0, 1) := by decide +kernel
theorem d_M_merge_68 : decode c_M_merge 68 = .ok (.ireturn, 1) := by decide +kernel
theorem d_M_merge_69 : decode c_M_merge 69 = .ok (.iconst 0, 1) := by decide +kernel
theorem d_M_merge_70 : decode c_M_merge 70 = .ok (.istore_n 3, 1) := by decide +kernel
theorem d_M_merge_71 : decode c_M_merge 71 = .ok (.iload_n 3, 1) := by decide +kernel
theorem d_M_merge_72 : decode c_M_merge 72 = .ok (.aload_n 0, 1) := by decide +kernel
theorem d_M_merge_73 : decode c_M_merge 73 = .ok (.getfield 116, 3) := by decide +kernel
theorem d_M_merge_76 : decode c_M_merge 76 = .ok (.if_icmp .ge 42, 3) := by decide +kernel
theorem d_M_merge_79 : decode c_M_merge 79 = .ok (.aload_n 0, 1) := by decide +kernel
theorem d_M_merge_80 : decode c_M_merge 80 = .ok (.getfield 43, 3) := by decide +kernel
theorem d_M_merge_83 : decode c_M_merge 83 = .ok (.iload_n 3, 1) := by decide +kernel
theorem d_M_merge_84 : decode c_M_merge 84 = .ok (.iaload, 1) := by decide +kernel
theorem d_M_merge_85 : decode c_M_merge 85 = .ok (.ifCond .lt 27, 3) := by decide +kernel
theorem d_M_merge_88 : decode c_M_merge 88 = .ok (.aload_n 0, 1) := by decide +kernel
theorem d_M_merge_89 : decode c_M_merge 89 = .ok (.getfield 43, 3) := by decide +kernel
theorem d_M_merge_92 : decode c_M_merge 92 = .ok (.iload_n 3, 1) := by decide +kernel
theorem d_M_merge_93 : decode c_M_merge 93 = .ok (.aload_n 0, 1) := by decide +kernel
theorem d_M_merge_94 : decode c_M_merge 94 = .ok (.getfield 49, 3) := by decide +kernel
theorem d_M_merge_97 : decode c_M_merge 97 = .ok (.iload_n 3, 1) := by decide +kernel
theorem d_M_merge_98 : decode c_M_merge 98 = .ok (.baload, 1) := by decide +kernel
theorem d_M_merge_99 : decode c_M_merge 99 = .ok (.ifCond .eq 8, 3) := by decide +kernel
theorem d_M_merge_102 : decode c_M_merge 102 = .ok (.bipush (-2), 2) := by decide +kernel
theorem d_M_merge_104 : decode c_M_merge 104 = .ok (.goto 7, 3) := by decide +kernel
theorem d_M_merge_107 : decode c_M_merge 107 = .ok (.aload_n 0, 1) := by decide +kernel
theorem d_M_merge_108 : decode c_M_merge 108 = .ok (.getfield 125, 3) := by decide +kernel
theorem d_M_merge_111 : decode c_M_merge 111 = .ok (.iastore, 1) := by decide +kernel
theorem d_M_merge_112 : decode c_M_merge 112 = .ok (.iinc 3 1, 3) := by decide +kernel
theorem d_M_merge_115 : decode c_M_merge 115 = .ok (.goto (-44), 3) := by decide +kernel
theorem d_M_merge_118 : decode c_M_merge 118 = .ok (.aload_n 0, 1) := by decide +kernel
theorem d_M_merge_119 : decode c_M_merge 119 = .ok (.getfield 56, 3) := by decide +kernel
theorem d_M_merge_122 : decode c_M_merge 122 = .ok (.iconst 0, 1) := by decide +kernel
theorem d_M_merge_123 : decode c_M_merge 123 = .ok (.aload_n 0, 1) := by decide +kernel
theorem d_M_merge_124 : decode c_M_merge 124 = .ok (.getfield 125, 3) := by decide +kernel
theorem d_M_merge_127 : decode c_M_merge 127 = .ok (.iastore, 1) := by decide +kernel
theorem d_M_merge_128 : decode c_M_merge 128 = .ok (.aload_n 0, 1) := by decide +kernel
theorem d_M_merge_129 : decode c_M_merge 129 = .ok (.iload_n 2, 1) := by decide +kernel
theorem d_M_merge_130 : decode c_M_merge 130 = .ok (.ifCond .le 7, 3) := by decide +kernel
theorem d_M_merge_133 : decode c_M_merge 133 = .ok (.iconst 1, 1) := by decide +kernel
theorem d_M_merge_134 : decode c_M_merge 134 = .ok (.goto 4, 3) := by decide +kernel
theorem d_M_merge_137 : decode c_M_merge 137 = .ok (.iconst 0, 1) := by decide +kernel
theorem d_M_merge_138 : decode c_M_merge 138 = .ok (.putfield 119, 3) := by decide +kernel
theorem d_M_merge_141 : decode c_M_merge 141 = .ok (.aload_n 0, 1) := by decide +kernel
theorem d_M_merge_142 : decode c_M_merge 142 = .ok (.dup, 1) := by decide +kernel
theorem d_M_merge_143 : decode c_M_merge 143 = .ok (.getfield 125, 3) := by decide +kernel
theorem d_M_merge_146 : decode c_M_merge 146 = .ok (.iconst 1, 1) := by decide +kernel
theorem d_M_merge_147 : decode c_M_merge 147 = .ok (.iadd, 1) := by decide +kernel
theorem d_M_merge_148 : decode c_M_merge 148 = .ok (.putfield 125, 3) := by decide +kernel
theorem d_M_merge_151 : decode c_M_merge 151 = .ok (.iload_n 1, 1) := by decide +kernel
theorem d_M_merge_152 : decode c_M_merge 152 = .ok (.ireturn, 1) := by decide +kernel
theorem d_M_refresh_0 : decode c_M_refresh 0 = .ok (.aload_n 0, 1) := by decide +kernel
theorem d_M_refresh_1 : decode c_M_refresh 1 = .ok (.iconst 0, 1) := by decide +kernel
theorem d_M_refresh_2 : decode c_M_refresh 2 = .ok (.putfield 94, 3) := by decide +kernel
theorem d_M_refresh_5 : decode c_M_refresh 5 = .ok (.aload_n 0, 1) := by decide +kernel
theorem d_M_refresh_6 : decode c_M_refresh 6 = .ok (.invokevirtual 134, 3) := by decide +kernel
theorem d_M_refresh_9 : decode c_M_refresh 9 = .ok (.istore_n 1, 1) := by decide +kernel
theorem d_M_refresh_10 : decode c_M_refresh 10 = .ok (.aload_n 0, 1) := by decide +kernel
theorem d_M_refresh_11 : decode c_M_refresh 11 = .ok (.aload_n 0, 1) := by decide +kernel
theorem d_M_refresh_12 : decode c_M_refresh 12 = .ok (.getfield 119, 3) := by decide +kernel
theorem d_M_refresh_15 : decode c_M_refresh 15 = .ok (.putfield 128, 3) := by decide +kernel
theorem d_M_refresh_18 : decode c_M_refresh 18 = .ok (.iconst 0, 1) := by decide +kernel
theorem d_M_refresh_19 : decode c_M_refresh 19 = .ok (.istore_n 2, 1) := by decide +kernel
theorem d_M_refresh_20 : decode c_M_refresh 20 = .ok (.iload_n 2, 1) := by decide +kernel
theorem d_M_refresh_21 : decode c_M_refresh 21 = .ok (.aload_n 0, 1) := by decide +kernel
theorem d_M_refresh_22 : decode c_M_refresh 22 = .ok (.getfield 119, 3) := by decide +kernel
theorem d_M_refresh_25 : decode c_M_refresh 25 = .ok (.if_icmp .ge 21, 3) := by decide +kernel
theorem d_M_refresh_28 : decode c_M_refresh 28 = .ok (.aload_n 0, 1) := by decide +kernel
theorem d_M_refresh_29 : decode c_M_refresh 29 = .ok (.getfield 59, 3) := by decide +kernel
theorem d_M_refresh_32 : decode c_M_refresh 32 = .ok (.iload_n 2, 1) := by decide +kernel
theorem d_M_refresh_33 : decode c_M_refresh 33 = .ok (.aload_n 0, 1) := by decide +kernel
theorem d_M_refresh_34 : decode c_M_refresh 34 = .ok (.getfield 56, 3) := by decide +kernel
theorem d_M_refresh_37 : decode c_M_refresh 37 = .ok (.iload_n 2, 1) := by decide +kernel
theorem d_M_refresh_38 : decode c_M_refresh 38 = .ok (.iaload, 1) := by decide +kernel
theorem d_M_refresh_39 : decode c_M_refresh 39 = .ok (.iastore, 1) := by decide +kernel
theorem d_M_refresh_40 : decode c_M_refresh 40 = .ok (.iinc 2 1, 3) := by decide +kernel
theorem d_M_refresh_43 : decode c_M_refresh 43 = .ok (.goto (-23), 3) := by decide +kernel
theorem d_M_refresh_46 : decode c_M_refresh 46 = .ok (.iconst 0, 1) := by decide +kernel
theorem d_M_refresh_47 : decode c_M_refresh 47 = .ok (.istore_n 2, 1) := by decide +kernel
theorem d_M_refresh_48 : decode c_M_refresh 48 = .ok (.iconst 0, 1) := by decide +kernel
theorem d_M_refresh_49 : decode c_M_refresh 49 = .ok (.istore_n 3, 1) := by decide +kernel
theorem d_M_refresh_50 : decode c_M_refresh 50 = .ok (.iload_n 3, 1) := by decide +kernel
theorem d_M_refresh_51 : decode c_M_refresh 51 = .ok (.aload_n 0, 1) := by decide +kernel
theorem d_M_refresh_52 : decode c_M_refresh 52 = .ok (.getfield 116, 3) := by decide +kernel
theorem d_M_refresh_55 : decode c_M_refresh 55 = .ok (.if_icmp .ge 54, 3) := by decide +kernel
theorem d_M_refresh_58 : decode c_M_refresh 58 = .ok (.aload_n 0, 1) := by decide +kernel
theorem d_M_refresh_59 : decode c_M_refresh 59 = .ok (.getfield 46, 3) := by decide +kernel
theorem d_M_refresh_62 : decode c_M_refresh 62 = .ok (.iload_n 3, 1) := by decide +kernel
theorem d_M_refresh_63 : decode c_M_refresh 63 = .ok (.aload_n 0, 1) := by decide +kernel
theorem d_M_refresh_64 : decode c_M_refresh 64 = .ok (.getfield 43, 3) := by decide +kernel
theorem d_M_refresh_67 : decode c_M_refresh 67 = .ok (.iload_n 3, 1) := by decide +kernel
theorem d_M_refresh_68 : decode c_M_refresh 68 = .ok (.iaload, 1) := by decide +kernel
theorem d_M_refresh_69 : decode c_M_refresh 69 = .ok (.iastore, 1) := by decide +kernel
theorem d_M_refresh_70 : decode c_M_refresh 70 = .ok (.aload_n 0, 1) := by decide +kernel
theorem d_M_refresh_71 : decode c_M_refresh 71 = .ok (.getfield 53, 3) := by decide +kernel
theorem d_M_refresh_74 : decode c_M_refresh 74 = .ok (.iload_n 3, 1) := by decide +kernel
theorem d_M_refresh_75 : decode c_M_refresh 75 = .ok (.aload_n 0, 1) := by decide +kernel
theorem d_M_refresh_76 : decode c_M_refresh 76 = .ok (.getfield 49, 3) := by decide +kernel
theorem d_M_refresh_79 : decode c_M_refresh 79 = .ok (.iload_n 3, 1) := by decide +kernel
theorem d_M_refresh_80 : decode c_M_refresh 80 = .ok (.baload, 1) := by decide +kernel
theorem d_M_refresh_81 : decode c_M_refresh 81 = .ok (.bastore, 1) := by decide +kernel
theorem d_M_refresh_82 : decode c_M_refresh 82 = .ok (.aload_n 0, 1) := by decide +kernel
theorem d_M_refresh_83 : decode c_M_refresh 83 = .ok (.getfield 46, 3) := by decide +kernel
theorem d_M_refresh_86 : decode c_M_refresh 86 = .ok (.iload_n 3, 1) := by decide +kernel
theorem d_M_refresh_87 : decode c_M_refresh 87 = .ok (.iaload, 1) := by decide +kernel
theorem d_M_refresh_88 : decode c_M_refresh 88 = .ok (.ifCond .lt 15, 3) := by decide +kernel
theorem d_M_refresh_91 : decode c_M_refresh 91 = .ok (.aload_n 0, 1) := by decide +kernel
theorem d_M_refresh_92 : decode c_M_refresh 92 = .ok (.getfield 49, 3) := by decide +kernel
theorem d_M_refresh_95 : decode c_M_refresh 95 = .ok (.iload_n 3, 1) := by decide +kernel
theorem d_M_refresh_96 : decode c_M_refresh 96 = .ok (.baload, 1) := by decide +kernel
theorem d_M_refresh_97 : decode c_M_refresh 97 = .ok (.ifCond .ne 6, 3) := by decide +kernel
theorem d_M_refresh_100 : decode c_M_refresh 100 = .ok (.iinc 2 1, 3) := by decide +kernel
theorem d_M_refresh_103 : decode c_M_refresh 103 = .ok (.iinc 3 1, 3) := by decide +kernel
theorem d_M_refresh_106 : decode c_M_refresh 106 = .ok (.goto (-56), 3) := by decide +kernel
theorem d_M_refresh_109 : decode c_M_refresh 109 = .ok (.iconst 0, 1) := by decide +kernel
theorem d_M_refresh_110 : decode c_M_refresh 110 = .ok (.istore_n 3, 1) := by decide +kernel
theorem d_M_refresh_111 : decode c_M_refresh 111 = .ok (.iload_n 3, 1) := by decide +kernel
theorem d_M_refresh_112 : decode c_M_refresh 112 = .ok (.bipush 16, 2) := by decide +kernel
theorem d_M_refresh_114 : decode c_M_refresh 114 = .ok (.if_icmp .ge 21, 3) := by decide +kernel
theorem d_M_refresh_117 : decode c_M_refresh 117 = .ok (.aload_n 0, 1) := by decide +kernel
theorem d_M_refresh_118 : decode c_M_refresh 118 = .ok (.getfield 19, 3) := by decide +kernel
theorem d_M_refresh_121 : decode c_M_refresh 121 = .ok (.iload_n 3, 1) := by decide +kernel
theorem d_M_refresh_122 : decode c_M_refresh 122 = .ok (.aload_n 0, 1) := by decide +kernel
theorem d_M_refresh_123 : decode c_M_refresh 123 = .ok (.getfield 7, 3) := by decide +kernel
theorem d_M_refresh_126 : decode c_M_refresh 126 = .ok (.iload_n 3, 1) := by decide +kernel
theorem d_M_refresh_127 : decode c_M_refresh 127 = .ok (.iaload, 1) := by decide +kernel
theorem d_M_refresh_128 : decode c_M_refresh 128 = .ok (.iastore, 1) := by decide +kernel
theorem d_M_refresh_129 : decode c_M_refresh 129 = .ok (.iinc 3 1, 3) := by decide +kernel
theorem d_M_refresh_132 : decode c_M_refresh 132 = .ok (.goto (-21), 3) := by decide +kernel
theorem d_M_refresh_135 : decode c_M_refresh 135 = .ok (.iconst 0, 1) := by decide +kernel
theorem d_M_refresh_136 : decode c_M_refresh 136 = .ok (.istore_n 3, 1) := by decide +kernel
theorem d_M_refresh_137 : decode c_M_refresh 137 = .ok (.iload_n 3, 1) := by decide +kernel
theorem d_M_refresh_138 : decode c_M_refresh 138 = .ok (.iconst 3, 1) := by decide +kernel
theorem d_M_refresh_139 : decode c_M_refresh 139 = .ok (.if_icmp .ge 21, 3) := by decide +kernel
theorem d_M_refresh_142 : decode c_M_refresh 142 = .ok (.aload_n 0, 1) := by decide +kernel
theorem d_M_refresh_143 : decode c_M_refresh 143 = .ok (.getfield 22, 3) := by decide +kernel
theorem d_M_refresh_146 : decode c_M_refresh 146 = .ok (.iload_n 3, 1) := by decide +kernel
theorem d_M_refresh_147 : decode c_M_refresh 147 = .ok (.aload_n 0, 1) := by decide +kernel
theorem d_M_refresh_148 : decode c_M_refresh 148 = .ok (.getfield 13, 3) := by decide +kernel
theorem d_M_refresh_151 : decode c_M_refresh 151 = .ok (.iload_n 3, 1) := by decide +kernel
theorem d_M_refresh_152 : decode c_M_refresh 152 = .ok (.iaload, 1) := by decide +kernel
theorem d_M_refresh_153 : decode c_M_refresh 153 = .ok (.iastore, 1) := by decide +kernel
theorem d_M_refresh_154 : decode c_M_refresh 154 = .ok (.iinc 3 1, 3) := by decide +kernel
theorem d_M_refresh_157 : decode c_M_refresh 157 = .ok (.goto (-20), 3) := by decide +kernel
theorem d_M_refresh_160 : decode c_M_refresh 160 = .ok (.iconst 0, 1) := by decide +kernel
theorem d_M_refresh_161 : decode c_M_refresh 161 = .ok (.istore_n 3, 1) := by decide +kernel
theorem d_M_refresh_162 : decode c_M_refresh 162 = .ok (.iload_n 3, 1) := by decide +kernel
theorem d_M_refresh_163 : decode c_M_refresh 163 = .ok (.bipush 8, 2) := by decide +kernel
theorem d_M_refresh_165 : decode c_M_refresh 165 = .ok (.if_icmp .ge 21, 3) := by decide +kernel
theorem d_M_refresh_168 : decode c_M_refresh 168 = .ok (.aload_n 0, 1) := by decide +kernel
theorem d_M_refresh_169 : decode c_M_refresh 169 = .ok (.getfield 25, 3) := by decide +kernel
theorem d_M_refresh_172 : decode c_M_refresh 172 = .ok (.iload_n 3, 1) := by decide +kernel
theorem d_M_refresh_173 : decode c_M_refresh 173 = .ok (.aload_n 0, 1) := by decide +kernel
theorem d_M_refresh_174 : decode c_M_refresh 174 = .ok (.getfield 16, 3) := by decide +kernel
theorem d_M_refresh_177 : decode c_M_refresh 177 = .ok (.iload_n 3, 1) := by decide +kernel
theorem d_M_refresh_178 : decode c_M_refresh 178 = .ok (.iaload, 1) := by decide +kernel
theorem d_M_refresh_179 : decode c_M_refresh 179 = .ok (.iastore, 1) := by decide +kernel
theorem d_M_refresh_180 : decode c_M_refresh 180 = .ok (.iinc 3 1, 3) := by decide +kernel
theorem d_M_refresh_183 : decode c_M_refresh 183 = .ok (.goto (-21), 3) := by decide +kernel
theorem d_M_refresh_186 : decode c_M_refresh 186 = .ok (.aload_n 0, 1) := by decide +kernel
theorem d_M_refresh_187 : decode c_M_refresh 187 = .ok (.getfield 131, 3) := by decide +kernel
theorem d_M_refresh_190 : decode c_M_refresh 190 = .ok (.iconst 1, 1) := by decide +kernel
theorem d_M_refresh_191 : decode c_M_refresh 191 = .ok (.isub, 1) := by decide +kernel
theorem d_M_refresh_192 : decode c_M_refresh 192 = .ok (.istore_n 3, 1) := by decide +kernel
theorem d_M_refresh_193 : decode c_M_refresh 193 = .ok (.iload_n 3, 1) := by decide +kernel
theorem d_M_refresh_194 : decode c_M_refresh 194 = .ok (.ifCond .lt 35, 3) := by decide +kernel
theorem d_M_refresh_197 : decode c_M_refresh 197 = .ok (.aload_n 0, 1) := by decide +kernel
theorem d_M_refresh_198 : decode c_M_refresh 198 = .ok (.aload_n 0, 1) := by decide +kernel
theorem d_M_refresh_199 : decode c_M_refresh 199 = .ok (.getfield 85, 3) := by decide +kernel
theorem d_M_refresh_202 : decode c_M_refresh 202 = .ok (.iload_n 3, 1) := by decide +kernel
theorem d_M_refresh_203 : decode c_M_refresh 203 = .ok (.iaload, 1) := by decide +kernel
theorem d_M_refresh_204 : decode c_M_refresh 204 = .ok (.invokevirtual 138, 3) := by decide +kernel
theorem d_M_refresh_207 : decode c_M_refresh 207 = .ok (.istore 4, 2) := by decide +kernel
theorem d_M_refresh_209 : decode c_M_refresh 209 = .ok (.iload_n 1, 1) := by decide +kernel
theorem d_M_refresh_210 : decode c_M_refresh 210 = .ok (.ifCond .ne 8, 3) := by decide +kernel
theorem d_M_refresh_213 : decode c_M_refresh 213 = .ok (.iload 4, 2) := by decide +kernel
theorem d_M_refresh_215 : decode c_M_refresh 215 = .ok (.ifCond .ne 8, 3) := by decide +kernel
theorem d_M_refresh_218 : decode c_M_refresh 218 = .ok (.aload_n 0, 1) := by decide +kernel
theorem d_M_refresh_219 : decode c_M_refresh 219 = .ok (.iload_n 3, 1) := by decide +kernel
theorem d_M_refresh_220 : decode c_M_refresh 220 = .ok (.invokevirtual 142, 3) := by decide +kernel
theorem d_M_refresh_223 : decode c_M_refresh 223 = .ok (.iinc 3 (-1), 3) := by decide +kernel
theorem d_M_refresh_226 : decode c_M_refresh 226 = .ok (.goto (-33), 3) := by decide +kernel
theorem d_M_refresh_229 : decode c_M_refresh 229 = .ok (.iload_n 2, 1) := by decide +kernel
theorem d_M_refresh_230 : decode c_M_refresh 230 = .ok (.ireturn, 1) := by decide +kernel
theorem d_M_clause_0 : decode c_M_clause 0 = .ok (.iload_n 1, 1) := by decide +kernel
theorem d_M_clause_1 : decode c_M_clause 1 = .ok (.iconst 0, 1) := by decide +kernel
theorem d_M_clause_2 : decode c_M_clause 2 = .ok (.iconst 2, 1) := by decide +kernel
theorem d_M_clause_3 : decode c_M_clause 3 = .ok (.invokestatic 98, 3) := by decide +kernel
theorem d_M_clause_6 : decode c_M_clause 6 = .ok (.ifCond .eq 30, 3) := by decide +kernel
theorem d_M_clause_9 : decode c_M_clause 9 = .ok (.iload_n 2, 1) := by decide +kernel
theorem d_M_clause_10 : decode c_M_clause 10 = .ok (.iconst 0, 1) := by decide +kernel
theorem d_M_clause_11 : decode c_M_clause 11 = .ok (.bipush 7, 2) := by decide +kernel
theorem d_M_clause_13 : decode c_M_clause 13 = .ok (.invokestatic 98, 3) := by decide +kernel
theorem d_M_clause_16 : decode c_M_clause 16 = .ok (.ifCond .eq 20, 3) := by decide +kernel
theorem d_M_clause_19 : decode c_M_clause 19 = .ok (.iload_n 3, 1) := by decide +kernel
theorem d_M_clause_20 : decode c_M_clause 20 = .ok (.iconst 0, 1) := by decide +kernel
theorem d_M_clause_21 : decode c_M_clause 21 = .ok (.iconst 2, 1) := by decide +kernel
theorem d_M_clause_22 : decode c_M_clause 22 = .ok (.invokestatic 98, 3) := by decide +kernel
theorem d_M_clause_25 : decode c_M_clause 25 = .ok (.ifCond .eq 11, 3) := by decide +kernel
theorem d_M_clause_28 : decode c_M_clause 28 = .ok (.dload 4, 2) := by decide +kernel
theorem d_M_clause_30 : decode c_M_clause 30 = .ok (.invokestatic 110, 3) := by decide +kernel
theorem d_M_clause_33 : decode c_M_clause 33 = .ok (.ifCond .ne 9, 3) := by decide +kernel
theorem d_M_clause_36 : decode c_M_clause 36 = .ok (.aload_n 0, 1) := by decide +kernel
theorem d_M_clause_37 : decode c_M_clause 37 = .ok (.iconst 1, 1) := by decide +kernel
theorem d_M_clause_38 : decode c_M_clause 38 = .ok (.invokevirtual 102, 3) := by decide +kernel
theorem d_M_clause_41 : decode c_M_clause 41 = .ok (.ireturn, 1) := by decide +kernel
theorem d_M_clause_42 : decode c_M_clause 42 = .ok (.aload_n 0, 1) := by decide +kernel
theorem d_M_clause_43 : decode c_M_clause 43 = .ok (.getfield 146, 3) := by decide +kernel
theorem d_M_clause_46 : decode c_M_clause 46 = .ok (.bipush 6, 2) := by decide +kernel
theorem d_M_clause_48 : decode c_M_clause 48 = .ok (.if_icmp .ne 9, 3) := by decide +kernel
theorem d_M_clause_51 : decode c_M_clause 51 = .ok (.aload_n 0, 1) := by decide +kernel
theorem d_M_clause_52 : decode c_M_clause 52 = .ok (.iconst 2, 1) := by decide +kernel
theorem d_M_clause_53 : decode c_M_clause 53 = .ok (.invokevirtual 102, 3) := by decide +kernel
theorem d_M_clause_56 : decode c_M_clause 56 = .ok (.ireturn, 1) := by decide +kernel
theorem d_M_clause_57 : decode c_M_clause 57 = .ok (.aload_n 0, 1) := by decide +kernel
theorem d_M_clause_58 : decode c_M_clause 58 = .ok (.iconst 0, 1) := by decide +kernel
theorem d_M_clause_59 : decode c_M_clause 59 = .ok (.putfield 94, 3) := by decide +kernel
theorem d_M_clause_62 : decode c_M_clause 62 = .ok (.aload_n 0, 1) := by decide +kernel
theorem d_M_clause_63 : decode c_M_clause 63 = .ok (.getfield 62, 3) := by decide +kernel
theorem d_M_clause_66 : decode c_M_clause 66 = .ok (.aload_n 0, 1) := by decide +kernel
theorem d_M_clause_67 : decode c_M_clause 67 = .ok (.getfield 146, 3) := by decide +kernel
theorem d_M_clause_70 : decode c_M_clause 70 = .ok (.iload_n 1, 1) := by decide +kernel
theorem d_M_clause_71 : decode c_M_clause 71 = .ok (.iastore, 1) := by decide +kernel
theorem d_M_clause_72 : decode c_M_clause 72 = .ok (.aload_n 0, 1) := by decide +kernel
theorem d_M_clause_73 : decode c_M_clause 73 = .ok (.getfield 65, 3) := by decide +kernel
theorem d_M_clause_76 : decode c_M_clause 76 = .ok (.aload_n 0, 1) := by decide +kernel
theorem d_M_clause_77 : decode c_M_clause 77 = .ok (.getfield 146, 3) := by decide +kernel
theorem d_M_clause_80 : decode c_M_clause 80 = .ok (.iload_n 2, 1) := by decide +kernel
theorem d_M_clause_81 : decode c_M_clause 81 = .ok (.iastore, 1) := by decide +kernel
theorem d_M_clause_82 : decode c_M_clause 82 = .ok (.aload_n 0, 1) := by decide +kernel
theorem d_M_clause_83 : decode c_M_clause 83 = .ok (.getfield 68, 3) := by decide +kernel
theorem d_M_clause_86 : decode c_M_clause 86 = .ok (.aload_n 0, 1) := by decide +kernel
theorem d_M_clause_87 : decode c_M_clause 87 = .ok (.getfield 146, 3) := by decide +kernel
theorem d_M_clause_90 : decode c_M_clause 90 = .ok (.iload_n 3, 1) := by decide +kernel
theorem d_M_clause_91 : decode c_M_clause 91 = .ok (.iastore, 1) := by decide +kernel
theorem d_M_clause_92 : decode c_M_clause 92 = .ok (.aload_n 0, 1) := by decide +kernel
theorem d_M_clause_93 : decode c_M_clause 93 = .ok (.getfield 77, 3) := by decide +kernel
theorem d_M_clause_96 : decode c_M_clause 96 = .ok (.aload_n 0, 1) := by decide +kernel
theorem d_M_clause_97 : decode c_M_clause 97 = .ok (.getfield 146, 3) := by decide +kernel
theorem d_M_clause_100 : decode c_M_clause 100 = .ok (.dload 4, 2) := by decide +kernel
theorem d_M_clause_102 : decode c_M_clause 102 = .ok (.dastore, 1) := by decide +kernel
theorem d_M_clause_103 : decode c_M_clause 103 = .ok (.aload_n 0, 1) := by decide +kernel
theorem d_M_clause_104 : decode c_M_clause 104 = .ok (.dup, 1) := by decide +kernel
theorem d_M_clause_105 : decode c_M_clause 105 = .ok (.getfield 146, 3) := by decide +kernel
theorem d_M_clause_108 : decode c_M_clause 108 = .ok (.iconst 1, 1) := by decide +kernel
theorem d_M_clause_109 : decode c_M_clause 109 = .ok (.iadd, 1) := by decide +kernel
theorem d_M_clause_110 : decode c_M_clause 110 = .ok (.putfield 146, 3) := by decide +kernel
theorem d_M_clause_113 : decode c_M_clause 113 = .ok (.aload_n 0, 1) := by decide +kernel
theorem d_M_clause_114 : decode c_M_clause 114 = .ok (.getfield 146, 3) := by decide +kernel
theorem d_M_clause_117 : decode c_M_clause 117 = .ok (.ireturn, 1) := by decide +kernel
theorem d_M_search_0 : decode c_M_search 0 = .ok (.iload_n 1, 1) := by decide +kernel
theorem d_M_search_1 : decode c_M_search 1 = .ok (.iconst 0, 1) := by decide +kernel
theorem d_M_search_2 : decode c_M_search 2 = .ok (.bipush 7, 2) := by decide +kernel
theorem d_M_search_4 : decode c_M_search 4 = .ok (.invokestatic 98, 3) := by decide +kernel
theorem d_M_search_7 : decode c_M_search 7 = .ok (.ifCond .eq 13, 3) := by decide +kernel
theorem d_M_search_10 : decode c_M_search 10 = .ok (.iload_n 2, 1) := by decide +kernel
theorem d_M_search_11 : decode c_M_search 11 = .ok (.iconst 1, 1) := by decide +kernel
theorem d_M_search_12 : decode c_M_search 12 = .ok (.bipush 8, 2) := by decide +kernel
theorem d_M_search_14 : decode c_M_search 14 = .ok (.invokestatic 98, 3) := by decide +kernel
theorem d_M_search_17 : decode c_M_search 17 = .ok (.ifCond .ne 9, 3) := by decide +kernel
theorem d_M_search_20 : decode c_M_search 20 = .ok (.aload_n 0, 1) := by decide +kernel
theorem d_M_search_21 : decode c_M_search 21 = .ok (.iconst 1, 1) := by decide +kernel
theorem d_M_search_22 : decode c_M_search 22 = .ok (.invokevirtual 102, 3) := by decide +kernel
theorem d_M_search_25 : decode c_M_search 25 = .ok (.ireturn, 1) := by decide +kernel
theorem d_M_search_26 : decode c_M_search 26 = .ok (.aload_n 0, 1) := by decide +kernel
theorem d_M_search_27 : decode c_M_search 27 = .ok (.iconst 0, 1) := by decide +kernel
theorem d_M_search_28 : decode c_M_search 28 = .ok (.putfield 94, 3) := by decide +kernel
theorem d_M_search_31 : decode c_M_search 31 = .ok (.aload_n 0, 1) := by decide +kernel
theorem d_M_search_32 : decode c_M_search 32 = .ok (.iconst 0, 1) := by decide +kernel
theorem d_M_search_33 : decode c_M_search 33 = .ok (.putfield 157, 3) := by decide +kernel
theorem d_M_search_36 : decode c_M_search 36 = .ok (.aload_n 0, 1) := by decide +kernel
theorem d_M_search_37 : decode c_M_search 37 = .ok (.iconst 0, 1) := by decide +kernel
theorem d_M_search_38 : decode c_M_search 38 = .ok (.putfield 169, 3) := by decide +kernel
theorem d_M_search_41 : decode c_M_search 41 = .ok (.aload_n 0, 1) := by decide +kernel
theorem d_M_search_42 : decode c_M_search 42 = .ok (.iconst 0, 1) := by decide +kernel
theorem d_M_search_43 : decode c_M_search 43 = .ok (.putfield 178, 3) := by decide +kernel
theorem d_M_search_46 : decode c_M_search 46 = .ok (.aload_n 0, 1) := by decide +kernel
theorem d_M_search_47 : decode c_M_search 47 = .ok (.invokevirtual 189, 3) := by decide +kernel
theorem d_M_search_50 : decode c_M_search 50 = .ok (.iconst 0, 1) := by decide +kernel
theorem d_M_search_51 : decode c_M_search 51 = .ok (.istore_n 3, 1) := by decide +kernel
theorem d_M_search_52 : decode c_M_search 52 = .ok (.iload_n 3, 1) := by decide +kernel
theorem d_M_search_53 : decode c_M_search 53 = .ok (.aload_n 0, 1) := by decide +kernel
theorem d_M_search_54 : decode c_M_search 54 = .ok (.getfield 128, 3) := by decide +kernel
theorem d_M_search_57 : decode c_M_search 57 = .ok (.if_icmp .ge 116, 3) := by decide +kernel
theorem d_M_search_60 : decode c_M_search 60 = .ok (.aload_n 0, 1) := by decide +kernel
theorem d_M_search_61 : decode c_M_search 61 = .ok (.getfield 59, 3) := by decide +kernel
theorem d_M_search_64 : decode c_M_search 64 = .ok (.iload_n 3, 1) := by decide +kernel
theorem d_M_search_65 : decode c_M_search 65 = .ok (.iaload, 1) := by decide +kernel
theorem d_M_search_66 : decode c_M_search 66 = .ok (.istore 4, 2) := by decide +kernel
theorem d_M_search_68 : decode c_M_search 68 = .ok (.iconst 0, 1) := by decide +kernel
theorem d_M_search_69 : decode c_M_search 69 = .ok (.istore 5, 2) := by decide +kernel
theorem d_M_search_71 : decode c_M_search 71 = .ok (.aload_n 0, 1) := by decide +kernel
theorem d_M_search_72 : decode c_M_search 72 = .ok (.iload 4, 2) := by decide +kernel
theorem d_M_search_74 : decode c_M_search 74 = .ok (.iload_n 1, 1) := by decide +kernel
theorem d_M_search_75 : decode c_M_search 75 = .ok (.invokevirtual 192, 3) := by decide +kernel
theorem d_M_search_78 : decode c_M_search 78 = .ok (.aload_n 0, 1) := by decide +kernel
theorem d_M_search_79 : decode c_M_search 79 = .ok (.iload 5, 2) := by decide +kernel
theorem d_M_search_81 : decode c_M_search 81 = .ok (.iload 4, 2) := by decide +kernel
theorem d_M_search_83 : decode c_M_search 83 = .ok (.invokevirtual 196, 3) := by decide +kernel
theorem d_M_search_86 : decode c_M_search 86 = .ok (.istore 6, 2) := by decide +kernel
theorem d_M_search_88 : decode c_M_search 88 = .ok (.iload 6, 2) := by decide +kernel
theorem d_M_search_90 : decode c_M_search 90 = .ok (.ifCond .eq 77, 3) := by decide +kernel
theorem d_M_search_93 : decode c_M_search 93 = .ok (.aload_n 0, 1) := by decide +kernel
theorem d_M_search_94 : decode c_M_search 94 = .ok (.iload 5, 2) := by decide +kernel
theorem d_M_search_96 : decode c_M_search 96 = .ok (.iload 4, 2) := by decide +kernel
theorem d_M_search_98 : decode c_M_search 98 = .ok (.invokevirtual 199, 3) := by decide +kernel
theorem d_M_search_101 : decode c_M_search 101 = .ok (.istore 7, 2) := by decide +kernel
theorem d_M_search_103 : decode c_M_search 103 = .ok (.aload_n 0, 1) := by decide +kernel
theorem d_M_search_104 : decode c_M_search 104 = .ok (.iload_n 1, 1) := by decide +kernel
theorem d_M_search_105 : decode c_M_search 105 = .ok (.iload 5, 2) := by decide +kernel
theorem d_M_search_107 : decode c_M_search 107 = .ok (.iload 7, 2) := by decide +kernel
theorem d_M_search_109 : decode c_M_search 109 = .ok (.iload 4, 2) := by decide +kernel
theorem d_M_search_111 : decode c_M_search 111 = .ok (.invokevirtual 181, 3) := by decide +kernel
theorem d_M_search_114 : decode c_M_search 114 = .ok (.fstore 8, 2) := by decide +kernel
theorem d_M_search_116 : decode c_M_search 116 = .ok (.aload_n 0, 1) := by decide +kernel
theorem d_M_search_117 : decode c_M_search 117 = .ok (.getfield 157, 3) := by decide +kernel
theorem d_M_search_120 : decode c_M_search 120 = .ok (.iload_n 2, 1) := by decide +kernel
theorem d_M_search_121 : decode c_M_search 121 = .ok (.if_icmp .lt 17, 3) := by decide +kernel
theorem d_M_search_124 : decode c_M_search 124 = .ok (.fload 8, 2) := by decide +kernel
theorem d_M_search_126 : decode c_M_search 126 = .ok (.aload_n 0, 1) := by decide +kernel
theorem d_M_search_127 : decode c_M_search 127 = .ok (.getfield 81, 3) := by decide +kernel
theorem d_M_search_130 : decode c_M_search 130 = .ok (.iload_n 2, 1) := by decide +kernel
theorem d_M_search_131 : decode c_M_search 131 = .ok (.iconst 1, 1) := by decide +kernel
theorem d_M_search_132 : decode c_M_search 132 = .ok (.isub, 1) := by decide +kernel
theorem d_M_search_133 : decode c_M_search 133 = .ok (.faload, 1) := by decide +kernel
theorem d_M_search_134 : decode c_M_search 134 = .ok (.fcmp .l, 1) := by decide +kernel
theorem d_M_search_135 : decode c_M_search 135 = .ok (.ifCond .le 15, 3) := by decide +kernel
theorem d_M_search_138 : decode c_M_search 138 = .ok (.aload_n 0, 1) := by decide +kernel
theorem d_M_search_139 : decode c_M_search 139 = .ok (.iload_n 1, 1) := by decide +kernel
theorem d_M_search_140 : decode c_M_search 140 = .ok (.iload_n 2, 1) := by decide +kernel
theorem d_M_search_141 : decode c_M_search 141 = .ok (.iload 5, 2) := by decide +kernel
theorem d_M_search_143 : decode c_M_search 143 = .ok (.iload 7, 2) := by decide +kernel
theorem d_M_search_145 : decode c_M_search 145 = .ok (.iload 4, 2) := by decide +kernel
theorem d_M_search_147 : decode c_M_search 147 = .ok (.invokevirtual 203, 3) := by decide +kernel
theorem d_M_search_150 : decode c_M_search 150 = .ok (.iload 7, 2) := by decide +kernel
theorem d_M_search_152 : decode c_M_search 152 = .ok (.istore 5, 2) := by decide +kernel
theorem d_M_search_154 : decode c_M_search 154 = .ok (.aload_n 0, 1) := by decide +kernel
theorem d_M_search_155 : decode c_M_search 155 = .ok (.iload 5, 2) := by decide +kernel
theorem d_M_search_157 : decode c_M_search 157 = .ok (.iload 4, 2) := by decide +kernel
theorem d_M_search_159 : decode c_M_search 159 = .ok (.invokevirtual 196, 3) := by decide +kernel
theorem d_M_search_162 : decode c_M_search 162 = .ok (.istore 6, 2) := by decide +kernel
theorem d_M_search_164 : decode c_M_search 164 = .ok (.goto (-76), 3) := by decide +kernel
theorem d_M_search_167 : decode c_M_search 167 = .ok (.iinc 3 1, 3) := by decide +kernel
theorem d_M_search_170 : decode c_M_search 170 = .ok (.goto (-118), 3) := by decide +kernel
theorem d_M_search_173 : decode c_M_search 173 = .ok (.aload_n 0, 1) := by decide +kernel
theorem d_M_search_174 : decode c_M_search 174 = .ok (.getfield 157, 3) := by decide +kernel
theorem d_M_search_177 : decode c_M_search 177 = .ok (.ireturn, 1) := by decide +kernel
theorem d_M_arrange_0 : decode c_M_arrange 0 = .ok (.iconst 0, 1) := by decide +kernel
theorem d_M_arrange_1 : decode c_M_arrange 1 = .ok (.istore_n 1, 1) := by decide +kernel
theorem d_M_arrange_2 : decode c_M_arrange 2 = .ok (.iload_n 1, 1) := by decide +kernel
theorem d_M_arrange_3 : decode c_M_arrange 3 = .ok (.aload_n 0, 1) := by decide +kernel
theorem d_M_arrange_4 : decode c_M_arrange 4 = .ok (.getfield 146, 3) := by decide +kernel
theorem d_M_arrange_7 : decode c_M_arrange 7 = .ok (.if_icmp .ge 108, 3) := by decide +kernel
theorem d_M_arrange_10 : decode c_M_arrange 10 = .ok (.iload_n 1, 1) := by decide +kernel
theorem d_M_arrange_11 : decode c_M_arrange 11 = .ok (.istore_n 2, 1) := by decide +kernel
theorem d_M_arrange_12 : decode c_M_arrange 12 = .ok (.iload_n 2, 1) := by decide +kernel
theorem d_M_arrange_13 : decode c_M_arrange 13 = .ok (.ifCond .le 89, 3) := by decide +kernel
theorem d_M_arrange_16 : decode c_M_arrange 16 = .ok (.aload_n 0, 1) := by decide +kernel
theorem d_M_arrange_17 : decode c_M_arrange 17 = .ok (.getfield 65, 3) := by decide +kernel
theorem d_M_arrange_20 : decode c_M_arrange 20 = .ok (.aload_n 0, 1) := by decide +kernel
theorem d_M_arrange_21 : decode c_M_arrange 21 = .ok (.getfield 71, 3) := by decide +kernel
theorem d_M_arrange_24 : decode c_M_arrange 24 = .ok (.iload_n 2, 1) := by decide +kernel
theorem d_M_arrange_25 : decode c_M_arrange 25 = .ok (.iconst 1, 1) := by decide +kernel
theorem d_M_arrange_26 : decode c_M_arrange 26 = .ok (.isub, 1) := by decide +kernel
theorem d_M_arrange_27 : decode c_M_arrange 27 = .ok (.iaload, 1) := by decide +kernel
theorem d_M_arrange_28 : decode c_M_arrange 28 = .ok (.iaload, 1) := by decide +kernel
theorem d_M_arrange_29 : decode c_M_arrange 29 = .ok (.aload_n 0, 1) := by decide +kernel
theorem d_M_arrange_30 : decode c_M_arrange 30 = .ok (.getfield 65, 3) := by decide +kernel
theorem d_M_arrange_33 : decode c_M_arrange 33 = .ok (.iload_n 1, 1) := by decide +kernel
theorem d_M_arrange_34 : decode c_M_arrange 34 = .ok (.iaload, 1) := by decide +kernel
theorem d_M_arrange_35 : decode c_M_arrange 35 = .ok (.if_icmp .gt 47, 3) := by decide +kernel
theorem d_M_arrange_38 : decode c_M_arrange 38 = .ok (.aload_n 0, 1) := by decide +kernel
theorem d_M_arrange_39 : decode c_M_arrange 39 = .ok (.getfield 65, 3) := by decide +kernel
theorem d_M_arrange_42 : decode c_M_arrange 42 = .ok (.aload_n 0, 1) := by decide +kernel
theorem d_M_arrange_43 : decode c_M_arrange 43 = .ok (.getfield 71, 3) := by decide +kernel
theorem d_M_arrange_46 : decode c_M_arrange 46 = .ok (.iload_n 2, 1) := by decide +kernel
theorem d_M_arrange_47 : decode c_M_arrange 47 = .ok (.iconst 1, 1) := by decide +kernel
theorem d_M_arrange_48 : decode c_M_arrange 48 = .ok (.isub, 1) := by decide +kernel
theorem d_M_arrange_49 : decode c_M_arrange 49 = .ok (.iaload, 1) := by decide +kernel
theorem d_M_arrange_50 : decode c_M_arrange 50 = .ok (.iaload, 1) := by decide +kernel
theorem d_M_arrange_51 : decode c_M_arrange 51 = .ok (.aload_n 0, 1) := by decide +kernel
theorem d_M_arrange_52 : decode c_M_arrange 52 = .ok (.getfield 65, 3) := by decide +kernel
theorem d_M_arrange_55 : decode c_M_arrange 55 = .ok (.iload_n 1, 1) := by decide +kernel
theorem d_M_arrange_56 : decode c_M_arrange 56 = .ok (.iaload, 1) := by decide +kernel
theorem d_M_arrange_57 : decode c_M_arrange 57 = .ok (.if_icmp .ne 45, 3) := by decide +kernel
theorem d_M_arrange_60 : decode c_M_arrange 60 = .ok (.aload_n 0, 1) := by decide +kernel
theorem d_M_arrange_61 : decode c_M_arrange 61 = .ok (.getfield 68, 3) := by decide +kernel
theorem d_M_arrange_64 : decode c_M_arrange 64 = .ok (.aload_n 0, 1) := by decide +kernel
theorem d_M_arrange_65 : decode c_M_arrange 65 = .ok (.getfield 71, 3) := by decide +kernel
theorem d_M_arrange_68 : decode c_M_arrange 68 = .ok (.iload_n 2, 1) := by decide +kernel
theorem d_M_arrange_69 : decode c_M_arrange 69 = .ok (.iconst 1, 1) := by decide +kernel
theorem d_M_arrange_70 : decode c_M_arrange 70 = .ok (.isub, 1) := by decide +kernel
theorem d_M_arrange_71 : decode c_M_arrange 71 = .ok (.iaload, 1) := by decide +kernel
theorem d_M_arrange_72 : decode c_M_arrange 72 = .ok (.iaload, 1) := by decide +kernel
theorem d_M_arrange_73 : decode c_M_arrange 73 = .ok (.aload_n 0, 1) := by decide +kernel
theorem d_M_arrange_74 : decode c_M_arrange 74 = .ok (.getfield 68, 3) := by decide +kernel
theorem d_M_arrange_77 : decode c_M_arrange 77 = .ok (.iload_n 1, 1) := by decide +kernel
theorem d_M_arrange_78 : decode c_M_arrange 78 = .ok (.iaload, 1) := by decide +kernel
theorem d_M_arrange_79 : decode c_M_arrange 79 = .ok (.if_icmp .le 23, 3) := by decide +kernel
theorem d_M_arrange_82 : decode c_M_arrange 82 = .ok (.aload_n 0, 1) := by decide +kernel
theorem d_M_arrange_83 : decode c_M_arrange 83 = .ok (.getfield 71, 3) := by decide +kernel
theorem d_M_arrange_86 : decode c_M_arrange 86 = .ok (.iload_n 2, 1) := by decide +kernel
theorem d_M_arrange_87 : decode c_M_arrange 87 = .ok (.aload_n 0, 1) := by decide +kernel
theorem d_M_arrange_88 : decode c_M_arrange 88 = .ok (.getfield 71, 3) := by decide +kernel
theorem d_M_arrange_91 : decode c_M_arrange 91 = .ok (.iload_n 2, 1) := by decide +kernel
theorem d_M_arrange_92 : decode c_M_arrange 92 = .ok (.iconst 1, 1) := by decide +kernel
theorem d_M_arrange_93 : decode c_M_arrange 93 = .ok (.isub, 1) := by decide +kernel
theorem d_M_arrange_94 : decode c_M_arrange 94 = .ok (.iaload, 1) := by decide +kernel
theorem d_M_arrange_95 : decode c_M_arrange 95 = .ok (.iastore, 1) := by decide +kernel
theorem d_M_arrange_96 : decode c_M_arrange 96 = .ok (.iinc 2 (-1), 3) := by decide +kernel
theorem d_M_arrange_99 : decode c_M_arrange 99 = .ok (.goto (-87), 3) := by decide +kernel
theorem d_M_arrange_102 : decode c_M_arrange 102 = .ok (.aload_n 0, 1) := by decide +kernel
theorem d_M_arrange_103 : decode c_M_arrange 103 = .ok (.getfield 71, 3) := by decide +kernel
theorem d_M_arrange_106 : decode c_M_arrange 106 = .ok (.iload_n 2, 1) := by decide +kernel
theorem d_M_arrange_107 : decode c_M_arrange 107 = .ok (.iload_n 1, 1) := by decide +kernel
theorem d_M_arrange_108 : decode c_M_arrange 108 = .ok (.iastore, 1) := by decide +kernel
theorem d_M_arrange_109 : decode c_M_arrange 109 = .ok (.iinc 1 1, 3) := by decide +kernel
theorem d_M_arrange_112 : decode c_M_arrange 112 = .ok (.goto (-110), 3) := by decide +kernel
theorem d_M_arrange_115 : decode c_M_arrange 115 = .ok (.return_, 1) := by decide +kernel
theorem d_M_useFilter_0 : decode c_M_useFilter 0 = .ok (.aload_n 0, 1) := by decide +kernel
theorem d_M_useFilter_1 : decode c_M_useFilter 1 = .ok (.dup, 1) := by decide +kernel
theorem d_M_useFilter_2 : decode c_M_useFilter 2 = .ok (.getfield 160, 3) := by decide +kernel
theorem d_M_useFilter_5 : decode c_M_useFilter 5 = .ok (.iconst 1, 1) := by decide +kernel
theorem d_M_useFilter_6 : decode c_M_useFilter 6 = .ok (.iadd, 1) := by decide +kernel
theorem d_M_useFilter_7 : decode c_M_useFilter 7 = .ok (.putfield 160, 3) := by decide +kernel
theorem d_M_useFilter_10 : decode c_M_useFilter 10 = .ok (.iconst 0, 1) := by decide +kernel
theorem d_M_useFilter_11 : decode c_M_useFilter 11 = .ok (.istore_n 3, 1) := by decide +kernel
theorem d_M_useFilter_12 : decode c_M_useFilter 12 = .ok (.iconst 0, 1) := by decide +kernel
theorem d_M_useFilter_13 : decode c_M_useFilter 13 = .ok (.istore 4, 2) := by decide +kernel
theorem d_M_useFilter_15 : decode c_M_useFilter 15 = .ok (.iload 4, 2) := by decide +kernel
theorem d_M_useFilter_17 : decode c_M_useFilter 17 = .ok (.aload_n 0, 1) := by decide +kernel
theorem d_M_useFilter_18 : decode c_M_useFilter 18 = .ok (.getfield 131, 3) := by decide +kernel
theorem d_M_useFilter_21 : decode c_M_useFilter 21 = .ok (.if_icmp .ge 72, 3) := by decide +kernel
theorem d_M_useFilter_24 : decode c_M_useFilter 24 = .ok (.aload_n 0, 1) := by decide +kernel
theorem d_M_useFilter_25 : decode c_M_useFilter 25 = .ok (.getfield 85, 3) := by decide +kernel
theorem d_M_useFilter_28 : decode c_M_useFilter 28 = .ok (.iload 4, 2) := by decide +kernel
theorem d_M_useFilter_30 : decode c_M_useFilter 30 = .ok (.iaload, 1) := by decide +kernel
theorem d_M_useFilter_31 : decode c_M_useFilter 31 = .ok (.iload_n 1, 1) := by decide +kernel
theorem d_M_useFilter_32 : decode c_M_useFilter 32 = .ok (.if_icmp .ne 36, 3) := by decide +kernel
theorem d_M_useFilter_35 : decode c_M_useFilter 35 = .ok (.aload_n 0, 1) := by decide +kernel
theorem d_M_useFilter_36 : decode c_M_useFilter 36 = .ok (.getfield 88, 3) := by decide +kernel
theorem d_M_useFilter_39 : decode c_M_useFilter 39 = .ok (.iload 4, 2) := by decide +kernel
theorem d_M_useFilter_41 : decode c_M_useFilter 41 = .ok (.iaload, 1) := by decide +kernel
theorem d_M_useFilter_42 : decode c_M_useFilter 42 = .ok (.iload_n 2, 1) := by decide +kernel
theorem d_M_useFilter_43 : decode c_M_useFilter 43 = .ok (.if_icmp .ne 25, 3) := by decide +kernel
theorem d_M_useFilter_46 : decode c_M_useFilter 46 = .ok (.aload_n 0, 1) := by decide +kernel
theorem d_M_useFilter_47 : decode c_M_useFilter 47 = .ok (.getfield 91, 3) := by decide +kernel
theorem d_M_useFilter_50 : decode c_M_useFilter 50 = .ok (.iload 4, 2) := by decide +kernel
theorem d_M_useFilter_52 : decode c_M_useFilter 52 = .ok (.aload_n 0, 1) := by decide +kernel
theorem d_M_useFilter_53 : decode c_M_useFilter 53 = .ok (.getfield 160, 3) := by decide +kernel
theorem d_M_useFilter_56 : decode c_M_useFilter 56 = .ok (.iastore, 1) := by decide +kernel
theorem d_M_useFilter_57 : decode c_M_useFilter 57 = .ok (.aload_n 0, 1) := by decide +kernel
theorem d_M_useFilter_58 : decode c_M_useFilter 58 = .ok (.dup, 1) := by decide +kernel
theorem d_M_useFilter_59 : decode c_M_useFilter 59 = .ok (.getfield 163, 3) := by decide +kernel
theorem d_M_useFilter_62 : decode c_M_useFilter 62 = .ok (.iconst 1, 1) := by decide +kernel
theorem d_M_useFilter_63 : decode c_M_useFilter 63 = .ok (.iadd, 1) := by decide +kernel
theorem d_M_useFilter_64 : decode c_M_useFilter 64 = .ok (.putfield 163, 3) := by decide +kernel
theorem d_M_useFilter_67 : decode c_M_useFilter 67 = .ok (.return_, 1) := by decide +kernel
theorem d_M_useFilter_68 : decode c_M_useFilter 68 = .ok (.aload_n 0, 1) := by decide +kernel
theorem d_M_useFilter_69 : decode c_M_useFilter 69 = .ok (.getfield 91, 3) := by decide +kernel
theorem d_M_useFilter_72 : decode c_M_useFilter 72 = .ok (.iload 4, 2) := by decide +kernel
theorem d_M_useFilter_74 : decode c_M_useFilter 74 = .ok (.iaload, 1) := by decide +kernel
theorem d_M_useFilter_75 : decode c_M_useFilter 75 = .ok (.aload_n 0, 1) := by decide +kernel
theorem d_M_useFilter_76 : decode c_M_useFilter 76 = .ok (.getfield 91, 3) := by decide +kernel
theorem d_M_useFilter_79 : decode c_M_useFilter 79 = .ok (.iload_n 3, 1) := by decide +kernel
theorem d_M_useFilter_80 : decode c_M_useFilter 80 = .ok (.iaload, 1) := by decide +kernel
theorem d_M_useFilter_81 : decode c_M_useFilter 81 = .ok (.if_icmp .ge 6, 3) := by decide +kernel
theorem d_M_useFilter_84 : decode c_M_useFilter 84 = .ok (.iload 4, 2) := by decide +kernel
theorem d_M_useFilter_86 : decode c_M_useFilter 86 = .ok (.istore_n 3, 1) := by decide +kernel
theorem d_M_useFilter_87 : decode c_M_useFilter 87 = .ok (.iinc 4 1, 3) := by decide +kernel
theorem d_M_useFilter_90 : decode c_M_useFilter 90 = .ok (.goto (-75), 3) := by decide +kernel
theorem d_M_useFilter_93 : decode c_M_useFilter 93 = .ok (.aload_n 0, 1) := by decide +kernel
theorem d_M_useFilter_94 : decode c_M_useFilter 94 = .ok (.getfield 131, 3) := by decide +kernel
theorem d_M_useFilter_97 : decode c_M_useFilter 97 = .ok (.iconst 5, 1) := by decide +kernel
theorem d_M_useFilter_98 : decode c_M_useFilter 98 = .ok (.if_icmp .ne 8, 3) := by decide +kernel
theorem d_M_useFilter_101 : decode c_M_useFilter 101 = .ok (.aload_n 0, 1) := by decide +kernel
theorem d_M_useFilter_102 : decode c_M_useFilter 102 = .ok (.iload_n 3, 1) := by decide +kernel
theorem d_M_useFilter_103 : decode c_M_useFilter 103 = .ok (.invokevirtual 142, 3) := by decide +kernel
theorem d_M_useFilter_106 : decode c_M_useFilter 106 = .ok (.aload_n 0, 1) := by decide +kernel
theorem d_M_useFilter_107 : decode c_M_useFilter 107 = .ok (.getfield 85, 3) := by decide +kernel
theorem d_M_useFilter_110 : decode c_M_useFilter 110 = .ok (.aload_n 0, 1) := by decide +kernel
theorem d_M_useFilter_111 : decode c_M_useFilter 111 = .ok (.getfield 131, 3) := by decide +kernel
theorem d_M_useFilter_114 : decode c_M_useFilter 114 = .ok (.iload_n 1, 1) := by decide +kernel
theorem d_M_useFilter_115 : decode c_M_useFilter 115 = .ok (.iastore, 1) := by decide +kernel
theorem d_M_useFilter_116 : decode c_M_useFilter 116 = .ok (.aload_n 0, 1) := by decide +kernel
theorem d_M_useFilter_117 : decode c_M_useFilter 117 = .ok (.getfield 88, 3) := by decide +kernel
theorem d_M_useFilter_120 : decode c_M_useFilter 120 = .ok (.aload_n 0, 1) := by decide +kernel
theorem d_M_useFilter_121 : decode c_M_useFilter 121 = .ok (.getfield 131, 3) := by decide +kernel
theorem d_M_useFilter_124 : decode c_M_useFilter 124 = .ok (.iload_n 2, 1) := by decide +kernel
theorem d_M_useFilter_125 : decode c_M_useFilter 125 = .ok (.iastore, 1) := by decide +kernel
theorem d_M_useFilter_126 : decode c_M_useFilter 126 = .ok (.aload_n 0, 1) := by decide +kernel
theorem d_M_useFilter_127 : decode c_M_useFilter 127 = .ok (.getfield 91, 3) := by decide +kernel
theorem d_M_useFilter_130 : decode c_M_useFilter 130 = .ok (.aload_n 0, 1) := by decide +kernel
theorem d_M_useFilter_131 : decode c_M_useFilter 131 = .ok (.getfield 131, 3) := by decide +kernel
theorem d_M_useFilter_134 : decode c_M_useFilter 134 = .ok (.aload_n 0, 1) := by decide +kernel
theorem d_M_useFilter_135 : decode c_M_useFilter 135 = .ok (.getfield 160, 3) := by decide +kernel
theorem d_M_useFilter_138 : decode c_M_useFilter 138 = .ok (.iastore, 1) := by decide +kernel
theorem d_M_useFilter_139 : decode c_M_useFilter 139 = .ok (.aload_n 0, 1) := by decide +kernel
theorem d_M_useFilter_140 : decode c_M_useFilter 140 = .ok (.dup, 1) := by decide +kernel
theorem d_M_useFilter_141 : decode c_M_useFilter 141 = .ok (.getfield 131, 3) := by decide +kernel
theorem d_M_useFilter_144 : decode c_M_useFilter 144 = .ok (.iconst 1, 1) := by decide +kernel
theorem d_M_useFilter_145 : decode c_M_useFilter 145 = .ok (.iadd, 1) := by decide +kernel
theorem d_M_useFilter_146 : decode c_M_useFilter 146 = .ok (.putfield 131, 3) := by decide +kernel
theorem d_M_useFilter_149 : decode c_M_useFilter 149 = .ok (.aload_n 0, 1) := by decide +kernel
theorem d_M_useFilter_150 : decode c_M_useFilter 150 = .ok (.dup, 1) := by decide +kernel
theorem d_M_useFilter_151 : decode c_M_useFilter 151 = .ok (.getfield 166, 3) := by decide +kernel
theorem d_M_useFilter_154 : decode c_M_useFilter 154 = .ok (.iconst 1, 1) := by decide +kernel
theorem d_M_useFilter_155 : decode c_M_useFilter 155 = .ok (.iadd, 1) := by decide +kernel
theorem d_M_useFilter_156 : decode c_M_useFilter 156 = .ok (.putfield 166, 3) := by decide +kernel
theorem d_M_useFilter_159 : decode c_M_useFilter 159 = .ok (.return_, 1) := by decide +kernel
theorem d_M_scoreOf_0 : decode c_M_scoreOf 0 = .ok (.fconst 0, 1) := by decide +kernel
theorem d_M_scoreOf_1 : decode c_M_scoreOf 1 = .ok (.fstore 5, 2) := by decide +kernel
theorem d_M_scoreOf_3 : decode c_M_scoreOf 3 = .ok (.iconst 0, 1) := by decide +kernel
theorem d_M_scoreOf_4 : decode c_M_scoreOf 4 = .ok (.istore 6, 2) := by decide +kernel
theorem d_M_scoreOf_6 : decode c_M_scoreOf 6 = .ok (.iload 6, 2) := by decide +kernel
theorem d_M_scoreOf_8 : decode c_M_scoreOf 8 = .ok (.aload_n 0, 1) := by decide +kernel
theorem d_M_scoreOf_9 : decode c_M_scoreOf 9 = .ok (.getfield 146, 3) := by decide +kernel
theorem d_M_scoreOf_12 : decode c_M_scoreOf 12 = .ok (.if_icmp .ge 147, 3) := by decide +kernel
theorem d_M_scoreOf_15 : decode c_M_scoreOf 15 = .ok (.aload_n 0, 1) := by decide +kernel
theorem d_M_scoreOf_16 : decode c_M_scoreOf 16 = .ok (.getfield 71, 3) := by decide +kernel
theorem d_M_scoreOf_19 : decode c_M_scoreOf 19 = .ok (.iload 6, 2) := by decide +kernel
theorem d_M_scoreOf_21 : decode c_M_scoreOf 21 = .ok (.iaload, 1) := by decide +kernel
theorem d_M_scoreOf_22 : decode c_M_scoreOf 22 = .ok (.istore 7, 2) := by decide +kernel
theorem d_M_scoreOf_24 : decode c_M_scoreOf 24 = .ok (.iconst 0, 1) := by decide +kernel
theorem d_M_scoreOf_25 : decode c_M_scoreOf 25 = .ok (.istore 8, 2) := by decide +kernel
theorem d_M_scoreOf_27 : decode c_M_scoreOf 27 = .ok (.aload_n 0, 1) := by decide +kernel
theorem d_M_scoreOf_28 : decode c_M_scoreOf 28 = .ok (.iload_n 1, 1) := by decide +kernel
theorem d_M_scoreOf_29 : decode c_M_scoreOf 29 = .ok (.aload_n 0, 1) := by decide +kernel
theorem d_M_scoreOf_30 : decode c_M_scoreOf 30 = .ok (.getfield 68, 3) := by decide +kernel
theorem d_M_scoreOf_33 : decode c_M_scoreOf 33 = .ok (.iload 7, 2) := by decide +kernel
theorem d_M_scoreOf_35 : decode c_M_scoreOf 35 = .ok (.iaload, 1) := by decide +kernel
theorem d_M_scoreOf_36 : decode c_M_scoreOf 36 = .ok (.invokevirtual 153, 3) := by decide +kernel
theorem d_M_scoreOf_39 : decode c_M_scoreOf 39 = .ok (.istore 9, 2) := by decide +kernel
theorem d_M_scoreOf_41 : decode c_M_scoreOf 41 = .ok (.aload_n 0, 1) := by decide +kernel
theorem d_M_scoreOf_42 : decode c_M_scoreOf 42 = .ok (.getfield 62, 3) := by decide +kernel
theorem d_M_scoreOf_45 : decode c_M_scoreOf 45 = .ok (.iload 7, 2) := by decide +kernel
theorem d_M_scoreOf_47 : decode c_M_scoreOf 47 = .ok (.iaload, 1) := by decide +kernel
theorem d_M_scoreOf_48 : decode c_M_scoreOf 48 = .ok (.ifCond .ne 105, 3) := by decide +kernel
theorem d_M_scoreOf_51 : decode c_M_scoreOf 51 = .ok (.iload 9, 2) := by decide +kernel
theorem d_M_scoreOf_53 : decode c_M_scoreOf 53 = .ok (.ifCond .ne 6, 3) := by decide +kernel
theorem d_M_scoreOf_56 : decode c_M_scoreOf 56 = .ok (.goto 97, 3) := by decide +kernel
theorem d_M_scoreOf_59 : decode c_M_scoreOf 59 = .ok (.iload_n 2, 1) := by decide +kernel
theorem d_M_scoreOf_60 : decode c_M_scoreOf 60 = .ok (.istore 10, 2) := by decide +kernel
theorem d_M_scoreOf_62 : decode c_M_scoreOf 62 = .ok (.iload 10, 2) := by decide +kernel
theorem d_M_scoreOf_64 : decode c_M_scoreOf 64 = .ok (.iload_n 3, 1) := by decide +kernel
theorem d_M_scoreOf_65 : decode c_M_scoreOf 65 = .ok (.if_icmp .ge 63, 3) := by decide +kernel
theorem d_M_scoreOf_68 : decode c_M_scoreOf 68 = .ok (.aload_n 0, 1) := by decide +kernel
theorem d_M_scoreOf_69 : decode c_M_scoreOf 69 = .ok (.getfield 31, 3) := by decide +kernel
theorem d_M_scoreOf_72 : decode c_M_scoreOf 72 = .ok (.bipush 24, 2) := by decide +kernel
theorem d_M_scoreOf_74 : decode c_M_scoreOf 74 = .ok (.iload 10, 2) := by decide +kernel
theorem d_M_scoreOf_76 : decode c_M_scoreOf 76 = .ok (.imul, 1) := by decide +kernel
theorem d_M_scoreOf_77 : decode c_M_scoreOf 77 = .ok (.bipush 8, 2) := by decide +kernel
theorem d_M_scoreOf_79 : decode c_M_scoreOf 79 = .ok (.aload_n 0, 1) := by decide +kernel
theorem d_M_scoreOf_80 : decode c_M_scoreOf 80 = .ok (.getfield 68, 3) := by decide +kernel
theorem d_M_scoreOf_83 : decode c_M_scoreOf 83 = .ok (.iload 7, 2) := by decide +kernel
theorem d_M_scoreOf_85 : decode c_M_scoreOf 85 = .ok (.iaload, 1) := by decide +kernel
theorem d_M_scoreOf_86 : decode c_M_scoreOf 86 = .ok (.imul, 1) := by decide +kernel
theorem d_M_scoreOf_87 : decode c_M_scoreOf 87 = .ok (.iadd, 1) := by decide +kernel
theorem d_M_scoreOf_88 : decode c_M_scoreOf 88 = .ok (.aload_n 0, 1) := by decide +kernel
theorem d_M_scoreOf_89 : decode c_M_scoreOf 89 = .ok (.getfield 65, 3) := by decide +kernel
theorem d_M_scoreOf_92 : decode c_M_scoreOf 92 = .ok (.iload 7, 2) := by decide +kernel
theorem d_M_scoreOf_94 : decode c_M_scoreOf 94 = .ok (.iaload, 1) := by decide +kernel
theorem d_M_scoreOf_95 : decode c_M_scoreOf 95 = .ok (.iadd, 1) := by decide +kernel
theorem d_M_scoreOf_96 : decode c_M_scoreOf 96 = .ok (.iaload, 1) := by decide +kernel
theorem d_M_scoreOf_97 : decode c_M_scoreOf 97 = .ok (.istore 11, 2) := by decide +kernel
theorem d_M_scoreOf_99 : decode c_M_scoreOf 99 = .ok (.aload_n 0, 1) := by decide +kernel
theorem d_M_scoreOf_100 : decode c_M_scoreOf 100 = .ok (.getfield 46, 3) := by decide +kernel
theorem d_M_scoreOf_103 : decode c_M_scoreOf 103 = .ok (.iload 10, 2) := by decide +kernel
theorem d_M_scoreOf_105 : decode c_M_scoreOf 105 = .ok (.iaload, 1) := by decide +kernel
theorem d_M_scoreOf_106 : decode c_M_scoreOf 106 = .ok (.iload 4, 2) := by decide +kernel
theorem d_M_scoreOf_108 : decode c_M_scoreOf 108 = .ok (.if_icmp .ne 14, 3) := by decide +kernel
theorem d_M_scoreOf_111 : decode c_M_scoreOf 111 = .ok (.iload 11, 2) := by decide +kernel
theorem d_M_scoreOf_113 : decode c_M_scoreOf 113 = .ok (.iload 8, 2) := by decide +kernel
theorem d_M_scoreOf_115 : decode c_M_scoreOf 115 = .ok (.if_icmp .le 7, 3) := by decide +kernel
theorem d_M_scoreOf_118 : decode c_M_scoreOf 118 = .ok (.iload 11, 2) := by decide +kernel
theorem d_M_scoreOf_120 : decode c_M_scoreOf 120 = .ok (.istore 8, 2) := by decide +kernel
theorem d_M_scoreOf_122 : decode c_M_scoreOf 122 = .ok (.iinc 10 1, 3) := by decide +kernel
theorem d_M_scoreOf_125 : decode c_M_scoreOf 125 = .ok (.goto (-63), 3) := by decide +kernel
theorem d_M_scoreOf_128 : decode c_M_scoreOf 128 = .ok (.iload 8, 2) := by decide +kernel
theorem d_M_scoreOf_130 : decode c_M_scoreOf 130 = .ok (.ifCond .le 23, 3) := by decide +kernel
theorem d_M_scoreOf_133 : decode c_M_scoreOf 133 = .ok (.fload 5, 2) := by decide +kernel
theorem d_M_scoreOf_135 : decode c_M_scoreOf 135 = .ok (.aload_n 0, 1) := by decide +kernel
theorem d_M_scoreOf_136 : decode c_M_scoreOf 136 = .ok (.getfield 77, 3) := by decide +kernel
theorem d_M_scoreOf_139 : decode c_M_scoreOf 139 = .ok (.iload 7, 2) := by decide +kernel
theorem d_M_scoreOf_141 : decode c_M_scoreOf 141 = .ok (.daload, 1) := by decide +kernel
theorem d_M_scoreOf_142 : decode c_M_scoreOf 142 = .ok (.d2f, 1) := by decide +kernel
theorem d_M_scoreOf_143 : decode c_M_scoreOf 143 = .ok (.iload 8, 2) := by decide +kernel
theorem d_M_scoreOf_145 : decode c_M_scoreOf 145 = .ok (.i2f, 1) := by decide +kernel
theorem d_M_scoreOf_146 : decode c_M_scoreOf 146 = .ok (.ldc 114, 2) := by decide +kernel
theorem d_M_scoreOf_148 : decode c_M_scoreOf 148 = .ok (.fdiv, 1) := by decide +kernel
theorem d_M_scoreOf_149 : decode c_M_scoreOf 149 = .ok (.fmul, 1) := by decide +kernel
theorem d_M_scoreOf_150 : decode c_M_scoreOf 150 = .ok (.fadd, 1) := by decide +kernel
theorem d_M_scoreOf_151 : decode c_M_scoreOf 151 = .ok (.fstore 5, 2) := by decide +kernel
theorem d_M_scoreOf_153 : decode c_M_scoreOf 153 = .ok (.iinc 6 1, 3) := by decide +kernel
theorem d_M_scoreOf_156 : decode c_M_scoreOf 156 = .ok (.goto (-150), 3) := by decide +kernel
theorem d_M_scoreOf_159 : decode c_M_scoreOf 159 = .ok (.fload 5, 2) := by decide +kernel
theorem d_M_scoreOf_161 : decode c_M_scoreOf 161 = .ok (.freturn, 1) := by decide +kernel
theorem d_M_isFound_0 : decode c_M_isFound 0 = .ok (.iconst 0, 1) := by decide +kernel
theorem d_M_isFound_1 : decode c_M_isFound 1 = .ok (.istore_n 3, 1) := by decide +kernel
theorem d_M_isFound_2 : decode c_M_isFound 2 = .ok (.iconst 0, 1) := by decide +kernel
theorem d_M_isFound_3 : decode c_M_isFound 3 = .ok (.istore 4, 2) := by decide +kernel
theorem d_M_isFound_5 : decode c_M_isFound 5 = .ok (.iload 4, 2) := by decide +kernel
theorem d_M_isFound_7 : decode c_M_isFound 7 = .ok (.aload_n 0, 1) := by decide +kernel
theorem d_M_isFound_8 : decode c_M_isFound 8 = .ok (.getfield 146, 3) := by decide +kernel
theorem d_M_isFound_11 : decode c_M_isFound 11 = .ok (.if_icmp .ge 119, 3) := by decide +kernel
theorem d_M_isFound_14 : decode c_M_isFound 14 = .ok (.aload_n 0, 1) := by decide +kernel
theorem d_M_isFound_15 : decode c_M_isFound 15 = .ok (.iload_n 1, 1) := by decide +kernel
theorem d_M_isFound_16 : decode c_M_isFound 16 = .ok (.aload_n 0, 1) := by decide +kernel
theorem d_M_isFound_17 : decode c_M_isFound 17 = .ok (.getfield 68, 3) := by decide +kernel
theorem d_M_isFound_20 : decode c_M_isFound 20 = .ok (.iload 4, 2) := by decide +kernel
theorem d_M_isFound_22 : decode c_M_isFound 22 = .ok (.iaload, 1) := by decide +kernel
theorem d_M_isFound_23 : decode c_M_isFound 23 = .ok (.invokevirtual 153, 3) := by decide +kernel
theorem d_M_isFound_26 : decode c_M_isFound 26 = .ok (.istore 5, 2) := by decide +kernel
theorem d_M_isFound_28 : decode c_M_isFound 28 = .ok (.aload_n 0, 1) := by decide +kernel
theorem d_M_isFound_29 : decode c_M_isFound 29 = .ok (.getfield 31, 3) := by decide +kernel
theorem d_M_isFound_32 : decode c_M_isFound 32 = .ok (.bipush 24, 2) := by decide +kernel
theorem d_M_isFound_34 : decode c_M_isFound 34 = .ok (.iload_n 2, 1) := by decide +kernel
theorem d_M_isFound_35 : decode c_M_isFound 35 = .ok (.imul, 1) := by decide +kernel
theorem d_M_isFound_36 : decode c_M_isFound 36 = .ok (.bipush 8, 2) := by decide +kernel
theorem d_M_isFound_38 : decode c_M_isFound 38 = .ok (.aload_n 0, 1) := by decide +kernel
theorem d_M_isFound_39 : decode c_M_isFound 39 = .ok (.getfield 68, 3) := by decide +kernel
theorem d_M_isFound_42 : decode c_M_isFound 42 = .ok (.iload 4, 2) := by decide +kernel
theorem d_M_isFound_44 : decode c_M_isFound 44 = .ok (.iaload, 1) := by decide +kernel
theorem d_M_isFound_45 : decode c_M_isFound 45 = .ok (.imul, 1) := by decide +kernel
theorem d_M_isFound_46 : decode c_M_isFound 46 = .ok (.iadd, 1) := by decide +kernel
theorem d_M_isFound_47 : decode c_M_isFound 47 = .ok (.aload_n 0, 1) := by decide +kernel
theorem d_M_isFound_48 : decode c_M_isFound 48 = .ok (.getfield 65, 3) := by decide +kernel
theorem d_M_isFound_51 : decode c_M_isFound 51 = .ok (.iload 4, 2) := by decide +kernel
theorem d_M_isFound_53 : decode c_M_isFound 53 = .ok (.iaload, 1) := by decide +kernel
theorem d_M_isFound_54 : decode c_M_isFound 54 = .ok (.iadd, 1) := by decide +kernel
theorem d_M_isFound_55 : decode c_M_isFound 55 = .ok (.iaload, 1) := by decide +kernel
theorem d_M_isFound_56 : decode c_M_isFound 56 = .ok (.istore 6, 2) := by decide +kernel
theorem d_M_isFound_58 : decode c_M_isFound 58 = .ok (.aload_n 0, 1) := by decide +kernel
theorem d_M_isFound_59 : decode c_M_isFound 59 = .ok (.getfield 62, 3) := by decide +kernel
theorem d_M_isFound_62 : decode c_M_isFound 62 = .ok (.iload 4, 2) := by decide +kernel
theorem d_M_isFound_64 : decode c_M_isFound 64 = .ok (.iaload, 1) := by decide +kernel
theorem d_M_isFound_65 : decode c_M_isFound 65 = .ok (.iconst 1, 1) := by decide +kernel
theorem d_M_isFound_66 : decode c_M_isFound 66 = .ok (.if_icmp .ne 13, 3) := by decide +kernel
theorem d_M_isFound_69 : decode c_M_isFound 69 = .ok (.iload 5, 2) := by decide +kernel
theorem d_M_isFound_71 : decode c_M_isFound 71 = .ok (.ifCond .eq 29, 3) := by decide +kernel
theorem d_M_isFound_74 : decode c_M_isFound 74 = .ok (.iload 6, 2) := by decide +kernel
theorem d_M_isFound_76 : decode c_M_isFound 76 = .ok (.ifCond .eq 24, 3) := by decide +kernel
theorem d_M_isFound_79 : decode c_M_isFound 79 = .ok (.iload 5, 2) := by decide +kernel
theorem d_M_isFound_81 : decode c_M_isFound 81 = .ok (.ifCond .eq 21, 3) := by decide +kernel
theorem d_M_isFound_84 : decode c_M_isFound 84 = .ok (.aload_n 0, 1) := by decide +kernel
theorem d_M_isFound_85 : decode c_M_isFound 85 = .ok (.getfield 62, 3) := by decide +kernel
theorem d_M_isFound_88 : decode c_M_isFound 88 = .ok (.iload 4, 2) := by decide +kernel
theorem d_M_isFound_90 : decode c_M_isFound 90 = .ok (.iaload, 1) := by decide +kernel
theorem d_M_isFound_91 : decode c_M_isFound 91 = .ok (.iconst 2, 1) := by decide +kernel
theorem d_M_isFound_92 : decode c_M_isFound 92 = .ok (.if_icmp .ne 10, 3) := by decide +kernel
theorem d_M_isFound_95 : decode c_M_isFound 95 = .ok (.iload 6, 2) := by decide +kernel
theorem d_M_isFound_97 : decode c_M_isFound 97 = .ok (.ifCond .le 5, 3) := by decide +kernel
theorem d_M_isFound_100 : decode c_M_isFound 100 = .ok (.iconst 0, 1) := by decide +kernel
theorem d_M_isFound_101 : decode c_M_isFound 101 = .ok (.ireturn, 1) := by decide +kernel
theorem d_M_isFound_102 : decode c_M_isFound 102 = .ok (.iload 5, 2) := by decide +kernel
theorem d_M_isFound_104 : decode c_M_isFound 104 = .ok (.ifCond .eq 20, 3) := by decide +kernel
theorem d_M_isFound_107 : decode c_M_isFound 107 = .ok (.aload_n 0, 1) := by decide +kernel
theorem d_M_isFound_108 : decode c_M_isFound 108 = .ok (.getfield 62, 3) := by decide +kernel
theorem d_M_isFound_111 : decode c_M_isFound 111 = .ok (.iload 4, 2) := by decide +kernel
theorem d_M_isFound_113 : decode c_M_isFound 113 = .ok (.iaload, 1) := by decide +kernel
theorem d_M_isFound_114 : decode c_M_isFound 114 = .ok (.ifCond .ne 10, 3) := by decide +kernel
theorem d_M_isFound_117 : decode c_M_isFound 117 = .ok (.iload 6, 2) := by decide +kernel
theorem d_M_isFound_119 : decode c_M_isFound 119 = .ok (.ifCond .le 5, 3) := by decide +kernel
theorem d_M_isFound_122 : decode c_M_isFound 122 = .ok (.iconst 1, 1) := by decide +kernel
theorem d_M_isFound_123 : decode c_M_isFound 123 = .ok (.istore_n 3, 1) := by decide +kernel
theorem d_M_isFound_124 : decode c_M_isFound 124 = .ok (.iinc 4 1, 3) := by decide +kernel
theorem d_M_isFound_127 : decode c_M_isFound 127 = .ok (.goto (-122), 3) := by decide +kernel
theorem d_M_isFound_130 : decode c_M_isFound 130 = .ok (.iload_n 3, 1) := by decide +kernel
theorem d_M_isFound_131 : decode c_M_isFound 131 = .ok (.ireturn, 1) := by decide +kernel
theorem d_M_enter_0 : decode c_M_enter 0 = .ok (.aload_n 0, 1) := by decide +kernel
theorem d_M_enter_1 : decode c_M_enter 1 = .ok (.getfield 157, 3) := by decide +kernel
theorem d_M_enter_4 : decode c_M_enter 4 = .ok (.istore 4, 2) := by decide +kernel
theorem d_M_enter_6 : decode c_M_enter 6 = .ok (.iload 4, 2) := by decide +kernel
theorem d_M_enter_8 : decode c_M_enter 8 = .ok (.ifCond .le 82, 3) := by decide +kernel
theorem d_M_enter_11 : decode c_M_enter 11 = .ok (.aload_n 0, 1) := by decide +kernel
theorem d_M_enter_12 : decode c_M_enter 12 = .ok (.getfield 81, 3) := by decide +kernel
theorem d_M_enter_15 : decode c_M_enter 15 = .ok (.iload 4, 2) := by decide +kernel
theorem d_M_enter_17 : decode c_M_enter 17 = .ok (.iconst 1, 1) := by decide +kernel
theorem d_M_enter_18 : decode c_M_enter 18 = .ok (.isub, 1) := by decide +kernel
theorem d_M_enter_19 : decode c_M_enter 19 = .ok (.faload, 1) := by decide +kernel
theorem d_M_enter_20 : decode c_M_enter 20 = .ok (.fload_n 2, 1) := by decide +kernel
theorem d_M_enter_21 : decode c_M_enter 21 = .ok (.fcmp .g, 1) := by decide +kernel
theorem d_M_enter_22 : decode c_M_enter 22 = .ok (.ifCond .lt 30, 3) := by decide +kernel
theorem d_M_enter_25 : decode c_M_enter 25 = .ok (.aload_n 0, 1) := by decide +kernel
theorem d_M_enter_26 : decode c_M_enter 26 = .ok (.getfield 81, 3) := by decide +kernel
theorem d_M_enter_29 : decode c_M_enter 29 = .ok (.iload 4, 2) := by decide +kernel
theorem d_M_enter_31 : decode c_M_enter 31 = .ok (.iconst 1, 1) := by decide +kernel
theorem d_M_enter_32 : decode c_M_enter 32 = .ok (.isub, 1) := by decide +kernel
theorem d_M_enter_33 : decode c_M_enter 33 = .ok (.faload, 1) := by decide +kernel
theorem d_M_enter_34 : decode c_M_enter 34 = .ok (.fload_n 2, 1) := by decide +kernel
theorem d_M_enter_35 : decode c_M_enter 35 = .ok (.fcmp .l, 1) := by decide +kernel
theorem d_M_enter_36 : decode c_M_enter 36 = .ok (.ifCond .ne 54, 3) := by decide +kernel
theorem d_M_enter_39 : decode c_M_enter 39 = .ok (.aload_n 0, 1) := by decide +kernel
theorem d_M_enter_40 : decode c_M_enter 40 = .ok (.getfield 74, 3) := by decide +kernel
theorem d_M_enter_43 : decode c_M_enter 43 = .ok (.iload 4, 2) := by decide +kernel
theorem d_M_enter_45 : decode c_M_enter 45 = .ok (.iconst 1, 1) := by decide +kernel
theorem d_M_enter_46 : decode c_M_enter 46 = .ok (.isub, 1) := by decide +kernel
theorem d_M_enter_47 : decode c_M_enter 47 = .ok (.iaload, 1) := by decide +kernel
theorem d_M_enter_48 : decode c_M_enter 48 = .ok (.iload_n 1, 1) := by decide +kernel
theorem d_M_enter_49 : decode c_M_enter 49 = .ok (.if_icmp .le 41, 3) := by decide +kernel
theorem d_M_enter_52 : decode c_M_enter 52 = .ok (.aload_n 0, 1) := by decide +kernel
theorem d_M_enter_53 : decode c_M_enter 53 = .ok (.getfield 81, 3) := by decide +kernel
theorem d_M_enter_56 : decode c_M_enter 56 = .ok (.iload 4, 2) := by decide +kernel
theorem d_M_enter_58 : decode c_M_enter 58 = .ok (.aload_n 0, 1) := by decide +kernel
theorem d_M_enter_59 : decode c_M_enter 59 = .ok (.getfield 81, 3) := by decide +kernel
theorem d_M_enter_62 : decode c_M_enter 62 = .ok (.iload 4, 2) := by decide +kernel
theorem d_M_enter_64 : decode c_M_enter 64 = .ok (.iconst 1, 1) := by decide +kernel
theorem d_M_enter_65 : decode c_M_enter 65 = .ok (.isub, 1) := by decide +kernel
theorem d_M_enter_66 : decode c_M_enter 66 = .ok (.faload, 1) := by decide +kernel
theorem d_M_enter_67 : decode c_M_enter 67 = .ok (.fastore, 1) := by decide +kernel
theorem d_M_enter_68 : decode c_M_enter 68 = .ok (.aload_n 0, 1) := by decide +kernel
theorem d_M_enter_69 : decode c_M_enter 69 = .ok (.getfield 74, 3) := by decide +kernel
theorem d_M_enter_72 : decode c_M_enter 72 = .ok (.iload 4, 2) := by decide +kernel
theorem d_M_enter_74 : decode c_M_enter 74 = .ok (.aload_n 0, 1) := by decide +kernel
theorem d_M_enter_75 : decode c_M_enter 75 = .ok (.getfield 74, 3) := by decide +kernel
theorem d_M_enter_78 : decode c_M_enter 78 = .ok (.iload 4, 2) := by decide +kernel
theorem d_M_enter_80 : decode c_M_enter 80 = .ok (.iconst 1, 1) := by decide +kernel
theorem d_M_enter_81 : decode c_M_enter 81 = .ok (.isub, 1) := by decide +kernel
theorem d_M_enter_82 : decode c_M_enter 82 = .ok (.iaload, 1) := by decide +kernel
theorem d_M_enter_83 : decode c_M_enter 83 = .ok (.iastore, 1) := by decide +kernel
theorem d_M_enter_84 : decode c_M_enter 84 = .ok (.iinc 4 (-1), 3) := by decide +kernel
theorem d_M_enter_87 : decode c_M_enter 87 = .ok (.goto (-81), 3) := by decide +kernel
theorem d_M_enter_90 : decode c_M_enter 90 = .ok (.aload_n 0, 1) := by decide +kernel
theorem d_M_enter_91 : decode c_M_enter 91 = .ok (.getfield 81, 3) := by decide +kernel
theorem d_M_enter_94 : decode c_M_enter 94 = .ok (.iload 4, 2) := by decide +kernel
theorem d_M_enter_96 : decode c_M_enter 96 = .ok (.fload_n 2, 1) := by decide +kernel
theorem d_M_enter_97 : decode c_M_enter 97 = .ok (.fastore, 1) := by decide +kernel
theorem d_M_enter_98 : decode c_M_enter 98 = .ok (.aload_n 0, 1) := by decide +kernel
theorem d_M_enter_99 : decode c_M_enter 99 = .ok (.getfield 74, 3) := by decide +kernel
theorem d_M_enter_102 : decode c_M_enter 102 = .ok (.iload 4, 2) := by decide +kernel
theorem d_M_enter_104 : decode c_M_enter 104 = .ok (.iload_n 1, 1) := by decide +kernel
theorem d_M_enter_105 : decode c_M_enter 105 = .ok (.iastore, 1) := by decide +kernel
theorem d_M_enter_106 : decode c_M_enter 106 = .ok (.aload_n 0, 1) := by decide +kernel
theorem d_M_enter_107 : decode c_M_enter 107 = .ok (.getfield 157, 3) := by decide +kernel
theorem d_M_enter_110 : decode c_M_enter 110 = .ok (.iload_n 3, 1) := by decide +kernel
theorem d_M_enter_111 : decode c_M_enter 111 = .ok (.if_icmp .ge 13, 3) := by decide +kernel
theorem d_M_enter_114 : decode c_M_enter 114 = .ok (.aload_n 0, 1) := by decide +kernel
theorem d_M_enter_115 : decode c_M_enter 115 = .ok (.dup, 1) := by decide +kernel
theorem d_M_enter_116 : decode c_M_enter 116 = .ok (.getfield 157, 3) := by decide +kernel
theorem d_M_enter_119 : decode c_M_enter 119 = .ok (.iconst 1, 1) := by decide +kernel
theorem d_M_enter_120 : decode c_M_enter 120 = .ok (.iadd, 1) := by decide +kernel
theorem d_M_enter_121 : decode c_M_enter 121 = .ok (.putfield 157, 3) := by decide +kernel
theorem d_M_enter_124 : decode c_M_enter 124 = .ok (.return_, 1) := by decide +kernel
theorem d_M_value_0 : decode c_M_value 0 = .ok (.iload_n 1, 1) := by decide +kernel
theorem d_M_value_1 : decode c_M_value 1 = .ok (.iconst 0, 1) := by decide +kernel
theorem d_M_value_2 : decode c_M_value 2 = .ok (.bipush 7, 2) := by decide +kernel
theorem d_M_value_4 : decode c_M_value 4 = .ok (.invokestatic 98, 3) := by decide +kernel
theorem d_M_value_7 : decode c_M_value 7 = .ok (.ifCond .eq 12, 3) := by decide +kernel
theorem d_M_value_10 : decode c_M_value 10 = .ok (.iload_n 3, 1) := by decide +kernel
theorem d_M_value_11 : decode c_M_value 11 = .ok (.iconst 0, 1) := by decide +kernel
theorem d_M_value_12 : decode c_M_value 12 = .ok (.iconst 2, 1) := by decide +kernel
theorem d_M_value_13 : decode c_M_value 13 = .ok (.invokestatic 98, 3) := by decide +kernel
theorem d_M_value_16 : decode c_M_value 16 = .ok (.ifCond .ne 9, 3) := by decide +kernel
theorem d_M_value_19 : decode c_M_value 19 = .ok (.aload_n 0, 1) := by decide +kernel
theorem d_M_value_20 : decode c_M_value 20 = .ok (.iconst 1, 1) := by decide +kernel
theorem d_M_value_21 : decode c_M_value 21 = .ok (.invokevirtual 102, 3) := by decide +kernel
theorem d_M_value_24 : decode c_M_value 24 = .ok (.ireturn, 1) := by decide +kernel
theorem d_M_value_25 : decode c_M_value 25 = .ok (.iload_n 2, 1) := by decide +kernel
theorem d_M_value_26 : decode c_M_value 26 = .ok (.iconst 0, 1) := by decide +kernel
theorem d_M_value_27 : decode c_M_value 27 = .ok (.aload_n 0, 1) := by decide +kernel
theorem d_M_value_28 : decode c_M_value 28 = .ok (.getfield 116, 3) := by decide +kernel
theorem d_M_value_31 : decode c_M_value 31 = .ok (.iconst 1, 1) := by decide +kernel
theorem d_M_value_32 : decode c_M_value 32 = .ok (.isub, 1) := by decide +kernel
theorem d_M_value_33 : decode c_M_value 33 = .ok (.invokestatic 98, 3) := by decide +kernel
theorem d_M_value_36 : decode c_M_value 36 = .ok (.ifCond .eq 34, 3) := by decide +kernel
theorem d_M_value_39 : decode c_M_value 39 = .ok (.aload_n 0, 1) := by decide +kernel
theorem d_M_value_40 : decode c_M_value 40 = .ok (.getfield 46, 3) := by decide +kernel
theorem d_M_value_43 : decode c_M_value 43 = .ok (.iload_n 2, 1) := by decide +kernel
theorem d_M_value_44 : decode c_M_value 44 = .ok (.iaload, 1) := by decide +kernel
theorem d_M_value_45 : decode c_M_value 45 = .ok (.ifCond .lt 25, 3) := by decide +kernel
theorem d_M_value_48 : decode c_M_value 48 = .ok (.aload_n 0, 1) := by decide +kernel
theorem d_M_value_49 : decode c_M_value 49 = .ok (.getfield 53, 3) := by decide +kernel
theorem d_M_value_52 : decode c_M_value 52 = .ok (.iload_n 2, 1) := by decide +kernel
theorem d_M_value_53 : decode c_M_value 53 = .ok (.baload, 1) := by decide +kernel
theorem d_M_value_54 : decode c_M_value 54 = .ok (.ifCond .ne 16, 3) := by decide +kernel
theorem d_M_value_57 : decode c_M_value 57 = .ok (.aload_n 0, 1) := by decide +kernel
theorem d_M_value_58 : decode c_M_value 58 = .ok (.iload_n 1, 1) := by decide +kernel
theorem d_M_value_59 : decode c_M_value 59 = .ok (.iload_n 2, 1) := by decide +kernel
theorem d_M_value_60 : decode c_M_value 60 = .ok (.invokevirtual 175, 3) := by decide +kernel
theorem d_M_value_63 : decode c_M_value 63 = .ok (.ifCond .eq 7, 3) := by decide +kernel
theorem d_M_value_66 : decode c_M_value 66 = .ok (.iconst 1, 1) := by decide +kernel
theorem d_M_value_67 : decode c_M_value 67 = .ok (.goto 4, 3) := by decide +kernel
theorem d_M_value_70 : decode c_M_value 70 = .ok (.iconst 0, 1) := by decide +kernel
theorem d_M_value_71 : decode c_M_value 71 = .ok (.istore 4, 2) := by decide +kernel
theorem d_M_value_73 : decode c_M_value 73 = .ok (.aload_n 0, 1) := by decide +kernel
theorem d_M_value_74 : decode c_M_value 74 = .ok (.iload_n 1, 1) := by decide +kernel
theorem d_M_value_75 : decode c_M_value 75 = .ok (.iload_n 3, 1) := by decide +kernel
theorem d_M_value_76 : decode c_M_value 76 = .ok (.invokevirtual 153, 3) := by decide +kernel
theorem d_M_value_79 : decode c_M_value 79 = .ok (.istore 5, 2) := by decide +kernel
theorem d_M_value_81 : decode c_M_value 81 = .ok (.iload 4, 2) := by decide +kernel
theorem d_M_value_83 : decode c_M_value 83 = .ok (.ifCond .ne 9, 3) := by decide +kernel
theorem d_M_value_86 : decode c_M_value 86 = .ok (.aload_n 0, 1) := by decide +kernel
theorem d_M_value_87 : decode c_M_value 87 = .ok (.iconst 2, 1) := by decide +kernel
theorem d_M_value_88 : decode c_M_value 88 = .ok (.invokevirtual 102, 3) := by decide +kernel
theorem d_M_value_91 : decode c_M_value 91 = .ok (.ireturn, 1) := by decide +kernel
theorem d_M_value_92 : decode c_M_value 92 = .ok (.iload 5, 2) := by decide +kernel
theorem d_M_value_94 : decode c_M_value 94 = .ok (.ifCond .ne 9, 3) := by decide +kernel
theorem d_M_value_97 : decode c_M_value 97 = .ok (.aload_n 0, 1) := by decide +kernel
theorem d_M_value_98 : decode c_M_value 98 = .ok (.iconst 3, 1) := by decide +kernel
theorem d_M_value_99 : decode c_M_value 99 = .ok (.invokevirtual 102, 3) := by decide +kernel
theorem d_M_value_102 : decode c_M_value 102 = .ok (.ireturn, 1) := by decide +kernel
theorem d_M_value_103 : decode c_M_value 103 = .ok (.aload_n 0, 1) := by decide +kernel
theorem d_M_value_104 : decode c_M_value 104 = .ok (.iconst 0, 1) := by decide +kernel
theorem d_M_value_105 : decode c_M_value 105 = .ok (.putfield 94, 3) := by decide +kernel
theorem d_M_value_108 : decode c_M_value 108 = .ok (.aload_n 0, 1) := by decide +kernel
theorem d_M_value_109 : decode c_M_value 109 = .ok (.getfield 28, 3) := by decide +kernel
theorem d_M_value_112 : decode c_M_value 112 = .ok (.iconst 3, 1) := by decide +kernel
theorem d_M_value_113 : decode c_M_value 113 = .ok (.iload_n 2, 1) := by decide +kernel
theorem d_M_value_114 : decode c_M_value 114 = .ok (.imul, 1) := by decide +kernel
theorem d_M_value_115 : decode c_M_value 115 = .ok (.iload_n 3, 1) := by decide +kernel
theorem d_M_value_116 : decode c_M_value 116 = .ok (.iadd, 1) := by decide +kernel
theorem d_M_value_117 : decode c_M_value 117 = .ok (.iaload, 1) := by decide +kernel
theorem d_M_value_118 : decode c_M_value 118 = .ok (.ireturn, 1) := by decide +kernel
theorem d_M_count_0 : decode c_M_count 0 = .ok (.iload_n 1, 1) := by decide +kernel
theorem d_M_count_1 : decode c_M_count 1 = .ok (.bipush 10, 2) := by decide +kernel
theorem d_M_count_3 : decode c_M_count 3 = .ok (.bipush 17, 2) := by decide +kernel
theorem d_M_count_5 : decode c_M_count 5 = .ok (.invokestatic 98, 3) := by decide +kernel
theorem d_M_count_8 : decode c_M_count 8 = .ok (.ifCond .ne 14, 3) := by decide +kernel
theorem d_M_count_11 : decode c_M_count 11 = .ok (.iload_n 1, 1) := by decide +kernel
theorem d_M_count_12 : decode c_M_count 12 = .ok (.bipush 20, 2) := by decide +kernel
theorem d_M_count_14 : decode c_M_count 14 = .ok (.bipush 27, 2) := by decide +kernel
theorem d_M_count_16 : decode c_M_count 16 = .ok (.invokestatic 98, 3) := by decide +kernel
theorem d_M_count_19 : decode c_M_count 19 = .ok (.ifCond .eq 28, 3) := by decide +kernel
theorem d_M_count_22 : decode c_M_count 22 = .ok (.aload_n 0, 1) := by decide +kernel
theorem d_M_count_23 : decode c_M_count 23 = .ok (.iconst 0, 1) := by decide +kernel
theorem d_M_count_24 : decode c_M_count 24 = .ok (.putfield 94, 3) := by decide +kernel
theorem d_M_count_27 : decode c_M_count 27 = .ok (.aload_n 0, 1) := by decide +kernel
theorem d_M_count_28 : decode c_M_count 28 = .ok (.iload_n 1, 1) := by decide +kernel
theorem d_M_count_29 : decode c_M_count 29 = .ok (.bipush 10, 2) := by decide +kernel
theorem d_M_count_31 : decode c_M_count 31 = .ok (.irem, 1) := by decide +kernel
theorem d_M_count_32 : decode c_M_count 32 = .ok (.iload_n 1, 1) := by decide +kernel
theorem d_M_count_33 : decode c_M_count 33 = .ok (.bipush 20, 2) := by decide +kernel
theorem d_M_count_35 : decode c_M_count 35 = .ok (.if_icmp .ge 7, 3) := by decide +kernel
theorem d_M_count_38 : decode c_M_count 38 = .ok (.iconst 1, 1) := by decide +kernel
theorem d_M_count_39 : decode c_M_count 39 = .ok (.goto 4, 3) := by decide +kernel
theorem d_M_count_42 : decode c_M_count 42 = .ok (.iconst 0, 1) := by decide +kernel
theorem d_M_count_43 : decode c_M_count 43 = .ok (.invokevirtual 149, 3) := by decide +kernel
theorem d_M_count_46 : decode c_M_count 46 = .ok (.ireturn, 1) := by decide +kernel
theorem d_M_count_47 : decode c_M_count 47 = .ok (.iload_n 1, 1) := by decide +kernel
theorem d_M_count_48 : decode c_M_count 48 = .ok (.iconst 0, 1) := by decide +kernel
theorem d_M_count_49 : decode c_M_count 49 = .ok (.bipush 8, 2) := by decide +kernel
theorem d_M_count_51 : decode c_M_count 51 = .ok (.invokestatic 98, 3) := by decide +kernel
theorem d_M_count_54 : decode c_M_count 54 = .ok (.ifCond .ne 9, 3) := by decide +kernel
theorem d_M_count_57 : decode c_M_count 57 = .ok (.aload_n 0, 1) := by decide +kernel
theorem d_M_count_58 : decode c_M_count 58 = .ok (.iconst 1, 1) := by decide +kernel
theorem d_M_count_59 : decode c_M_count 59 = .ok (.invokevirtual 102, 3) := by decide +kernel
theorem d_M_count_62 : decode c_M_count 62 = .ok (.ireturn, 1) := by decide +kernel
theorem d_M_count_63 : decode c_M_count 63 = .ok (.aload_n 0, 1) := by decide +kernel
theorem d_M_count_64 : decode c_M_count 64 = .ok (.iconst 0, 1) := by decide +kernel
theorem d_M_count_65 : decode c_M_count 65 = .ok (.putfield 94, 3) := by decide +kernel
theorem d_M_count_68 : decode c_M_count 68 = .ok (.iload_n 1, 1) := by decide +kernel
theorem d_M_count_69 : decode c_M_count 69 = .ok (.tableswitch 88 0 7 #[47, 52, 58, 63, 68, 73, 78, 83], 47) := by decide +kernel
theorem d_M_count_116 : decode c_M_count 116 = .ok (.aload_n 0, 1) := by decide +kernel
theorem d_M_count_117 : decode c_M_count 117 = .ok (.getfield 116, 3) := by decide +kernel
theorem d_M_count_120 : decode c_M_count 120 = .ok (.ireturn, 1) := by decide +kernel
theorem d_M_count_121 : decode c_M_count 121 = .ok (.aload_n 0, 1) := by decide +kernel
theorem d_M_count_122 : decode c_M_count 122 = .ok (.iconst (-1), 1) := by decide +kernel
theorem d_M_count_123 : decode c_M_count 123 = .ok (.invokevirtual 122, 3) := by decide +kernel
theorem d_M_count_126 : decode c_M_count 126 = .ok (.ireturn, 1) := by decide +kernel
theorem d_M_count_127 : decode c_M_count 127 = .ok (.aload_n 0, 1) := by decide +kernel
theorem d_M_count_128 : decode c_M_count 128 = .ok (.getfield 119, 3) := by decide +kernel
theorem d_M_count_131 : decode c_M_count 131 = .ok (.ireturn, 1) := by decide +kernel
theorem d_M_count_132 : decode c_M_count 132 = .ok (.aload_n 0, 1) := by decide +kernel
theorem d_M_count_133 : decode c_M_count 133 = .ok (.getfield 128, 3) := by decide +kernel
theorem d_M_count_136 : decode c_M_count 136 = .ok (.ireturn, 1) := by decide +kernel
theorem d_M_count_137 : decode c_M_count 137 = .ok (.aload_n 0, 1) := by decide +kernel
theorem d_M_count_138 : decode c_M_count 138 = .ok (.getfield 169, 3) := by decide +kernel
theorem d_M_count_141 : decode c_M_count 141 = .ok (.ireturn, 1) := by decide +kernel
theorem d_M_count_142 : decode c_M_count 142 = .ok (.aload_n 0, 1) := by decide +kernel
theorem d_M_count_143 : decode c_M_count 143 = .ok (.getfield 178, 3) := by decide +kernel
theorem d_M_count_146 : decode c_M_count 146 = .ok (.ireturn, 1) := by decide +kernel
theorem d_M_count_147 : decode c_M_count 147 = .ok (.aload_n 0, 1) := by decide +kernel
theorem d_M_count_148 : decode c_M_count 148 = .ok (.getfield 166, 3) := by decide +kernel
theorem d_M_count_151 : decode c_M_count 151 = .ok (.ireturn, 1) := by decide +kernel
theorem d_M_count_152 : decode c_M_count 152 = .ok (.aload_n 0, 1) := by decide +kernel
theorem d_M_count_153 : decode c_M_count 153 = .ok (.getfield 163, 3) := by decide +kernel
theorem d_M_count_156 : decode c_M_count 156 = .ok (.ireturn, 1) := by decide +kernel
theorem d_M_count_157 : decode c_M_count 157 = .ok (.aload_n 0, 1) := by decide +kernel
theorem d_M_count_158 : decode c_M_count 158 = .ok (.getfield 131, 3) := by decide +kernel
theorem d_M_count_161 : decode c_M_count 161 = .ok (.ireturn, 1) := by decide +kernel
end
section
theorem d_L_member_0 : decode c_L_member 0 = .ok (.aload 4, 2) := by decide +kernel
theorem d_L_member_2 : decode c_L_member 2 = .ok (.iconst 0, 1) := by decide +kernel
theorem d_L_member_3 : decode c_L_member 3 = .ok (.aload_n 0, 1) := by decide +kernel
theorem d_L_member_4 : decode c_L_member 4 = .ok (.iload_n 1, 1) := by decide +kernel
theorem d_L_member_5 : decode c_L_member 5 = .ok (.iload_n 2, 1) := by decide +kernel
theorem d_L_member_6 : decode c_L_member 6 = .ok (.iload_n 3, 1) := by decide +kernel
theorem d_L_member_7 : decode c_L_member 7 = .ok (.invokevirtual 7, 3) := by decide +kernel
theorem d_L_member_10 : decode c_L_member 10 = .ok (.ifCond .eq 7, 3) := by decide +kernel
theorem d_L_member_13 : decode c_L_member 13 = .ok (.lconst 1, 1) := by decide +kernel
theorem d_L_member_14 : decode c_L_member 14 = .ok (.goto 4, 3) := by decide +kernel
theorem d_L_member_17 : decode c_L_member 17 = .ok (.lconst 0, 1) := by decide +kernel
theorem d_L_member_18 : decode c_L_member 18 = .ok (.lastore, 1) := by decide +kernel
theorem d_L_member_19 : decode c_L_member 19 = .ok (.goto 7, 3) := by decide +kernel
theorem d_L_member_22 : decode c_L_member 22 = .ok (.astore 5, 2) := by decide +kernel
theorem d_L_member_24 : decode c_L_member 24 = .ok (.iconst 1, 1) := by decide +kernel
theorem d_L_member_25 : decode c_L_member 25 = .ok (.ireturn, 1) := by decide +kernel
theorem d_L_member_26 : decode c_L_member 26 = .ok (.iconst 0, 1) := by decide +kernel
theorem d_L_member_27 : decode c_L_member 27 = .ok (.ireturn, 1) := by decide +kernel
theorem d_L_level_0 : decode c_L_level 0 = .ok (.aload 4, 2) := by decide +kernel
theorem d_L_level_2 : decode c_L_level 2 = .ok (.iconst 0, 1) := by decide +kernel
theorem d_L_level_3 : decode c_L_level 3 = .ok (.aload_n 0, 1) := by decide +kernel
theorem d_L_level_4 : decode c_L_level 4 = .ok (.iload_n 1, 1) := by decide +kernel
theorem d_L_level_5 : decode c_L_level 5 = .ok (.iload_n 2, 1) := by decide +kernel
theorem d_L_level_6 : decode c_L_level 6 = .ok (.iload_n 3, 1) := by decide +kernel
theorem d_L_level_7 : decode c_L_level 7 = .ok (.invokevirtual 15, 3) := by decide +kernel
theorem d_L_level_10 : decode c_L_level 10 = .ok (.i2l, 1) := by decide +kernel
theorem d_L_level_11 : decode c_L_level 11 = .ok (.lastore, 1) := by decide +kernel
theorem d_L_level_12 : decode c_L_level 12 = .ok (.goto 7, 3) := by decide +kernel
theorem d_L_level_15 : decode c_L_level 15 = .ok (.astore 5, 2) := by decide +kernel
theorem d_L_level_17 : decode c_L_level 17 = .ok (.iconst 1, 1) := by decide +kernel
theorem d_L_level_18 : decode c_L_level 18 = .ok (.ireturn, 1) := by decide +kernel
theorem d_L_level_19 : decode c_L_level 19 = .ok (.iconst 0, 1) := by decide +kernel
theorem d_L_level_20 : decode c_L_level 20 = .ok (.ireturn, 1) := by decide +kernel
theorem d_L_weigh_0 : decode c_L_weigh 0 = .ok (.aload 5, 2) := by decide +kernel
theorem d_L_weigh_2 : decode c_L_weigh 2 = .ok (.iconst 0, 1) := by decide +kernel
theorem d_L_weigh_3 : decode c_L_weigh 3 = .ok (.aload_n 0, 1) := by decide +kernel
theorem d_L_weigh_4 : decode c_L_weigh 4 = .ok (.iload_n 1, 1) := by decide +kernel
theorem d_L_weigh_5 : decode c_L_weigh 5 = .ok (.iload_n 2, 1) := by decide +kernel
theorem d_L_weigh_6 : decode c_L_weigh 6 = .ok (.dload_n 3, 1) := by decide +kernel
theorem d_L_weigh_7 : decode c_L_weigh 7 = .ok (.invokevirtual 19, 3) := by decide +kernel
theorem d_L_weigh_10 : decode c_L_weigh 10 = .ok (.i2l, 1) := by decide +kernel
theorem d_L_weigh_11 : decode c_L_weigh 11 = .ok (.lastore, 1) := by decide +kernel
theorem d_L_weigh_12 : decode c_L_weigh 12 = .ok (.goto 7, 3) := by decide +kernel
theorem d_L_weigh_15 : decode c_L_weigh 15 = .ok (.astore 6, 2) := by decide +kernel
theorem d_L_weigh_17 : decode c_L_weigh 17 = .ok (.iconst 1, 1) := by decide +kernel
theorem d_L_weigh_18 : decode c_L_weigh 18 = .ok (.ireturn, 1) := by decide +kernel
theorem d_L_weigh_19 : decode c_L_weigh 19 = .ok (.iconst 0, 1) := by decide +kernel
theorem d_L_weigh_20 : decode c_L_weigh 20 = .ok (.ireturn, 1) := by decide +kernel
theorem d_L_put_0 : decode c_L_put 0 = .ok (.aload_n 3, 1) := by decide +kernel
theorem d_L_put_1 : decode c_L_put 1 = .ok (.iconst 0, 1) := by decide +kernel
theorem d_L_put_2 : decode c_L_put 2 = .ok (.aload_n 0, 1) := by decide +kernel
theorem d_L_put_3 : decode c_L_put 3 = .ok (.iload_n 1, 1) := by decide +kernel
theorem d_L_put_4 : decode c_L_put 4 = .ok (.iload_n 2, 1) := by decide +kernel
theorem d_L_put_5 : decode c_L_put 5 = .ok (.invokevirtual 23, 3) := by decide +kernel
theorem d_L_put_8 : decode c_L_put 8 = .ok (.i2l, 1) := by decide +kernel
theorem d_L_put_9 : decode c_L_put 9 = .ok (.lastore, 1) := by decide +kernel
theorem d_L_put_10 : decode c_L_put 10 = .ok (.goto 7, 3) := by decide +kernel
theorem d_L_put_13 : decode c_L_put 13 = .ok (.astore 4, 2) := by decide +kernel
theorem d_L_put_15 : decode c_L_put 15 = .ok (.iconst 1, 1) := by decide +kernel
theorem d_L_put_16 : decode c_L_put 16 = .ok (.ireturn, 1) := by decide +kernel
theorem d_L_put_17 : decode c_L_put 17 = .ok (.iconst 0, 1) := by decide +kernel
theorem d_L_put_18 : decode c_L_put 18 = .ok (.ireturn, 1) := by decide +kernel
theorem d_L_rule_0 : decode c_L_rule 0 = .ok (.aload_n 3, 1) := by decide +kernel
theorem d_L_rule_1 : decode c_L_rule 1 = .ok (.iconst 0, 1) := by decide +kernel
theorem d_L_rule_2 : decode c_L_rule 2 = .ok (.aload_n 0, 1) := by decide +kernel
theorem d_L_rule_3 : decode c_L_rule 3 = .ok (.iload_n 1, 1) := by decide +kernel
theorem d_L_rule_4 : decode c_L_rule 4 = .ok (.iload_n 2, 1) := by decide +kernel
theorem d_L_rule_5 : decode c_L_rule 5 = .ok (.invokevirtual 27, 3) := by decide +kernel
theorem d_L_rule_8 : decode c_L_rule 8 = .ok (.ifCond .eq 7, 3) := by decide +kernel
theorem d_L_rule_11 : decode c_L_rule 11 = .ok (.lconst 1, 1) := by decide +kernel
theorem d_L_rule_12 : decode c_L_rule 12 = .ok (.goto 4, 3) := by decide +kernel
theorem d_L_rule_15 : decode c_L_rule 15 = .ok (.lconst 0, 1) := by decide +kernel
theorem d_L_rule_16 : decode c_L_rule 16 = .ok (.lastore, 1) := by decide +kernel
theorem d_L_rule_17 : decode c_L_rule 17 = .ok (.goto 7, 3) := by decide +kernel
theorem d_L_rule_20 : decode c_L_rule 20 = .ok (.astore 4, 2) := by decide +kernel
theorem d_L_rule_22 : decode c_L_rule 22 = .ok (.iconst 1, 1) := by decide +kernel
theorem d_L_rule_23 : decode c_L_rule 23 = .ok (.ireturn, 1) := by decide +kernel
theorem d_L_rule_24 : decode c_L_rule 24 = .ok (.iconst 0, 1) := by decide +kernel
theorem d_L_rule_25 : decode c_L_rule 25 = .ok (.ireturn, 1) := by decide +kernel
theorem d_L_add_0 : decode c_L_add 0 = .ok (.aload_n 2, 1) := by decide +kernel
theorem d_L_add_1 : decode c_L_add 1 = .ok (.iconst 0, 1) := by decide +kernel
theorem d_L_add_2 : decode c_L_add 2 = .ok (.aload_n 0, 1) := by decide +kernel
theorem d_L_add_3 : decode c_L_add 3 = .ok (.iload_n 1, 1) := by decide +kernel
theorem d_L_add_4 : decode c_L_add 4 = .ok (.invokevirtual 31, 3) := by decide +kernel
theorem d_L_add_7 : decode c_L_add 7 = .ok (.i2l, 1) := by decide +kernel
theorem d_L_add_8 : decode c_L_add 8 = .ok (.lastore, 1) := by decide +kernel
theorem d_L_add_9 : decode c_L_add 9 = .ok (.goto 9, 3) := by decide +kernel
theorem d_L_add_12 : decode c_L_add 12 = .ok (.astore_n 3, 1) := by decide +kernel
theorem d_L_add_13 : decode c_L_add 13 = .ok (.iconst 1, 1) := by decide +kernel
theorem d_L_add_14 : decode c_L_add 14 = .ok (.ireturn, 1) := by decide +kernel
theorem d_L_add_15 : decode c_L_add 15 = .ok (.astore_n 3, 1) := by decide +kernel
theorem d_L_add_16 : decode c_L_add 16 = .ok (.iconst 2, 1) := by decide +kernel
theorem d_L_add_17 : decode c_L_add 17 = .ok (.ireturn, 1) := by decide +kernel
theorem d_L_add_18 : decode c_L_add 18 = .ok (.iconst 0, 1) := by decide +kernel
theorem d_L_add_19 : decode c_L_add 19 = .ok (.ireturn, 1) := by decide +kernel
theorem d_L_remove_0 : decode c_L_remove 0 = .ok (.aload_n 0, 1) := by decide +kernel
theorem d_L_remove_1 : decode c_L_remove 1 = .ok (.iload_n 1, 1) := by decide +kernel
theorem d_L_remove_2 : decode c_L_remove 2 = .ok (.invokevirtual 37, 3) := by decide +kernel
theorem d_L_remove_5 : decode c_L_remove 5 = .ok (.goto 6, 3) := by decide +kernel
theorem d_L_remove_8 : decode c_L_remove 8 = .ok (.astore_n 2, 1) := by decide +kernel
theorem d_L_remove_9 : decode c_L_remove 9 = .ok (.iconst 1, 1) := by decide +kernel
theorem d_L_remove_10 : decode c_L_remove 10 = .ok (.ireturn, 1) := by decide +kernel
theorem d_L_remove_11 : decode c_L_remove 11 = .ok (.iconst 0, 1) := by decide +kernel
theorem d_L_remove_12 : decode c_L_remove 12 = .ok (.ireturn, 1) := by decide +kernel
theorem d_L_flush_0 : decode c_L_flush 0 = .ok (.aload_n 1, 1) := by decide +kernel
theorem d_L_flush_1 : decode c_L_flush 1 = .ok (.iconst 0, 1) := by decide +kernel
theorem d_L_flush_2 : decode c_L_flush 2 = .ok (.aload_n 0, 1) := by decide +kernel
theorem d_L_flush_3 : decode c_L_flush 3 = .ok (.invokevirtual 43, 3) := by decide +kernel
theorem d_L_flush_6 : decode c_L_flush 6 = .ok (.i2l, 1) := by decide +kernel
theorem d_L_flush_7 : decode c_L_flush 7 = .ok (.lastore, 1) := by decide +kernel
theorem d_L_flush_8 : decode c_L_flush 8 = .ok (.goto 6, 3) := by decide +kernel
theorem d_L_flush_11 : decode c_L_flush 11 = .ok (.astore_n 2, 1) := by decide +kernel
theorem d_L_flush_12 : decode c_L_flush 12 = .ok (.iconst 1, 1) := by decide +kernel
theorem d_L_flush_13 : decode c_L_flush 13 = .ok (.ireturn, 1) := by decide +kernel
theorem d_L_flush_14 : decode c_L_flush 14 = .ok (.iconst 0, 1) := by decide +kernel
theorem d_L_flush_15 : decode c_L_flush 15 = .ok (.ireturn, 1) := by decide +kernel
theorem d_L_clause_0 : decode c_L_clause 0 = .ok (.aload 6, 2) := by decide +kernel
theorem d_L_clause_2 : decode c_L_clause 2 = .ok (.iconst 0, 1) := by decide +kernel
theorem d_L_clause_3 : decode c_L_clause 3 = .ok (.aload_n 0, 1) := by decide +kernel
theorem d_L_clause_4 : decode c_L_clause 4 = .ok (.iload_n 1, 1) := by decide +kernel
theorem d_L_clause_5 : decode c_L_clause 5 = .ok (.iload_n 2, 1) := by decide +kernel
theorem d_L_clause_6 : decode c_L_clause 6 = .ok (.iload_n 3, 1) := by decide +kernel
theorem d_L_clause_7 : decode c_L_clause 7 = .ok (.dload 4, 2) := by decide +kernel
theorem d_L_clause_9 : decode c_L_clause 9 = .ok (.invokevirtual 47, 3) := by decide +kernel
theorem d_L_clause_12 : decode c_L_clause 12 = .ok (.i2l, 1) := by decide +kernel
theorem d_L_clause_13 : decode c_L_clause 13 = .ok (.lastore, 1) := by decide +kernel
theorem d_L_clause_14 : decode c_L_clause 14 = .ok (.goto 11, 3) := by decide +kernel
theorem d_L_clause_17 : decode c_L_clause 17 = .ok (.astore 7, 2) := by decide +kernel
theorem d_L_clause_19 : decode c_L_clause 19 = .ok (.iconst 1, 1) := by decide +kernel
theorem d_L_clause_20 : decode c_L_clause 20 = .ok (.ireturn, 1) := by decide +kernel
theorem d_L_clause_21 : decode c_L_clause 21 = .ok (.astore 7, 2) := by decide +kernel
theorem d_L_clause_23 : decode c_L_clause 23 = .ok (.iconst 2, 1) := by decide +kernel
theorem d_L_clause_24 : decode c_L_clause 24 = .ok (.ireturn, 1) := by decide +kernel
theorem d_L_clause_25 : decode c_L_clause 25 = .ok (.iconst 0, 1) := by decide +kernel
theorem d_L_clause_26 : decode c_L_clause 26 = .ok (.ireturn, 1) := by decide +kernel
theorem d_L_search_0 : decode c_L_search 0 = .ok (.aload_n 3, 1) := by decide +kernel
theorem d_L_search_1 : decode c_L_search 1 = .ok (.iconst 0, 1) := by decide +kernel
theorem d_L_search_2 : decode c_L_search 2 = .ok (.aload_n 0, 1) := by decide +kernel
theorem d_L_search_3 : decode c_L_search 3 = .ok (.iload_n 1, 1) := by decide +kernel
theorem d_L_search_4 : decode c_L_search 4 = .ok (.iload_n 2, 1) := by decide +kernel
theorem d_L_search_5 : decode c_L_search 5 = .ok (.invokevirtual 51, 3) := by decide +kernel
theorem d_L_search_8 : decode c_L_search 8 = .ok (.i2l, 1) := by decide +kernel
theorem d_L_search_9 : decode c_L_search 9 = .ok (.lastore, 1) := by decide +kernel
theorem d_L_search_10 : decode c_L_search 10 = .ok (.goto 7, 3) := by decide +kernel
theorem d_L_search_13 : decode c_L_search 13 = .ok (.astore 4, 2) := by decide +kernel
theorem d_L_search_15 : decode c_L_search 15 = .ok (.iconst 1, 1) := by decide +kernel
theorem d_L_search_16 : decode c_L_search 16 = .ok (.ireturn, 1) := by decide +kernel
theorem d_L_search_17 : decode c_L_search 17 = .ok (.iconst 0, 1) := by decide +kernel
theorem d_L_search_18 : decode c_L_search 18 = .ok (.ireturn, 1) := by decide +kernel
theorem d_L_hit_0 : decode c_L_hit 0 = .ok (.aload_n 2, 1) := by decide +kernel
theorem d_L_hit_1 : decode c_L_hit 1 = .ok (.iconst 0, 1) := by decide +kernel
theorem d_L_hit_2 : decode c_L_hit 2 = .ok (.aload_n 0, 1) := by decide +kernel
theorem d_L_hit_3 : decode c_L_hit 3 = .ok (.iload_n 1, 1) := by decide +kernel
theorem d_L_hit_4 : decode c_L_hit 4 = .ok (.invokevirtual 54, 3) := by decide +kernel
theorem d_L_hit_7 : decode c_L_hit 7 = .ok (.i2l, 1) := by decide +kernel
theorem d_L_hit_8 : decode c_L_hit 8 = .ok (.lastore, 1) := by decide +kernel
theorem d_L_hit_9 : decode c_L_hit 9 = .ok (.goto 6, 3) := by decide +kernel
theorem d_L_hit_12 : decode c_L_hit 12 = .ok (.astore_n 3, 1) := by decide +kernel
theorem d_L_hit_13 : decode c_L_hit 13 = .ok (.iconst 1, 1) := by decide +kernel
theorem d_L_hit_14 : decode c_L_hit 14 = .ok (.ireturn, 1) := by decide +kernel
theorem d_L_hit_15 : decode c_L_hit 15 = .ok (.iconst 0, 1) := by decide +kernel
theorem d_L_hit_16 : decode c_L_hit 16 = .ok (.ireturn, 1) := by decide +kernel
theorem d_L_score_0 : decode c_L_score 0 = .ok (.aload_n 2, 1) := by decide +kernel
theorem d_L_score_1 : decode c_L_score 1 = .ok (.iconst 0, 1) := by decide +kernel
theorem d_L_score_2 : decode c_L_score 2 = .ok (.aload_n 0, 1) := by decide +kernel
theorem d_L_score_3 : decode c_L_score 3 = .ok (.iload_n 1, 1) := by decide +kernel
theorem d_L_score_4 : decode c_L_score 4 = .ok (.invokevirtual 59, 3) := by decide +kernel
theorem d_L_score_7 : decode c_L_score 7 = .ok (.dastore, 1) := by decide +kernel
theorem d_L_score_8 : decode c_L_score 8 = .ok (.goto 6, 3) := by decide +kernel
theorem d_L_score_11 : decode c_L_score 11 = .ok (.astore_n 3, 1) := by decide +kernel
theorem d_L_score_12 : decode c_L_score 12 = .ok (.iconst 1, 1) := by decide +kernel
theorem d_L_score_13 : decode c_L_score 13 = .ok (.ireturn, 1) := by decide +kernel
theorem d_L_score_14 : decode c_L_score 14 = .ok (.iconst 0, 1) := by decide +kernel
theorem d_L_score_15 : decode c_L_score 15 = .ok (.ireturn, 1) := by decide +kernel
theorem d_L_value_0 : decode c_L_value 0 = .ok (.aload 4, 2) := by decide +kernel
theorem d_L_value_2 : decode c_L_value 2 = .ok (.iconst 0, 1) := by decide +kernel
theorem d_L_value_3 : decode c_L_value 3 = .ok (.aload_n 0, 1) := by decide +kernel
theorem d_L_value_4 : decode c_L_value 4 = .ok (.iload_n 1, 1) := by decide +kernel
theorem d_L_value_5 : decode c_L_value 5 = .ok (.iload_n 2, 1) := by decide +kernel
theorem d_L_value_6 : decode c_L_value 6 = .ok (.iload_n 3, 1) := by decide +kernel
theorem d_L_value_7 : decode c_L_value 7 = .ok (.invokevirtual 63, 3) := by decide +kernel
theorem d_L_value_10 : decode c_L_value 10 = .ok (.i2l, 1) := by decide +kernel
theorem d_L_value_11 : decode c_L_value 11 = .ok (.lastore, 1) := by decide +kernel
theorem d_L_value_12 : decode c_L_value 12 = .ok (.goto 15, 3) := by decide +kernel
theorem d_L_value_15 : decode c_L_value 15 = .ok (.astore 5, 2) := by decide +kernel
theorem d_L_value_17 : decode c_L_value 17 = .ok (.iconst 1, 1) := by decide +kernel
theorem d_L_value_18 : decode c_L_value 18 = .ok (.ireturn, 1) := by decide +kernel
theorem d_L_value_19 : decode c_L_value 19 = .ok (.astore 5, 2) := by decide +kernel
theorem d_L_value_21 : decode c_L_value 21 = .ok (.iconst 2, 1) := by decide +kernel
theorem d_L_value_22 : decode c_L_value 22 = .ok (.ireturn, 1) := by decide +kernel
theorem d_L_value_23 : decode c_L_value 23 = .ok (.astore 5, 2) := by decide +kernel
theorem d_L_value_25 : decode c_L_value 25 = .ok (.iconst 3, 1) := by decide +kernel
theorem d_L_value_26 : decode c_L_value 26 = .ok (.ireturn, 1) := by decide +kernel
theorem d_L_value_27 : decode c_L_value 27 = .ok (.iconst 0, 1) := by decide +kernel
theorem d_L_value_28 : decode c_L_value 28 = .ok (.ireturn, 1) := by decide +kernel
theorem d_L_count_0 : decode c_L_count 0 = .ok (.aload_n 2, 1) := by decide +kernel
theorem d_L_count_1 : decode c_L_count 1 = .ok (.iconst 0, 1) := by decide +kernel
theorem d_L_count_2 : decode c_L_count 2 = .ok (.aload_n 0, 1) := by decide +kernel
theorem d_L_count_3 : decode c_L_count 3 = .ok (.iload_n 1, 1) := by decide +kernel
theorem d_L_count_4 : decode c_L_count 4 = .ok (.invokevirtual 68, 3) := by decide +kernel
theorem d_L_count_7 : decode c_L_count 7 = .ok (.i2l, 1) := by decide +kernel
theorem d_L_count_8 : decode c_L_count 8 = .ok (.lastore, 1) := by decide +kernel
theorem d_L_count_9 : decode c_L_count 9 = .ok (.goto 6, 3) := by decide +kernel
theorem d_L_count_12 : decode c_L_count 12 = .ok (.astore_n 3, 1) := by decide +kernel
theorem d_L_count_13 : decode c_L_count 13 = .ok (.iconst 1, 1) := by decide +kernel
theorem d_L_count_14 : decode c_L_count 14 = .ok (.ireturn, 1) := by decide +kernel
theorem d_L_count_15 : decode c_L_count 15 = .ok (.iconst 0, 1) := by decide +kernel
theorem d_L_count_16 : decode c_L_count 16 = .ok (.ireturn, 1) := by decide +kernel
theorem d_M_thrown_0 : decode c_M_thrown 0 = .ok (.aload_n 0, 1) := by decide +kernel
theorem d_M_thrown_1 : decode c_M_thrown 1 = .ok (.getfield 94, 3) := by decide +kernel
theorem d_M_thrown_4 : decode c_M_thrown 4 = .ok (.ireturn, 1) := by decide +kernel
theorem d_M_in_0 : decode c_M_in 0 = .ok (.iload_n 0, 1) := by decide +kernel
theorem d_M_in_1 : decode c_M_in 1 = .ok (.iload_n 1, 1) := by decide +kernel
theorem d_M_in_2 : decode c_M_in 2 = .ok (.if_icmp .lt 12, 3) := by decide +kernel
theorem d_M_in_5 : decode c_M_in 5 = .ok (.iload_n 0, 1) := by decide +kernel
theorem d_M_in_6 : decode c_M_in 6 = .ok (.iload_n 2, 1) := by decide +kernel
theorem d_M_in_7 : decode c_M_in 7 = .ok (.if_icmp .gt 7, 3) := by decide +kernel
theorem d_M_in_10 : decode c_M_in 10 = .ok (.iconst 1, 1) := by decide +kernel
theorem d_M_in_11 : decode c_M_in 11 = .ok (.goto 4, 3) := by decide +kernel
theorem d_M_in_14 : decode c_M_in 14 = .ok (.iconst 0, 1) := by decide +kernel
theorem d_M_in_15 : decode c_M_in 15 = .ok (.ireturn, 1) := by decide +kernel
theorem d_M_level_0 : decode c_M_level 0 = .ok (.iload_n 1, 1) := by decide +kernel
theorem d_M_level_1 : decode c_M_level 1 = .ok (.iconst 0, 1) := by decide +kernel
theorem d_M_level_2 : decode c_M_level 2 = .ok (.iconst 1, 1) := by decide +kernel
theorem d_M_level_3 : decode c_M_level 3 = .ok (.invokestatic 98, 3) := by decide +kernel
theorem d_M_level_6 : decode c_M_level 6 = .ok (.ifCond .eq 30, 3) := by decide +kernel
theorem d_M_level_9 : decode c_M_level 9 = .ok (.iload_n 2, 1) := by decide +kernel
theorem d_M_level_10 : decode c_M_level 10 = .ok (.iconst 0, 1) := by decide +kernel
theorem d_M_level_11 : decode c_M_level 11 = .ok (.iload_n 1, 1) := by decide +kernel
theorem d_M_level_12 : decode c_M_level 12 = .ok (.ifCond .ne 7, 3) := by decide +kernel
theorem d_M_level_15 : decode c_M_level 15 = .ok (.iconst 2, 1) := by decide +kernel
theorem d_M_level_16 : decode c_M_level 16 = .ok (.goto 5, 3) := by decide +kernel
theorem d_M_level_19 : decode c_M_level 19 = .ok (.bipush 7, 2) := by decide +kernel
theorem d_M_level_21 : decode c_M_level 21 = .ok (.invokestatic 98, 3) := by decide +kernel
theorem d_M_level_24 : decode c_M_level 24 = .ok (.ifCond .eq 12, 3) := by decide +kernel
theorem d_M_level_27 : decode c_M_level 27 = .ok (.iload_n 3, 1) := by decide +kernel
theorem d_M_level_28 : decode c_M_level 28 = .ok (.iconst 0, 1) := by decide +kernel
theorem d_M_level_29 : decode c_M_level 29 = .ok (.iconst 3, 1) := by decide +kernel
theorem d_M_level_30 : decode c_M_level 30 = .ok (.invokestatic 98, 3) := by decide +kernel
theorem d_M_level_33 : decode c_M_level 33 = .ok (.ifCond .ne 9, 3) := by decide +kernel
theorem d_M_level_36 : decode c_M_level 36 = .ok (.aload_n 0, 1) := by decide +kernel
theorem d_M_level_37 : decode c_M_level 37 = .ok (.iconst 1, 1) := by decide +kernel
theorem d_M_level_38 : decode c_M_level 38 = .ok (.invokevirtual 102, 3) := by decide +kernel
theorem d_M_level_41 : decode c_M_level 41 = .ok (.ireturn, 1) := by decide +kernel
theorem d_M_level_42 : decode c_M_level 42 = .ok (.aload_n 0, 1) := by decide +kernel
theorem d_M_level_43 : decode c_M_level 43 = .ok (.iconst 0, 1) := by decide +kernel
theorem d_M_level_44 : decode c_M_level 44 = .ok (.putfield 94, 3) := by decide +kernel
theorem d_M_level_47 : decode c_M_level 47 = .ok (.iload_n 1, 1) := by decide +kernel
theorem d_M_level_48 : decode c_M_level 48 = .ok (.ifCond .ne 12, 3) := by decide +kernel
theorem d_M_level_51 : decode c_M_level 51 = .ok (.aload_n 0, 1) := by decide +kernel
theorem d_M_level_52 : decode c_M_level 52 = .ok (.getfield 13, 3) := by decide +kernel
theorem d_M_level_55 : decode c_M_level 55 = .ok (.iload_n 2, 1) := by decide +kernel
theorem d_M_level_56 : decode c_M_level 56 = .ok (.iaload, 1) := by decide +kernel
theorem d_M_level_57 : decode c_M_level 57 = .ok (.goto 9, 3) := by decide +kernel
theorem d_M_level_60 : decode c_M_level 60 = .ok (.aload_n 0, 1) := by decide +kernel
theorem d_M_level_61 : decode c_M_level 61 = .ok (.getfield 16, 3) := by decide +kernel
theorem d_M_level_64 : decode c_M_level 64 = .ok (.iload_n 2, 1) := by decide +kernel
theorem d_M_level_65 : decode c_M_level 65 = .ok (.iaload, 1) := by decide +kernel
theorem d_M_level_66 : decode c_M_level 66 = .ok (.istore 4, 2) := by decide +kernel
theorem d_M_level_68 : decode c_M_level 68 = .ok (.iload_n 1, 1) := by decide +kernel
theorem d_M_level_69 : decode c_M_level 69 = .ok (.ifCond .ne 13, 3) := by decide +kernel
theorem d_M_level_72 : decode c_M_level 72 = .ok (.aload_n 0, 1) := by decide +kernel
theorem d_M_level_73 : decode c_M_level 73 = .ok (.getfield 13, 3) := by decide +kernel
theorem d_M_level_76 : decode c_M_level 76 = .ok (.iload_n 2, 1) := by decide +kernel
theorem d_M_level_77 : decode c_M_level 77 = .ok (.iload_n 3, 1) := by decide +kernel
theorem d_M_level_78 : decode c_M_level 78 = .ok (.iastore, 1) := by decide +kernel
theorem d_M_level_79 : decode c_M_level 79 = .ok (.goto 10, 3) := by decide +kernel
theorem d_M_level_82 : decode c_M_level 82 = .ok (.aload_n 0, 1) := by decide +kernel
theorem d_M_level_83 : decode c_M_level 83 = .ok (.getfield 16, 3) := by decide +kernel
theorem d_M_level_86 : decode c_M_level 86 = .ok (.iload_n 2, 1) := by decide +kernel
theorem d_M_level_87 : decode c_M_level 87 = .ok (.iload_n 3, 1) := by decide +kernel
theorem d_M_level_88 : decode c_M_level 88 = .ok (.iastore, 1) := by decide +kernel
theorem d_M_level_89 : decode c_M_level 89 = .ok (.iload 4, 2) := by decide +kernel
theorem d_M_level_91 : decode c_M_level 91 = .ok (.ireturn, 1) := by decide +kernel
theorem d_M_fail_0 : decode c_M_fail 0 = .ok (.aload_n 0, 1) := by decide +kernel
theorem d_M_fail_1 : decode c_M_fail 1 = .ok (.iload_n 1, 1) := by decide +kernel
theorem d_M_fail_2 : decode c_M_fail 2 = .ok (.putfield 94, 3) := by decide +kernel
theorem d_M_fail_5 : decode c_M_fail 5 = .ok (.iconst 0, 1) := by decide +kernel
theorem d_M_fail_6 : decode c_M_fail 6 = .ok (.ireturn, 1) := by decide +kernel
theorem d_M_weigh_0 : decode c_M_weigh 0 = .ok (.iload_n 1, 1) := by decide +kernel
theorem d_M_weigh_1 : decode c_M_weigh 1 = .ok (.iconst 0, 1) := by decide +kernel
theorem d_M_weigh_2 : decode c_M_weigh 2 = .ok (.iconst 2, 1) := by decide +kernel
theorem d_M_weigh_3 : decode c_M_weigh 3 = .ok (.invokestatic 98, 3) := by decide +kernel
theorem d_M_weigh_6 : decode c_M_weigh 6 = .ok (.ifCond .eq 20, 3) := by decide +kernel
theorem d_M_weigh_9 : decode c_M_weigh 9 = .ok (.iload_n 2, 1) := by decide +kernel
theorem d_M_weigh_10 : decode c_M_weigh 10 = .ok (.iconst 0, 1) := by decide +kernel
theorem d_M_weigh_11 : decode c_M_weigh 11 = .ok (.bipush 7, 2) := by decide +kernel
theorem d_M_weigh_13 : decode c_M_weigh 13 = .ok (.invokestatic 98, 3) := by decide +kernel
theorem d_M_weigh_16 : decode c_M_weigh 16 = .ok (.ifCond .eq 10, 3) := by decide +kernel
theorem d_M_weigh_19 : decode c_M_weigh 19 = .ok (.dload_n 3, 1) := by decide +kernel
theorem d_M_weigh_20 : decode c_M_weigh 20 = .ok (.invokestatic 110, 3) := by decide +kernel
theorem d_M_weigh_23 : decode c_M_weigh 23 = .ok (.ifCond .ne 9, 3) := by decide +kernel
theorem d_M_weigh_26 : decode c_M_weigh 26 = .ok (.aload_n 0, 1) := by decide +kernel
theorem d_M_weigh_27 : decode c_M_weigh 27 = .ok (.iconst 1, 1) := by decide +kernel
theorem d_M_weigh_28 : decode c_M_weigh 28 = .ok (.invokevirtual 102, 3) := by decide +kernel
theorem d_M_weigh_31 : decode c_M_weigh 31 = .ok (.ireturn, 1) := by decide +kernel
theorem d_M_weigh_32 : decode c_M_weigh 32 = .ok (.aload_n 0, 1) := by decide +kernel
theorem d_M_weigh_33 : decode c_M_weigh 33 = .ok (.iconst 0, 1) := by decide +kernel
theorem d_M_weigh_34 : decode c_M_weigh 34 = .ok (.putfield 94, 3) := by decide +kernel
theorem d_M_weigh_37 : decode c_M_weigh 37 = .ok (.dload_n 3, 1) := by decide +kernel
theorem d_M_weigh_38 : decode c_M_weigh 38 = .ok (.d2f, 1) := by decide +kernel
theorem d_M_weigh_39 : decode c_M_weigh 39 = .ok (.ldc 114, 2) := by decide +kernel
theorem d_M_weigh_41 : decode c_M_weigh 41 = .ok (.fmul, 1) := by decide +kernel
theorem d_M_weigh_42 : decode c_M_weigh 42 = .ok (.ldc 115, 2) := by decide +kernel
theorem d_M_weigh_44 : decode c_M_weigh 44 = .ok (.fadd, 1) := by decide +kernel
theorem d_M_weigh_45 : decode c_M_weigh 45 = .ok (.f2i, 1) := by decide +kernel
theorem d_M_weigh_46 : decode c_M_weigh 46 = .ok (.istore 5, 2) := by decide +kernel
theorem d_M_weigh_48 : decode c_M_weigh 48 = .ok (.iload 5, 2) := by decide +kernel
theorem d_M_weigh_50 : decode c_M_weigh 50 = .ok (.sipush 255, 3) := by decide +kernel
theorem d_M_weigh_53 : decode c_M_weigh 53 = .ok (.if_icmp .le 8, 3) := by decide +kernel
theorem d_M_weigh_56 : decode c_M_weigh 56 = .ok (.sipush 255, 3) := by decide +kernel
theorem d_M_weigh_59 : decode c_M_weigh 59 = .ok (.istore 5, 2) := by decide +kernel
theorem d_M_weigh_61 : decode c_M_weigh 61 = .ok (.aload_n 0, 1) := by decide +kernel
theorem d_M_weigh_62 : decode c_M_weigh 62 = .ok (.getfield 31, 3) := by decide +kernel
theorem d_M_weigh_65 : decode c_M_weigh 65 = .ok (.sipush 960, 3) := by decide +kernel
theorem d_M_weigh_68 : decode c_M_weigh 68 = .ok (.bipush 8, 2) := by decide +kernel
theorem d_M_weigh_70 : decode c_M_weigh 70 = .ok (.iload_n 1, 1) := by decide +kernel
theorem d_M_weigh_71 : decode c_M_weigh 71 = .ok (.imul, 1) := by decide +kernel
theorem d_M_weigh_72 : decode c_M_weigh 72 = .ok (.iadd, 1) := by decide +kernel
theorem d_M_weigh_73 : decode c_M_weigh 73 = .ok (.iload_n 2, 1) := by decide +kernel
theorem d_M_weigh_74 : decode c_M_weigh 74 = .ok (.iadd, 1) := by decide +kernel
theorem d_M_weigh_75 : decode c_M_weigh 75 = .ok (.iload 5, 2) := by decide +kernel
theorem d_M_weigh_77 : decode c_M_weigh 77 = .ok (.iastore, 1) := by decide +kernel
theorem d_M_weigh_78 : decode c_M_weigh 78 = .ok (.iload 5, 2) := by decide +kernel
theorem d_M_weigh_80 : decode c_M_weigh 80 = .ok (.ireturn, 1) := by decide +kernel
theorem d_M_isWeight_0 : decode c_M_isWeight 0 = .ok (.dload_n 0, 1) := by decide +kernel
theorem d_M_isWeight_1 : decode c_M_isWeight 1 = .ok (.dconst 0, 1) := by decide +kernel
theorem d_M_isWeight_2 : decode c_M_isWeight 2 = .ok (.dcmp .l, 1) := by decide +kernel
theorem d_M_isWeight_3 : decode c_M_isWeight 3 = .ok (.ifCond .lt 29, 3) := by decide +kernel
theorem d_M_isWeight_6 : decode c_M_isWeight 6 = .ok (.dload_n 0, 1) := by decide +kernel
theorem d_M_isWeight_7 : decode c_M_isWeight 7 = .ok (.ldc2_w 106, 3) := by decide +kernel
theorem d_M_isWeight_10 : decode c_M_isWeight 10 = .ok (.dcmp .g, 1) := by decide +kernel
theorem d_M_isWeight_11 : decode c_M_isWeight 11 = .ok (.ifCond .gt 21, 3) := by decide +kernel
theorem d_M_isWeight_14 : decode c_M_isWeight 14 = .ok (.dload_n 0, 1) := by decide +kernel
theorem d_M_isWeight_15 : decode c_M_isWeight 15 = .ok (.dconst 0, 1) := by decide +kernel
theorem d_M_isWeight_16 : decode c_M_isWeight 16 = .ok (.dcmp .l, 1) := by decide +kernel
theorem d_M_isWeight_17 : decode c_M_isWeight 17 = .ok (.ifCond .eq 11, 3) := by decide +kernel
theorem d_M_isWeight_20 : decode c_M_isWeight 20 = .ok (.dload_n 0, 1) := by decide +kernel
theorem d_M_isWeight_21 : decode c_M_isWeight 21 = .ok (.ldc2_w 108, 3) := by decide +kernel
theorem d_M_isWeight_24 : decode c_M_isWeight 24 = .ok (.dcmp .l, 1) := by decide +kernel
theorem d_M_isWeight_25 : decode c_M_isWeight 25 = .ok (.ifCond .lt 7, 3) := by decide +kernel
theorem d_M_isWeight_28 : decode c_M_isWeight 28 = .ok (.iconst 1, 1) := by decide +kernel
theorem d_M_isWeight_29 : decode c_M_isWeight 29 = .ok (.goto 4, 3) := by decide +kernel
theorem d_M_isWeight_32 : decode c_M_isWeight 32 = .ok (.iconst 0, 1) := by decide +kernel
theorem d_M_isWeight_33 : decode c_M_isWeight 33 = .ok (.ireturn, 1) := by decide +kernel
theorem d_M_put_0 : decode c_M_put 0 = .ok (.iload_n 1, 1) := by decide +kernel
theorem d_M_put_1 : decode c_M_put 1 = .ok (.iconst 0, 1) := by decide +kernel
theorem d_M_put_2 : decode c_M_put 2 = .ok (.iconst 2, 1) := by decide +kernel
theorem d_M_put_3 : decode c_M_put 3 = .ok (.invokestatic 98, 3) := by decide +kernel
theorem d_M_put_6 : decode c_M_put 6 = .ok (.ifCond .ne 9, 3) := by decide +kernel
theorem d_M_put_9 : decode c_M_put 9 = .ok (.aload_n 0, 1) := by decide +kernel
theorem d_M_put_10 : decode c_M_put 10 = .ok (.iconst 1, 1) := by decide +kernel
theorem d_M_put_11 : decode c_M_put 11 = .ok (.invokevirtual 102, 3) := by decide +kernel
theorem d_M_put_14 : decode c_M_put 14 = .ok (.ireturn, 1) := by decide +kernel
theorem d_M_put_15 : decode c_M_put 15 = .ok (.aload_n 0, 1) := by decide +kernel
theorem d_M_put_16 : decode c_M_put 16 = .ok (.iconst 0, 1) := by decide +kernel
theorem d_M_put_17 : decode c_M_put 17 = .ok (.putfield 94, 3) := by decide +kernel
theorem d_M_put_20 : decode c_M_put 20 = .ok (.aload_n 0, 1) := by decide +kernel
theorem d_M_put_21 : decode c_M_put 21 = .ok (.getfield 28, 3) := by decide +kernel
theorem d_M_put_24 : decode c_M_put 24 = .ok (.bipush 120, 2) := by decide +kernel
theorem d_M_put_26 : decode c_M_put 26 = .ok (.iload_n 1, 1) := by decide +kernel
theorem d_M_put_27 : decode c_M_put 27 = .ok (.iadd, 1) := by decide +kernel
theorem d_M_put_28 : decode c_M_put 28 = .ok (.iaload, 1) := by decide +kernel
theorem d_M_put_29 : decode c_M_put 29 = .ok (.istore_n 3, 1) := by decide +kernel
theorem d_M_put_30 : decode c_M_put 30 = .ok (.aload_n 0, 1) := by decide +kernel
theorem d_M_put_31 : decode c_M_put 31 = .ok (.getfield 28, 3) := by decide +kernel
theorem d_M_put_34 : decode c_M_put 34 = .ok (.bipush 120, 2) := by decide +kernel
theorem d_M_put_36 : decode c_M_put 36 = .ok (.iload_n 1, 1) := by decide +kernel
theorem d_M_put_37 : decode c_M_put 37 = .ok (.iadd, 1) := by decide +kernel
theorem d_M_put_38 : decode c_M_put 38 = .ok (.iload_n 2, 1) := by decide +kernel
theorem d_M_put_39 : decode c_M_put 39 = .ok (.iastore, 1) := by decide +kernel
theorem d_M_put_40 : decode c_M_put 40 = .ok (.iload_n 3, 1) := by decide +kernel
theorem d_M_put_41 : decode c_M_put 41 = .ok (.ireturn, 1) := by decide +kernel
theorem d_M_rule_0 : decode c_M_rule 0 = .ok (.aload_n 0, 1) := by decide +kernel
theorem d_M_rule_1 : decode c_M_rule 1 = .ok (.iload_n 1, 1) := by decide +kernel
theorem d_M_rule_2 : decode c_M_rule 2 = .ok (.iconst 0, 1) := by decide +kernel
theorem d_M_rule_3 : decode c_M_rule 3 = .ok (.bipush 15, 2) := by decide +kernel
theorem d_M_rule_5 : decode c_M_rule 5 = .ok (.invokestatic 98, 3) := by decide +kernel
theorem d_M_rule_8 : decode c_M_rule 8 = .ok (.ifCond .eq 7, 3) := by decide +kernel
theorem d_M_rule_11 : decode c_M_rule 11 = .ok (.iconst 0, 1) := by decide +kernel
theorem d_M_rule_12 : decode c_M_rule 12 = .ok (.goto 4, 3) := by decide +kernel
theorem d_M_rule_15 : decode c_M_rule 15 = .ok (.iconst 1, 1) := by decide +kernel
theorem d_M_rule_16 : decode c_M_rule 16 = .ok (.putfield 94, 3) := by decide +kernel
theorem d_M_rule_19 : decode c_M_rule 19 = .ok (.aload_n 0, 1) := by decide +kernel
theorem d_M_rule_20 : decode c_M_rule 20 = .ok (.getfield 94, 3) := by decide +kernel
theorem d_M_rule_23 : decode c_M_rule 23 = .ok (.ifCond .le 5, 3) := by decide +kernel
theorem d_M_rule_26 : decode c_M_rule 26 = .ok (.iconst 0, 1) := by decide +kernel
theorem d_M_rule_27 : decode c_M_rule 27 = .ok (.ireturn, 1) := by decide +kernel
theorem d_M_rule_28 : decode c_M_rule 28 = .ok (.iload_n 2, 1) := by decide +kernel
theorem d_M_rule_29 : decode c_M_rule 29 = .ok (.ifCond .eq 13, 3) := by decide +kernel
theorem d_M_rule_32 : decode c_M_rule 32 = .ok (.aload_n 0, 1) := by decide +kernel
theorem d_M_rule_33 : decode c_M_rule 33 = .ok (.getfield 34, 3) := by decide +kernel
theorem d_M_rule_36 : decode c_M_rule 36 = .ok (.bipush 40, 2) := by decide +kernel
theorem d_M_rule_38 : decode c_M_rule 38 = .ok (.iaload, 1) := by decide +kernel
theorem d_M_rule_39 : decode c_M_rule 39 = .ok (.goto 10, 3) := by decide +kernel
theorem d_M_rule_42 : decode c_M_rule 42 = .ok (.aload_n 0, 1) := by decide +kernel
theorem d_M_rule_43 : decode c_M_rule 43 = .ok (.getfield 37, 3) := by decide +kernel
theorem d_M_rule_46 : decode c_M_rule 46 = .ok (.bipush 40, 2) := by decide +kernel
theorem d_M_rule_48 : decode c_M_rule 48 = .ok (.iaload, 1) := by decide +kernel
theorem d_M_rule_49 : decode c_M_rule 49 = .ok (.istore_n 3, 1) := by decide +kernel
theorem d_M_rule_50 : decode c_M_rule 50 = .ok (.iload_n 3, 1) := by decide +kernel
theorem d_M_rule_51 : decode c_M_rule 51 = .ok (.iconst 1, 1) := by decide +kernel
theorem d_M_rule_52 : decode c_M_rule 52 = .ok (.iload_n 1, 1) := by decide +kernel
theorem d_M_rule_53 : decode c_M_rule 53 = .ok (.ishl, 1) := by decide +kernel
theorem d_M_rule_54 : decode c_M_rule 54 = .ok (.ior, 1) := by decide +kernel
theorem d_M_rule_55 : decode c_M_rule 55 = .ok (.istore 4, 2) := by decide +kernel
theorem d_M_rule_57 : decode c_M_rule 57 = .ok (.iload_n 2, 1) := by decide +kernel
theorem d_M_rule_58 : decode c_M_rule 58 = .ok (.ifCond .eq 15, 3) := by decide +kernel
theorem d_M_rule_61 : decode c_M_rule 61 = .ok (.aload_n 0, 1) := by decide +kernel
theorem d_M_rule_62 : decode c_M_rule 62 = .ok (.getfield 34, 3) := by decide +kernel
theorem d_M_rule_65 : decode c_M_rule 65 = .ok (.bipush 40, 2) := by decide +kernel
theorem d_M_rule_67 : decode c_M_rule 67 = .ok (.iload 4, 2) := by decide +kernel
theorem d_M_rule_69 : decode c_M_rule 69 = .ok (.iastore, 1) := by decide +kernel
theorem d_M_rule_70 : decode c_M_rule 70 = .ok (.goto 12, 3) := by decide +kernel
theorem d_M_rule_73 : decode c_M_rule 73 = .ok (.aload_n 0, 1) := by decide +kernel
theorem d_M_rule_74 : decode c_M_rule 74 = .ok (.getfield 37, 3) := by decide +kernel
theorem d_M_rule_77 : decode c_M_rule 77 = .ok (.bipush 40, 2) := by decide +kernel
theorem d_M_rule_79 : decode c_M_rule 79 = .ok (.iload 4, 2) := by decide +kernel
theorem d_M_rule_81 : decode c_M_rule 81 = .ok (.iastore, 1) := by decide +kernel
theorem d_M_rule_82 : decode c_M_rule 82 = .ok (.iload 4, 2) := by decide +kernel
theorem d_M_rule_84 : decode c_M_rule 84 = .ok (.iload_n 3, 1) := by decide +kernel
theorem d_M_rule_85 : decode c_M_rule 85 = .ok (.if_icmp .eq 7, 3) := by decide +kernel
theorem d_M_rule_88 : decode c_M_rule 88 = .ok (.iconst 1, 1) := by decide +kernel
theorem d_M_rule_89 : decode c_M_rule 89 = .ok (.goto 4, 3) := by decide +kernel
theorem d_M_rule_92 : decode c_M_rule 92 = .ok (.iconst 0, 1) := by decide +kernel
theorem d_M_rule_93 : decode c_M_rule 93 = .ok (.ireturn, 1) := by decide +kernel
theorem d_M_remove_0 : decode c_M_remove 0 = .ok (.aload_n 0, 1) := by decide +kernel
theorem d_M_remove_1 : decode c_M_remove 1 = .ok (.iload_n 1, 1) := by decide +kernel
theorem d_M_remove_2 : decode c_M_remove 2 = .ok (.iconst 0, 1) := by decide +kernel
theorem d_M_remove_3 : decode c_M_remove 3 = .ok (.aload_n 0, 1) := by decide +kernel
theorem d_M_remove_4 : decode c_M_remove 4 = .ok (.getfield 116, 3) := by decide +kernel
theorem d_M_remove_7 : decode c_M_remove 7 = .ok (.iconst 1, 1) := by decide +kernel
theorem d_M_remove_8 : decode c_M_remove 8 = .ok (.isub, 1) := by decide +kernel
theorem d_M_remove_9 : decode c_M_remove 9 = .ok (.invokestatic 98, 3) := by decide +kernel
theorem d_M_remove_12 : decode c_M_remove 12 = .ok (.ifCond .eq 16, 3) := by decide +kernel
theorem d_M_remove_15 : decode c_M_remove 15 = .ok (.aload_n 0, 1) := by decide +kernel
theorem d_M_remove_16 : decode c_M_remove 16 = .ok (.getfield 49, 3) := by decide +kernel
theorem d_M_remove_19 : decode c_M_remove 19 = .ok (.iload_n 1, 1) := by decide +kernel
theorem d_M_remove_20 : decode c_M_remove 20 = .ok (.baload, 1) := by decide +kernel
theorem d_M_remove_21 : decode c_M_remove 21 = .ok (.ifCond .ne 7, 3) := by decide +kernel
theorem d_M_remove_24 : decode c_M_remove 24 = .ok (.iconst 0, 1) := by decide +kernel
theorem d_M_remove_25 : decode c_M_remove 25 = .ok (.goto 4, 3) := by decide +kernel
theorem d_M_remove_28 : decode c_M_remove 28 = .ok (.iconst 1, 1) := by decide +kernel
theorem d_M_remove_29 : decode c_M_remove 29 = .ok (.putfield 94, 3) := by decide +kernel
theorem d_M_remove_32 : decode c_M_remove 32 = .ok (.aload_n 0, 1) := by decide +kernel
theorem d_M_remove_33 : decode c_M_remove 33 = .ok (.getfield 94, 3) := by decide +kernel
theorem d_M_remove_36 : decode c_M_remove 36 = .ok (.ifCond .le 4, 3) := by decide +kernel
theorem d_M_remove_39 : decode c_M_remove 39 = .ok (.return_, 1) := by decide +kernel
theorem d_M_remove_40 : decode c_M_remove 40 = .ok (.aload_n 0, 1) := by decide +kernel
theorem d_M_remove_41 : decode c_M_remove 41 = .ok (.getfield 49, 3) := by decide +kernel
theorem d_M_remove_44 : decode c_M_remove 44 = .ok (.iload_n 1, 1) := by decide +kernel
theorem d_M_remove_45 : decode c_M_remove 45 = .ok (.iconst 1, 1) := by decide +kernel
theorem d_M_remove_46 : decode c_M_remove 46 = .ok (.bastore, 1) := by decide +kernel
theorem d_M_remove_47 : decode c_M_remove 47 = .ok (.aload_n 0, 1) := by decide +kernel
theorem d_M_remove_48 : decode c_M_remove 48 = .ok (.getfield 43, 3) := by decide +kernel
theorem d_M_remove_51 : decode c_M_remove 51 = .ok (.iload_n 1, 1) := by decide +kernel
theorem d_M_remove_52 : decode c_M_remove 52 = .ok (.iaload, 1) := by decide +kernel
theorem d_M_remove_53 : decode c_M_remove 53 = .ok (.iconst (-1), 1) := by decide +kernel
theorem d_M_remove_54 : decode c_M_remove 54 = .ok (.if_icmp .ne 11, 3) := by decide +kernel
theorem d_M_remove_57 : decode c_M_remove 57 = .ok (.aload_n 0, 1) := by decide +kernel
theorem d_M_remove_58 : decode c_M_remove 58 = .ok (.getfield 43, 3) := by decide +kernel
theorem d_M_remove_61 : decode c_M_remove 61 = .ok (.iload_n 1, 1) := by decide +kernel
theorem d_M_remove_62 : decode c_M_remove 62 = .ok (.bipush (-2), 2) := by decide +kernel
theorem d_M_remove_64 : decode c_M_remove 64 = .ok (.iastore, 1) := by decide +kernel
theorem d_M_remove_65 : decode c_M_remove 65 = .ok (.return_, 1) := by decide +kernel
theorem d_M_flush_0 : decode c_M_flush 0 = .ok (.aload_n 0, 1) := by decide +kernel
theorem d_M_flush_1 : decode c_M_flush 1 = .ok (.getfield 119, 3) := by decide +kernel
theorem d_M_flush_4 : decode c_M_flush 4 = .ok (.bipush 6, 2) := by decide +kernel
theorem d_M_flush_6 : decode c_M_flush 6 = .ok (.if_icmp .ne 9, 3) := by decide +kernel
theorem d_M_flush_9 : decode c_M_flush 9 = .ok (.aload_n 0, 1) := by decide +kernel
theorem d_M_flush_10 : decode c_M_flush 10 = .ok (.iconst 1, 1) := by decide +kernel
theorem d_M_flush_11 : decode c_M_flush 11 = .ok (.invokevirtual 102, 3) := by decide +kernel
theorem d_M_flush_14 : decode c_M_flush 14 = .ok (.ireturn, 1) := by decide +kernel
theorem d_M_flush_15 : decode c_M_flush 15 = .ok (.aload_n 0, 1) := by decide +kernel
theorem d_M_flush_16 : decode c_M_flush 16 = .ok (.iconst 0, 1) := by decide +kernel
theorem d_M_flush_17 : decode c_M_flush 17 = .ok (.putfield 94, 3) := by decide +kernel
theorem d_M_flush_20 : decode c_M_flush 20 = .ok (.aload_n 0, 1) := by decide +kernel
theorem d_M_flush_21 : decode c_M_flush 21 = .ok (.iconst (-1), 1) := by decide +kernel
theorem d_M_flush_22 : decode c_M_flush 22 = .ok (.invokevirtual 122, 3) := by decide +kernel
theorem d_M_flush_25 : decode c_M_flush 25 = .ok (.istore_n 1, 1) := by decide +kernel
theorem d_M_flush_26 : decode c_M_flush 26 = .ok (.iload_n 1, 1) := by decide +kernel
theorem d_M_flush_27 : decode c_M_flush 27 = .ok (.ifCond .ne 5, 3) := by decide +kernel
theorem d_M_flush_30 : decode c_M_flush 30 = .ok (.iconst 0, 1) := by decide +kernel
theorem d_M_flush_31 : decode c_M_flush 31 = .ok (.ireturn, 1) := by decide +kernel
theorem d_M_flush_32 : decode c_M_flush 32 = .ok (.iconst 0, 1) := by decide +kernel
theorem d_M_flush_33 : decode c_M_flush 33 = .ok (.istore_n 2, 1) := by decide +kernel
theorem d_M_flush_34 : decode c_M_flush 34 = .ok (.iload_n 2, 1) := by decide +kernel
theorem d_M_flush_35 : decode c_M_flush 35 = .ok (.aload_n 0, 1) := by decide +kernel
theorem d_M_flush_36 : decode c_M_flush 36 = .ok (.getfield 116, 3) := by decide +kernel
theorem d_M_flush_39 : decode c_M_flush 39 = .ok (.if_icmp .ge 29, 3) := by decide +kernel
theorem d_M_flush_42 : decode c_M_flush 42 = .ok (.aload_n 0, 1) := by decide +kernel
theorem d_M_flush_43 : decode c_M_flush 43 = .ok (.getfield 43, 3) := by decide +kernel
theorem d_M_flush_46 : decode c_M_flush 46 = .ok (.iload_n 2, 1) := by decide +kernel
theorem d_M_flush_47 : decode c_M_flush 47 = .ok (.iaload, 1) := by decide +kernel
theorem d_M_flush_48 : decode c_M_flush 48 = .ok (.iconst (-1), 1) := by decide +kernel
theorem d_M_flush_49 : decode c_M_flush 49 = .ok (.if_icmp .ne 13, 3) := by decide +kernel
theorem d_M_flush_52 : decode c_M_flush 52 = .ok (.aload_n 0, 1) := by decide +kernel
theorem d_M_flush_53 : decode c_M_flush 53 = .ok (.getfield 43, 3) := by decide +kernel
theorem d_M_flush_56 : decode c_M_flush 56 = .ok (.iload_n 2, 1) := by decide +kernel
theorem d_M_flush_57 : decode c_M_flush 57 = .ok (.aload_n 0, 1) := by decide +kernel
theorem d_M_flush_58 : decode c_M_flush 58 = .ok (.getfield 125, 3) := by decide +kernel
theorem d_M_flush_61 : decode c_M_flush 61 = .ok (.iastore, 1) := by decide +kernel
theorem d_M_flush_62 : decode c_M_flush 62 = .ok (.iinc 2 1, 3) := by decide +kernel
theorem d_M_flush_65 : decode c_M_flush 65 = .ok (.goto (-31), 3) := by decide +kernel
theorem d_M_flush_68 : decode c_M_flush 68 = .ok (.aload_n 0, 1) := by decide +kernel
theorem d_M_flush_69 : decode c_M_flush 69 = .ok (.getfield 56, 3) := by decide +kernel
theorem d_M_flush_72 : decode c_M_flush 72 = .ok (.aload_n 0, 1) := by decide +kernel
theorem d_M_flush_73 : decode c_M_flush 73 = .ok (.getfield 119, 3) := by decide +kernel
theorem d_M_flush_76 : decode c_M_flush 76 = .ok (.aload_n 0, 1) := by decide +kernel
theorem d_M_flush_77 : decode c_M_flush 77 = .ok (.getfield 125, 3) := by decide +kernel
theorem d_M_flush_80 : decode c_M_flush 80 = .ok (.iastore, 1) := by decide +kernel
theorem d_M_flush_81 : decode c_M_flush 81 = .ok (.aload_n 0, 1) := by decide +kernel
theorem d_M_flush_82 : decode c_M_flush 82 = .ok (.dup, 1) := by decide +kernel
theorem d_M_flush_83 : decode c_M_flush 83 = .ok (.getfield 119, 3) := by decide +kernel
theorem d_M_flush_86 : decode c_M_flush 86 = .ok (.iconst 1, 1) := by decide +kernel
theorem d_M_flush_87 : decode c_M_flush 87 = .ok (.iadd, 1) := by decide +kernel
theorem d_M_flush_88 : decode c_M_flush 88 = .ok (.putfield 119, 3) := by decide +kernel
theorem d_M_flush_91 : decode c_M_flush 91 = .ok (.aload_n 0, 1) := by decide +kernel
theorem d_M_flush_92 : decode c_M_flush 92 = .ok (.dup, 1) := by decide +kernel
theorem d_M_flush_93 : decode c_M_flush 93 = .ok (.getfield 125, 3) := by decide +kernel
theorem d_M_flush_96 : decode c_M_flush 96 = .ok (.iconst 1, 1) := by decide +kernel
theorem d_M_flush_97 : decode c_M_flush 97 = .ok (.iadd, 1) := by decide +kernel
theorem d_M_flush_98 : decode c_M_flush 98 = .ok (.putfield 125, 3) := by decide +kernel
theorem d_M_flush_101 : decode c_M_flush 101 = .ok (.iload_n 1, 1) := by decide +kernel
theorem d_M_flush_102 : decode c_M_flush 102 = .ok (.ireturn, 1) := by decide +kernel
theorem d_M_sizeOf_0 : decode c_M_sizeOf 0 = .ok (.iconst 0, 1) := by decide +kernel
theorem d_M_sizeOf_1 : decode c_M_sizeOf 1 = .ok (.istore_n 2, 1) := by decide +kernel
theorem d_M_sizeOf_2 : decode c_M_sizeOf 2 = .ok (.iconst 0, 1) := by decide +kernel
theorem d_M_sizeOf_3 : decode c_M_sizeOf 3 = .ok (.istore_n 3, 1) := by decide +kernel
theorem d_M_sizeOf_4 : decode c_M_sizeOf 4 = .ok (.iload_n 3, 1) := by decide +kernel
theorem d_M_sizeOf_5 : decode c_M_sizeOf 5 = .ok (.aload_n 0, 1) := by decide +kernel
theorem d_M_sizeOf_6 : decode c_M_sizeOf 6 = .ok (.getfield 116, 3) := by decide +kernel
theorem d_M_sizeOf_9 : decode c_M_sizeOf 9 = .ok (.if_icmp .ge 22, 3) := by decide +kernel
theorem d_M_sizeOf_12 : decode c_M_sizeOf 12 = .ok (.aload_n 0, 1) := by decide +kernel
theorem d_M_sizeOf_13 : decode c_M_sizeOf 13 = .ok (.getfield 43, 3) := by decide +kernel
theorem d_M_sizeOf_16 : decode c_M_sizeOf 16 = .ok (.iload_n 3, 1) := by decide +kernel
theorem d_M_sizeOf_17 : decode c_M_sizeOf 17 = .ok (.iaload, 1) := by decide +kernel
theorem d_M_sizeOf_18 : decode c_M_sizeOf 18 = .ok (.iload_n 1, 1) := by decide +kernel
theorem d_M_sizeOf_19 : decode c_M_sizeOf 19 = .ok (.if_icmp .ne 6, 3) := by decide +kernel
theorem d_M_sizeOf_22 : decode c_M_sizeOf 22 = .ok (.iinc 2 1, 3) := by decide +kernel
theorem d_M_sizeOf_25 : decode c_M_sizeOf 25 = .ok (.iinc 3 1, 3) := by decide +kernel
theorem d_M_sizeOf_28 : decode c_M_sizeOf 28 = .ok (.goto (-24), 3) := by decide +kernel
theorem d_M_sizeOf_31 : decode c_M_sizeOf 31 = .ok (.iload_n 2, 1) := by decide +kernel
theorem d_M_sizeOf_32 : decode c_M_sizeOf 32 = .ok (.ireturn, 1) := by decide +kernel
theorem d_M_isOther_0 : decode c_M_isOther 0 = .ok (.iconst 0, 1) := by decide +kernel
theorem d_M_isOther_1 : decode c_M_isOther 1 = .ok (.istore_n 1, 1) := by decide +kernel
theorem d_M_isOther_2 : decode c_M_isOther 2 = .ok (.iload_n 1, 1) := by decide +kernel
theorem d_M_isOther_3 : decode c_M_isOther 3 = .ok (.bipush 16, 2) := by decide +kernel
theorem d_M_isOther_5 : decode c_M_isOther 5 = .ok (.if_icmp .ge 26, 3) := by decide +kernel
theorem d_M_isOther_8 : decode c_M_isOther 8 = .ok (.aload_n 0, 1) := by decide +kernel
theorem d_M_isOther_9 : decode c_M_isOther 9 = .ok (.getfield 7, 3) := by decide +kernel
theorem d_M_isOther_12 : decode c_M_isOther 12 = .ok (.iload_n 1, 1) := by decide +kernel
theorem d_M_isOther_13 : decode c_M_isOther 13 = .ok (.iaload, 1) := by decide +kernel
theorem d_M_isOther_14 : decode c_M_isOther 14 = .ok (.aload_n 0, 1) := by decide +kernel
theorem d_M_isOther_15 : decode c_M_isOther 15 = .ok (.getfield 19, 3) := by decide +kernel
theorem d_M_isOther_18 : decode c_M_isOther 18 = .ok (.iload_n 1, 1) := by decide +kernel
theorem d_M_isOther_19 : decode c_M_isOther 19 = .ok (.iaload, 1) := by decide +kernel
theorem d_M_isOther_20 : decode c_M_isOther 20 = .ok (.if_icmp .eq 5, 3) := by decide +kernel
theorem d_M_isOther_23 : decode c_M_isOther 23 = .ok (.iconst 1, 1) := by decide +kernel
theorem d_M_isOther_24 : decode c_M_isOther 24 = .ok (.ireturn, 1) := by decide +kernel
theorem d_M_isOther_25 : decode c_M_isOther 25 = .ok (.iinc 1 1, 3) := by decide +kernel
theorem d_M_isOther_28 : decode c_M_isOther 28 = .ok (.goto (-26), 3) := by decide +kernel
theorem d_M_isOther_31 : decode c_M_isOther 31 = .ok (.iconst 0, 1) := by decide +kernel
theorem d_M_isOther_32 : decode c_M_isOther 32 = .ok (.istore_n 1, 1) := by decide +kernel
theorem d_M_isOther_33 : decode c_M_isOther 33 = .ok (.iload_n 1, 1) := by decide +kernel
theorem d_M_isOther_34 : decode c_M_isOther 34 = .ok (.iconst 3, 1) := by decide +kernel
theorem d_M_isOther_35 : decode c_M_isOther 35 = .ok (.if_icmp .ge 26, 3) := by decide +kernel
theorem d_M_isOther_38 : decode c_M_isOther 38 = .ok (.aload_n 0, 1) := by decide +kernel
theorem d_M_isOther_39 : decode c_M_isOther 39 = .ok (.getfield 13, 3) := by decide +kernel
theorem d_M_isOther_42 : decode c_M_isOther 42 = .ok (.iload_n 1, 1) := by decide +kernel
theorem d_M_isOther_43 : decode c_M_isOther 43 = .ok (.iaload, 1) := by decide +kernel
theorem d_M_isOther_44 : decode c_M_isOther 44 = .ok (.aload_n 0, 1) := by decide +kernel
theorem d_M_isOther_45 : decode c_M_isOther 45 = .ok (.getfield 22, 3) := by decide +kernel
theorem d_M_isOther_48 : decode c_M_isOther 48 = .ok (.iload_n 1, 1) := by decide +kernel
theorem d_M_isOther_49 : decode c_M_isOther 49 = .ok (.iaload, 1) := by decide +kernel
theorem d_M_isOther_50 : decode c_M_isOther 50 = .ok (.if_icmp .eq 5, 3) := by decide +kernel
theorem d_M_isOther_53 : decode c_M_isOther 53 = .ok (.iconst 1, 1) := by decide +kernel
theorem d_M_isOther_54 : decode c_M_isOther 54 = .ok (.ireturn, 1) := by decide +kernel
theorem d_M_isOther_55 : decode c_M_isOther 55 = .ok (.iinc 1 1, 3) := by decide +kernel
theorem d_M_isOther_58 : decode c_M_isOther 58 = .ok (.goto (-25), 3) := by decide +kernel
theorem d_M_isOther_61 : decode c_M_isOther 61 = .ok (.iconst 0, 1) := by decide +kernel
theorem d_M_isOther_62 : decode c_M_isOther 62 = .ok (.istore_n 1, 1) := by decide +kernel
theorem d_M_isOther_63 : decode c_M_isOther 63 = .ok (.iload_n 1, 1) := by decide +kernel
theorem d_M_isOther_64 : decode c_M_isOther 64 = .ok (.bipush 8, 2) := by decide +kernel
theorem d_M_isOther_66 : decode c_M_isOther 66 = .ok (.if_icmp .ge 26, 3) := by decide +kernel
theorem d_M_isOther_69 : decode c_M_isOther 69 = .ok (.aload_n 0, 1) := by decide +kernel
theorem d_M_isOther_70 : decode c_M_isOther 70 = .ok (.getfield 16, 3) := by decide +kernel
theorem d_M_isOther_73 : decode c_M_isOther 73 = .ok (.iload_n 1, 1) := by decide +kernel
theorem d_M_isOther_74 : decode c_M_isOther 74 = .ok (.iaload, 1) := by decide +kernel
theorem d_M_isOther_75 : decode c_M_isOther 75 = .ok (.aload_n 0, 1) := by decide +kernel
theorem d_M_isOther_76 : decode c_M_isOther 76 = .ok (.getfield 25, 3) := by decide +kernel
theorem d_M_isOther_79 : decode c_M_isOther 79 = .ok (.iload_n 1, 1) := by decide +kernel
theorem d_M_isOther_80 : decode c_M_isOther 80 = .ok (.iaload, 1) := by decide +kernel
theorem d_M_isOther_81 : decode c_M_isOther 81 = .ok (.if_icmp .eq 5, 3) := by decide +kernel
theorem d_M_isOther_84 : decode c_M_isOther 84 = .ok (.iconst 1, 1) := by decide +kernel
theorem d_M_isOther_85 : decode c_M_isOther 85 = .ok (.ireturn, 1) := by decide +kernel
theorem d_M_isOther_86 : decode c_M_isOther 86 = .ok (.iinc 1 1, 3) := by decide +kernel
theorem d_M_isOther_89 : decode c_M_isOther 89 = .ok (.goto (-26), 3) := by decide +kernel
theorem d_M_isOther_92 : decode c_M_isOther 92 = .ok (.iconst 0, 1) := by decide +kernel
theorem d_M_isOther_93 : decode c_M_isOther 93 = .ok (.ireturn, 1) := by decide +kernel
theorem d_M_isShown_0 : decode c_M_isShown 0 = .ok (.iconst 0, 1) := by decide +kernel
theorem d_M_isShown_1 : decode c_M_isShown 1 = .ok (.istore_n 2, 1) := by decide +kernel
theorem d_M_isShown_2 : decode c_M_isShown 2 = .ok (.iload_n 2, 1) := by decide +kernel
theorem d_M_isShown_3 : decode c_M_isShown 3 = .ok (.aload_n 0, 1) := by decide +kernel
theorem d_M_isShown_4 : decode c_M_isShown 4 = .ok (.getfield 128, 3) := by decide +kernel
theorem d_M_isShown_7 : decode c_M_isShown 7 = .ok (.if_icmp .ge 21, 3) := by decide +kernel
theorem d_M_isShown_10 : decode c_M_isShown 10 = .ok (.aload_n 0, 1) := by decide +kernel
theorem d_M_isShown_11 : decode c_M_isShown 11 = .ok (.getfield 59, 3) := by decide +kernel
theorem d_M_isShown_14 : decode c_M_isShown 14 = .ok (.iload_n 2, 1) := by decide +kernel
theorem d_M_isShown_15 : decode c_M_isShown 15 = .ok (.iaload, 1) := by decide +kernel
theorem d_M_isShown_16 : decode c_M_isShown 16 = .ok (.iload_n 1, 1) := by decide +kernel
theorem d_M_isShown_17 : decode c_M_isShown 17 = .ok (.if_icmp .ne 5, 3) := by decide +kernel
theorem d_M_isShown_20 : decode c_M_isShown 20 = .ok (.iconst 1, 1) := by decide +kernel
theorem d_M_isShown_21 : decode c_M_isShown 21 = .ok (.ireturn, 1) := by decide +kernel
theorem d_M_isShown_22 : decode c_M_isShown 22 = .ok (.iinc 2 1, 3) := by decide +kernel
theorem d_M_isShown_25 : decode c_M_isShown 25 = .ok (.goto (-23), 3) := by decide +kernel
theorem d_M_isShown_28 : decode c_M_isShown 28 = .ok (.iconst 0, 1) := by decide +kernel
theorem d_M_isShown_29 : decode c_M_isShown 29 = .ok (.ireturn, 1) := by decide +kernel
theorem d_M_drop_0 : decode c_M_drop 0 = .ok (.aload_n 0, 1) := by decide +kernel
theorem d_M_drop_1 : decode c_M_drop 1 = .ok (.dup, 1) := by decide +kernel
theorem d_M_drop_2 : decode c_M_drop 2 = .ok (.getfield 131, 3) := by decide +kernel
theorem d_M_drop_5 : decode c_M_drop 5 = .ok (.iconst 1, 1) := by decide +kernel
theorem d_M_drop_6 : decode c_M_drop 6 = .ok (.isub, 1) := by decide +kernel
theorem d_M_drop_7 : decode c_M_drop 7 = .ok (.putfield 131, 3) := by decide +kernel
theorem d_M_drop_10 : decode c_M_drop 10 = .ok (.iload_n 1, 1) := by decide +kernel
theorem d_M_drop_11 : decode c_M_drop 11 = .ok (.istore_n 2, 1) := by decide +kernel
theorem d_M_drop_12 : decode c_M_drop 12 = .ok (.iload_n 2, 1) := by decide +kernel
theorem d_M_drop_13 : decode c_M_drop 13 = .ok (.aload_n 0, 1) := by decide +kernel
theorem d_M_drop_14 : decode c_M_drop 14 = .ok (.getfield 131, 3) := by decide +kernel
theorem d_M_drop_17 : decode c_M_drop 17 = .ok (.if_icmp .ge 51, 3) := by decide +kernel
theorem d_M_drop_20 : decode c_M_drop 20 = .ok (.aload_n 0, 1) := by decide +kernel
theorem d_M_drop_21 : decode c_M_drop 21 = .ok (.getfield 85, 3) := by decide +kernel
theorem d_M_drop_24 : decode c_M_drop 24 = .ok (.iload_n 2, 1) := by decide +kernel
theorem d_M_drop_25 : decode c_M_drop 25 = .ok (.aload_n 0, 1) := by decide +kernel
theorem d_M_drop_26 : decode c_M_drop 26 = .ok (.getfield 85, 3) := by decide +kernel
theorem d_M_drop_29 : decode c_M_drop 29 = .ok (.iload_n 2, 1) := by decide +kernel
theorem d_M_drop_30 : decode c_M_drop 30 = .ok (.iconst 1, 1) := by decide +kernel
theorem d_M_drop_31 : decode c_M_drop 31 = .ok (.iadd, 1) := by decide +kernel
theorem d_M_drop_32 : decode c_M_drop 32 = .ok (.iaload, 1) := by decide +kernel
theorem d_M_drop_33 : decode c_M_drop 33 = .ok (.iastore, 1) := by decide +kernel
theorem d_M_drop_34 : decode c_M_drop 34 = .ok (.aload_n 0, 1) := by decide +kernel
theorem d_M_drop_35 : decode c_M_drop 35 = .ok (.getfield 88, 3) := by decide +kernel
theorem d_M_drop_38 : decode c_M_drop 38 = .ok (.iload_n 2, 1) := by decide +kernel
theorem d_M_drop_39 : decode c_M_drop 39 = .ok (.aload_n 0, 1) := by decide +kernel
theorem d_M_drop_40 : decode c_M_drop 40 = .ok (.getfield 88, 3) := by decide +kernel
theorem d_M_drop_43 : decode c_M_drop 43 = .ok (.iload_n 2, 1) := by decide +kernel
theorem d_M_drop_44 : decode c_M_drop 44 = .ok (.iconst 1, 1) := by decide +kernel
theorem d_M_drop_45 : decode c_M_drop 45 = .ok (.iadd, 1) := by decide +kernel
theorem d_M_drop_46 : decode c_M_drop 46 = .ok (.iaload, 1) := by decide +kernel
theorem d_M_drop_47 : decode c_M_drop 47 = .ok (.iastore, 1) := by decide +kernel
theorem d_M_drop_48 : decode c_M_drop 48 = .ok (.aload_n 0, 1) := by decide +kernel
theorem d_M_drop_49 : decode c_M_drop 49 = .ok (.getfield 91, 3) := by decide +kernel
theorem d_M_drop_52 : decode c_M_drop 52 = .ok (.iload_n 2, 1) := by decide +kernel
theorem d_M_drop_53 : decode c_M_drop 53 = .ok (.aload_n 0, 1) := by decide +kernel
theorem d_M_drop_54 : decode c_M_drop 54 = .ok (.getfield 91, 3) := by decide +kernel
theorem d_M_drop_57 : decode c_M_drop 57 = .ok (.iload_n 2, 1) := by decide +kernel
theorem d_M_drop_58 : decode c_M_drop 58 = .ok (.iconst 1, 1) := by decide +kernel
theorem d_M_drop_59 : decode c_M_drop 59 = .ok (.iadd, 1) := by decide +kernel
theorem d_M_drop_60 : decode c_M_drop 60 = .ok (.iaload, 1) := by decide +kernel
theorem d_M_drop_61 : decode c_M_drop 61 = .ok (.iastore, 1) := by decide +kernel
theorem d_M_drop_62 : decode c_M_drop 62 = .ok (.iinc 2 1, 3) := by decide +kernel
theorem d_M_drop_65 : decode c_M_drop 65 = .ok (.goto (-53), 3) := by decide +kernel
theorem d_M_drop_68 : decode c_M_drop 68 = .ok (.return_, 1) := by decide +kernel
theorem d_M_clear_0 : decode c_M_clear 0 = .ok (.aload_n 0, 1) := by decide +kernel
theorem d_M_clear_1 : decode c_M_clear 1 = .ok (.iconst 0, 1) := by decide +kernel
theorem d_M_clear_2 : decode c_M_clear 2 = .ok (.putfield 94, 3) := by decide +kernel
theorem d_M_clear_5 : decode c_M_clear 5 = .ok (.aload_n 0, 1) := by decide +kernel
theorem d_M_clear_6 : decode c_M_clear 6 = .ok (.getfield 146, 3) := by decide +kernel
theorem d_M_clear_9 : decode c_M_clear 9 = .ok (.istore_n 1, 1) := by decide +kernel
theorem d_M_clear_10 : decode c_M_clear 10 = .ok (.aload_n 0, 1) := by decide +kernel
theorem d_M_clear_11 : decode c_M_clear 11 = .ok (.iconst 0, 1) := by decide +kernel
theorem d_M_clear_12 : decode c_M_clear 12 = .ok (.putfield 146, 3) := by decide +kernel
theorem d_M_clear_15 : decode c_M_clear 15 = .ok (.iload_n 1, 1) := by decide +kernel
theorem d_M_clear_16 : decode c_M_clear 16 = .ok (.ireturn, 1) := by decide +kernel
theorem d_M_isLeft_0 : decode c_M_isLeft 0 = .ok (.iload_n 1, 1) := by decide +kernel
theorem d_M_isLeft_1 : decode c_M_isLeft 1 = .ok (.istore_n 3, 1) := by decide +kernel
theorem d_M_isLeft_2 : decode c_M_isLeft 2 = .ok (.iload_n 3, 1) := by decide +kernel
theorem d_M_isLeft_3 : decode c_M_isLeft 3 = .ok (.aload_n 0, 1) := by decide +kernel
theorem d_M_isLeft_4 : decode c_M_isLeft 4 = .ok (.getfield 116, 3) := by decide +kernel
theorem d_M_isLeft_7 : decode c_M_isLeft 7 = .ok (.if_icmp .ge 21, 3) := by decide +kernel
theorem d_M_isLeft_10 : decode c_M_isLeft 10 = .ok (.aload_n 0, 1) := by decide +kernel
theorem d_M_isLeft_11 : decode c_M_isLeft 11 = .ok (.getfield 46, 3) := by decide +kernel
theorem d_M_isLeft_14 : decode c_M_isLeft 14 = .ok (.iload_n 3, 1) := by decide +kernel
theorem d_M_isLeft_15 : decode c_M_isLeft 15 = .ok (.iaload, 1) := by decide +kernel
theorem d_M_isLeft_16 : decode c_M_isLeft 16 = .ok (.iload_n 2, 1) := by decide +kernel
theorem d_M_isLeft_17 : decode c_M_isLeft 17 = .ok (.if_icmp .ne 5, 3) := by decide +kernel
theorem d_M_isLeft_20 : decode c_M_isLeft 20 = .ok (.iconst 1, 1) := by decide +kernel
theorem d_M_isLeft_21 : decode c_M_isLeft 21 = .ok (.ireturn, 1) := by decide +kernel
theorem d_M_isLeft_22 : decode c_M_isLeft 22 = .ok (.iinc 3 1, 3) := by decide +kernel
theorem d_M_isLeft_25 : decode c_M_isLeft 25 = .ok (.goto (-23), 3) := by decide +kernel
theorem d_M_isLeft_28 : decode c_M_isLeft 28 = .ok (.iconst 0, 1) := by decide +kernel
theorem d_M_isLeft_29 : decode c_M_isLeft 29 = .ok (.ireturn, 1) := by decide +kernel
theorem d_M_behindBlock_0 : decode c_M_behindBlock 0 = .ok (.iload_n 1, 1) := by decide +kernel
theorem d_M_behindBlock_1 : decode c_M_behindBlock 1 = .ok (.istore_n 3, 1) := by decide +kernel
theorem d_M_behindBlock_2 : decode c_M_behindBlock 2 = .ok (.iconst 0, 1) := by decide +kernel
theorem d_M_behindBlock_3 : decode c_M_behindBlock 3 = .ok (.istore 4, 2) := by decide +kernel
theorem d_M_behindBlock_5 : decode c_M_behindBlock 5 = .ok (.iload_n 3, 1) := by decide +kernel
theorem d_M_behindBlock_6 : decode c_M_behindBlock 6 = .ok (.aload_n 0, 1) := by decide +kernel
theorem d_M_behindBlock_7 : decode c_M_behindBlock 7 = .ok (.getfield 116, 3) := by decide +kernel
theorem d_M_behindBlock_10 : decode c_M_behindBlock 10 = .ok (.if_icmp .ge 28, 3) := by decide +kernel
theorem d_M_behindBlock_13 : decode c_M_behindBlock 13 = .ok (.iload 4, 2) := by decide +kernel
theorem d_M_behindBlock_15 : decode c_M_behindBlock 15 = .ok (.iconst 4, 1) := by decide +kernel
theorem d_M_behindBlock_16 : decode c_M_behindBlock 16 = .ok (.if_icmp .ge 22, 3) := by decide +kernel
theorem d_M_behindBlock_19 : decode c_M_behindBlock 19 = .ok (.aload_n 0, 1) := by decide +kernel
theorem d_M_behindBlock_20 : decode c_M_behindBlock 20 = .ok (.getfield 46, 3) := by decide +kernel
theorem d_M_behindBlock_23 : decode c_M_behindBlock 23 = .ok (.iload_n 3, 1) := by decide +kernel
theorem d_M_behindBlock_24 : decode c_M_behindBlock 24 = .ok (.iaload, 1) := by decide +kernel
theorem d_M_behindBlock_25 : decode c_M_behindBlock 25 = .ok (.iload_n 2, 1) := by decide +kernel
theorem d_M_behindBlock_26 : decode c_M_behindBlock 26 = .ok (.if_icmp .ne 6, 3) := by decide +kernel
theorem d_M_behindBlock_29 : decode c_M_behindBlock 29 = .ok (.iinc 4 1, 3) := by decide +kernel
theorem d_M_behindBlock_32 : decode c_M_behindBlock 32 = .ok (.iinc 3 1, 3) := by decide +kernel
theorem d_M_behindBlock_35 : decode c_M_behindBlock 35 = .ok (.goto (-30), 3) := by decide +kernel
theorem d_M_behindBlock_38 : decode c_M_behindBlock 38 = .ok (.iload_n 3, 1) := by decide +kernel
theorem d_M_behindBlock_39 : decode c_M_behindBlock 39 = .ok (.ireturn, 1) := by decide +kernel
theorem d_M_isOpen_0 : decode c_M_isOpen 0 = .ok (.aload_n 0, 1) := by decide +kernel
theorem d_M_isOpen_1 : decode c_M_isOpen 1 = .ok (.getfield 25, 3) := by decide +kernel
theorem d_M_isOpen_4 : decode c_M_isOpen 4 = .ok (.iload_n 1, 1) := by decide +kernel
theorem d_M_isOpen_5 : decode c_M_isOpen 5 = .ok (.iaload, 1) := by decide +kernel
theorem d_M_isOpen_6 : decode c_M_isOpen 6 = .ok (.aload_n 0, 1) := by decide +kernel
theorem d_M_isOpen_7 : decode c_M_isOpen 7 = .ok (.getfield 22, 3) := by decide +kernel
theorem d_M_isOpen_10 : decode c_M_isOpen 10 = .ok (.iload_n 2, 1) := by decide +kernel
theorem d_M_isOpen_11 : decode c_M_isOpen 11 = .ok (.iaload, 1) := by decide +kernel
theorem d_M_isOpen_12 : decode c_M_isOpen 12 = .ok (.if_icmp .lt 7, 3) := by decide +kernel
theorem d_M_isOpen_15 : decode c_M_isOpen 15 = .ok (.iconst 1, 1) := by decide +kernel
theorem d_M_isOpen_16 : decode c_M_isOpen 16 = .ok (.goto 4, 3) := by decide +kernel
theorem d_M_isOpen_19 : decode c_M_isOpen 19 = .ok (.iconst 0, 1) := by decide +kernel
theorem d_M_isOpen_20 : decode c_M_isOpen 20 = .ok (.ireturn, 1) := by decide +kernel
theorem d_M_lookAt_0 : decode c_M_lookAt 0 = .ok (.aload_n 0, 1) := by decide +kernel
theorem d_M_lookAt_1 : decode c_M_lookAt 1 = .ok (.dup, 1) := by decide +kernel
theorem d_M_lookAt_2 : decode c_M_lookAt 2 = .ok (.getfield 169, 3) := by decide +kernel
theorem d_M_lookAt_5 : decode c_M_lookAt 5 = .ok (.iconst 1, 1) := by decide +kernel
theorem d_M_lookAt_6 : decode c_M_lookAt 6 = .ok (.iadd, 1) := by decide +kernel
theorem d_M_lookAt_7 : decode c_M_lookAt 7 = .ok (.putfield 169, 3) := by decide +kernel
theorem d_M_lookAt_10 : decode c_M_lookAt 10 = .ok (.iload_n 3, 1) := by decide +kernel
theorem d_M_lookAt_11 : decode c_M_lookAt 11 = .ok (.istore 6, 2) := by decide +kernel
theorem d_M_lookAt_13 : decode c_M_lookAt 13 = .ok (.iload 6, 2) := by decide +kernel
theorem d_M_lookAt_15 : decode c_M_lookAt 15 = .ok (.iload 4, 2) := by decide +kernel
theorem d_M_lookAt_17 : decode c_M_lookAt 17 = .ok (.if_icmp .ge 96, 3) := by decide +kernel
theorem d_M_lookAt_20 : decode c_M_lookAt 20 = .ok (.aload_n 0, 1) := by decide +kernel
theorem d_M_lookAt_21 : decode c_M_lookAt 21 = .ok (.getfield 46, 3) := by decide +kernel
theorem d_M_lookAt_24 : decode c_M_lookAt 24 = .ok (.iload 6, 2) := by decide +kernel
theorem d_M_lookAt_26 : decode c_M_lookAt 26 = .ok (.iaload, 1) := by decide +kernel
theorem d_M_lookAt_27 : decode c_M_lookAt 27 = .ok (.iload 5, 2) := by decide +kernel
theorem d_M_lookAt_29 : decode c_M_lookAt 29 = .ok (.if_icmp .ne 37, 3) := by decide +kernel
theorem d_M_lookAt_32 : decode c_M_lookAt 32 = .ok (.aload_n 0, 1) := by decide +kernel
theorem d_M_lookAt_33 : decode c_M_lookAt 33 = .ok (.getfield 53, 3) := by decide +kernel
theorem d_M_lookAt_36 : decode c_M_lookAt 36 = .ok (.iload 6, 2) := by decide +kernel
theorem d_M_lookAt_38 : decode c_M_lookAt 38 = .ok (.baload, 1) := by decide +kernel
theorem d_M_lookAt_39 : decode c_M_lookAt 39 = .ok (.ifCond .ne 27, 3) := by decide +kernel
theorem d_M_lookAt_42 : decode c_M_lookAt 42 = .ok (.aload_n 0, 1) := by decide +kernel
theorem d_M_lookAt_43 : decode c_M_lookAt 43 = .ok (.iload_n 1, 1) := by decide +kernel
theorem d_M_lookAt_44 : decode c_M_lookAt 44 = .ok (.iload 6, 2) := by decide +kernel
theorem d_M_lookAt_46 : decode c_M_lookAt 46 = .ok (.invokevirtual 172, 3) := by decide +kernel
theorem d_M_lookAt_49 : decode c_M_lookAt 49 = .ok (.ifCond .eq 17, 3) := by decide +kernel
theorem d_M_lookAt_52 : decode c_M_lookAt 52 = .ok (.aload_n 0, 1) := by decide +kernel
theorem d_M_lookAt_53 : decode c_M_lookAt 53 = .ok (.iload_n 1, 1) := by decide +kernel
theorem d_M_lookAt_54 : decode c_M_lookAt 54 = .ok (.iload 6, 2) := by decide +kernel
theorem d_M_lookAt_56 : decode c_M_lookAt 56 = .ok (.invokevirtual 175, 3) := by decide +kernel
theorem d_M_lookAt_59 : decode c_M_lookAt 59 = .ok (.ifCond .eq 7, 3) := by decide +kernel
theorem d_M_lookAt_62 : decode c_M_lookAt 62 = .ok (.iconst 1, 1) := by decide +kernel
theorem d_M_lookAt_63 : decode c_M_lookAt 63 = .ok (.goto 4, 3) := by decide +kernel
theorem d_M_lookAt_66 : decode c_M_lookAt 66 = .ok (.iconst 0, 1) := by decide +kernel
theorem d_M_lookAt_67 : decode c_M_lookAt 67 = .ok (.istore 7, 2) := by decide +kernel
theorem d_M_lookAt_69 : decode c_M_lookAt 69 = .ok (.iload 7, 2) := by decide +kernel
theorem d_M_lookAt_71 : decode c_M_lookAt 71 = .ok (.ifCond .ne 6, 3) := by decide +kernel
theorem d_M_lookAt_74 : decode c_M_lookAt 74 = .ok (.goto 33, 3) := by decide +kernel
theorem d_M_lookAt_77 : decode c_M_lookAt 77 = .ok (.aload_n 0, 1) := by decide +kernel
theorem d_M_lookAt_78 : decode c_M_lookAt 78 = .ok (.dup, 1) := by decide +kernel
theorem d_M_lookAt_79 : decode c_M_lookAt 79 = .ok (.getfield 178, 3) := by decide +kernel
theorem d_M_lookAt_82 : decode c_M_lookAt 82 = .ok (.iconst 1, 1) := by decide +kernel
theorem d_M_lookAt_83 : decode c_M_lookAt 83 = .ok (.iadd, 1) := by decide +kernel
theorem d_M_lookAt_84 : decode c_M_lookAt 84 = .ok (.putfield 178, 3) := by decide +kernel
theorem d_M_lookAt_87 : decode c_M_lookAt 87 = .ok (.aload_n 0, 1) := by decide +kernel
theorem d_M_lookAt_88 : decode c_M_lookAt 88 = .ok (.iload 6, 2) := by decide +kernel
theorem d_M_lookAt_90 : decode c_M_lookAt 90 = .ok (.aload_n 0, 1) := by decide +kernel
theorem d_M_lookAt_91 : decode c_M_lookAt 91 = .ok (.iload_n 1, 1) := by decide +kernel
theorem d_M_lookAt_92 : decode c_M_lookAt 92 = .ok (.iload 6, 2) := by decide +kernel
theorem d_M_lookAt_94 : decode c_M_lookAt 94 = .ok (.iload 6, 2) := by decide +kernel
theorem d_M_lookAt_96 : decode c_M_lookAt 96 = .ok (.iconst 1, 1) := by decide +kernel
theorem d_M_lookAt_97 : decode c_M_lookAt 97 = .ok (.iadd, 1) := by decide +kernel
theorem d_M_lookAt_98 : decode c_M_lookAt 98 = .ok (.iload 5, 2) := by decide +kernel
theorem d_M_lookAt_100 : decode c_M_lookAt 100 = .ok (.invokevirtual 181, 3) := by decide +kernel
theorem d_M_lookAt_103 : decode c_M_lookAt 103 = .ok (.iload_n 2, 1) := by decide +kernel
theorem d_M_lookAt_104 : decode c_M_lookAt 104 = .ok (.invokevirtual 185, 3) := by decide +kernel
theorem d_M_lookAt_107 : decode c_M_lookAt 107 = .ok (.iinc 6 1, 3) := by decide +kernel
theorem d_M_lookAt_110 : decode c_M_lookAt 110 = .ok (.goto (-97), 3) := by decide +kernel
theorem d_M_lookAt_113 : decode c_M_lookAt 113 = .ok (.return_, 1) := by decide +kernel
theorem d_M_mayRead_0 : decode c_M_mayRead 0 = .ok (.aload_n 0, 1) := by decide +kernel
theorem d_M_mayRead_1 : decode c_M_mayRead 1 = .ok (.iload_n 1, 1) := by decide +kernel
theorem d_M_mayRead_2 : decode c_M_mayRead 2 = .ok (.iconst 0, 1) := by decide +kernel
theorem d_M_mayRead_3 : decode c_M_mayRead 3 = .ok (.invokevirtual 149, 3) := by decide +kernel
theorem d_M_mayRead_6 : decode c_M_mayRead 6 = .ok (.istore_n 3, 1) := by decide +kernel
theorem d_M_mayRead_7 : decode c_M_mayRead 7 = .ok (.iconst 0, 1) := by decide +kernel
theorem d_M_mayRead_8 : decode c_M_mayRead 8 = .ok (.istore 4, 2) := by decide +kernel
theorem d_M_mayRead_10 : decode c_M_mayRead 10 = .ok (.iconst 0, 1) := by decide +kernel
theorem d_M_mayRead_11 : decode c_M_mayRead 11 = .ok (.istore 5, 2) := by decide +kernel
theorem d_M_mayRead_13 : decode c_M_mayRead 13 = .ok (.iload_n 2, 1) := by decide +kernel
theorem d_M_mayRead_14 : decode c_M_mayRead 14 = .ok (.istore 6, 2) := by decide +kernel
theorem d_M_mayRead_16 : decode c_M_mayRead 16 = .ok (.iload 6, 2) := by decide +kernel
theorem d_M_mayRead_18 : decode c_M_mayRead 18 = .ok (.ifCond .lt 66, 3) := by decide +kernel
theorem d_M_mayRead_21 : decode c_M_mayRead 21 = .ok (.aload_n 0, 1) := by decide +kernel
theorem d_M_mayRead_22 : decode c_M_mayRead 22 = .ok (.getfield 37, 3) := by decide +kernel
theorem d_M_mayRead_25 : decode c_M_mayRead 25 = .ok (.iload 6, 2) := by decide +kernel
theorem d_M_mayRead_27 : decode c_M_mayRead 27 = .ok (.iaload, 1) := by decide +kernel
theorem d_M_mayRead_28 : decode c_M_mayRead 28 = .ok (.iload_n 3, 1) := by decide +kernel
theorem d_M_mayRead_29 : decode c_M_mayRead 29 = .ok (.iand, 1) := by decide +kernel
theorem d_M_mayRead_30 : decode c_M_mayRead 30 = .ok (.ifCond .eq 5, 3) := by decide +kernel
theorem d_M_mayRead_33 : decode c_M_mayRead 33 = .ok (.iconst 0, 1) := by decide +kernel
theorem d_M_mayRead_34 : decode c_M_mayRead 34 = .ok (.ireturn, 1) := by decide +kernel
theorem d_M_mayRead_35 : decode c_M_mayRead 35 = .ok (.iload 4, 2) := by decide +kernel
theorem d_M_mayRead_37 : decode c_M_mayRead 37 = .ok (.ifCond .ne 35, 3) := by decide +kernel
theorem d_M_mayRead_40 : decode c_M_mayRead 40 = .ok (.aload_n 0, 1) := by decide +kernel
theorem d_M_mayRead_41 : decode c_M_mayRead 41 = .ok (.getfield 34, 3) := by decide +kernel
theorem d_M_mayRead_44 : decode c_M_mayRead 44 = .ok (.iload 6, 2) := by decide +kernel
theorem d_M_mayRead_46 : decode c_M_mayRead 46 = .ok (.iaload, 1) := by decide +kernel
theorem d_M_mayRead_47 : decode c_M_mayRead 47 = .ok (.ifCond .eq 25, 3) := by decide +kernel
theorem d_M_mayRead_50 : decode c_M_mayRead 50 = .ok (.iconst 1, 1) := by decide +kernel
theorem d_M_mayRead_51 : decode c_M_mayRead 51 = .ok (.istore 4, 2) := by decide +kernel
theorem d_M_mayRead_53 : decode c_M_mayRead 53 = .ok (.aload_n 0, 1) := by decide +kernel
theorem d_M_mayRead_54 : decode c_M_mayRead 54 = .ok (.getfield 34, 3) := by decide +kernel
theorem d_M_mayRead_57 : decode c_M_mayRead 57 = .ok (.iload 6, 2) := by decide +kernel
theorem d_M_mayRead_59 : decode c_M_mayRead 59 = .ok (.iaload, 1) := by decide +kernel
theorem d_M_mayRead_60 : decode c_M_mayRead 60 = .ok (.iload_n 3, 1) := by decide +kernel
theorem d_M_mayRead_61 : decode c_M_mayRead 61 = .ok (.iand, 1) := by decide +kernel
theorem d_M_mayRead_62 : decode c_M_mayRead 62 = .ok (.ifCond .eq 7, 3) := by decide +kernel
theorem d_M_mayRead_65 : decode c_M_mayRead 65 = .ok (.iconst 1, 1) := by decide +kernel
theorem d_M_mayRead_66 : decode c_M_mayRead 66 = .ok (.goto 4, 3) := by decide +kernel
theorem d_M_mayRead_69 : decode c_M_mayRead 69 = .ok (.iconst 0, 1) := by decide +kernel
theorem d_M_mayRead_70 : decode c_M_mayRead 70 = .ok (.istore 5, 2) := by decide +kernel
theorem d_M_mayRead_72 : decode c_M_mayRead 72 = .ok (.aload_n 0, 1) := by decide +kernel
theorem d_M_mayRead_73 : decode c_M_mayRead 73 = .ok (.getfield 40, 3) := by decide +kernel
theorem d_M_mayRead_76 : decode c_M_mayRead 76 = .ok (.iload 6, 2) := by decide +kernel
theorem d_M_mayRead_78 : decode c_M_mayRead 78 = .ok (.iaload, 1) := by decide +kernel
theorem d_M_mayRead_79 : decode c_M_mayRead 79 = .ok (.istore 6, 2) := by decide +kernel
theorem d_M_mayRead_81 : decode c_M_mayRead 81 = .ok (.goto (-65), 3) := by decide +kernel
theorem d_M_mayRead_84 : decode c_M_mayRead 84 = .ok (.iload 5, 2) := by decide +kernel
theorem d_M_mayRead_86 : decode c_M_mayRead 86 = .ok (.ireturn, 1) := by decide +kernel
theorem d_M_tokens_0 : decode c_M_tokens 0 = .ok (.iconst 1, 1) := by decide +kernel
theorem d_M_tokens_1 : decode c_M_tokens 1 = .ok (.iload_n 1, 1) := by decide +kernel
theorem d_M_tokens_2 : decode c_M_tokens 2 = .ok (.ishl, 1) := by decide +kernel
theorem d_M_tokens_3 : decode c_M_tokens 3 = .ok (.istore_n 3, 1) := by decide +kernel
theorem d_M_tokens_4 : decode c_M_tokens 4 = .ok (.iconst 0, 1) := by decide +kernel
theorem d_M_tokens_5 : decode c_M_tokens 5 = .ok (.istore 4, 2) := by decide +kernel
theorem d_M_tokens_7 : decode c_M_tokens 7 = .ok (.iload_n 3, 1) := by decide +kernel
theorem d_M_tokens_8 : decode c_M_tokens 8 = .ok (.iload 4, 2) := by decide +kernel
theorem d_M_tokens_10 : decode c_M_tokens 10 = .ok (.if_icmp .eq 60, 3) := by decide +kernel
theorem d_M_tokens_13 : decode c_M_tokens 13 = .ok (.iload_n 3, 1) := by decide +kernel
theorem d_M_tokens_14 : decode c_M_tokens 14 = .ok (.istore 4, 2) := by decide +kernel
theorem d_M_tokens_16 : decode c_M_tokens 16 = .ok (.iconst 0, 1) := by decide +kernel
theorem d_M_tokens_17 : decode c_M_tokens 17 = .ok (.istore 5, 2) := by decide +kernel
theorem d_M_tokens_19 : decode c_M_tokens 19 = .ok (.iload 5, 2) := by decide +kernel
theorem d_M_tokens_21 : decode c_M_tokens 21 = .ok (.bipush 16, 2) := by decide +kernel
theorem d_M_tokens_23 : decode c_M_tokens 23 = .ok (.if_icmp .ge 44, 3) := by decide +kernel
theorem d_M_tokens_26 : decode c_M_tokens 26 = .ok (.iload 4, 2) := by decide +kernel
theorem d_M_tokens_28 : decode c_M_tokens 28 = .ok (.iload 5, 2) := by decide +kernel
theorem d_M_tokens_30 : decode c_M_tokens 30 = .ok (.ishr, 1) := by decide +kernel
theorem d_M_tokens_31 : decode c_M_tokens 31 = .ok (.iconst 1, 1) := by decide +kernel
theorem d_M_tokens_32 : decode c_M_tokens 32 = .ok (.iand, 1) := by decide +kernel
theorem d_M_tokens_33 : decode c_M_tokens 33 = .ok (.iconst 1, 1) := by decide +kernel
theorem d_M_tokens_34 : decode c_M_tokens 34 = .ok (.if_icmp .ne 27, 3) := by decide +kernel
theorem d_M_tokens_37 : decode c_M_tokens 37 = .ok (.iload_n 3, 1) := by decide +kernel
theorem d_M_tokens_38 : decode c_M_tokens 38 = .ok (.iload_n 2, 1) := by decide +kernel
theorem d_M_tokens_39 : decode c_M_tokens 39 = .ok (.ifCond .eq 13, 3) := by decide +kernel
theorem d_M_tokens_42 : decode c_M_tokens 42 = .ok (.aload_n 0, 1) := by decide +kernel
theorem d_M_tokens_43 : decode c_M_tokens 43 = .ok (.getfield 7, 3) := by decide +kernel
theorem d_M_tokens_46 : decode c_M_tokens 46 = .ok (.iload 5, 2) := by decide +kernel
theorem d_M_tokens_48 : decode c_M_tokens 48 = .ok (.iaload, 1) := by decide +kernel
theorem d_M_tokens_49 : decode c_M_tokens 49 = .ok (.goto 10, 3) := by decide +kernel
theorem d_M_tokens_52 : decode c_M_tokens 52 = .ok (.aload_n 0, 1) := by decide +kernel
theorem d_M_tokens_53 : decode c_M_tokens 53 = .ok (.getfield 19, 3) := by decide +kernel
theorem d_M_tokens_56 : decode c_M_tokens 56 = .ok (.iload 5, 2) := by decide +kernel
theorem d_M_tokens_58 : decode c_M_tokens 58 = .ok (.iaload, 1) := by decide +kernel
theorem d_M_tokens_59 : decode c_M_tokens 59 = .ok (.ior, 1) := by decide +kernel
theorem d_M_tokens_60 : decode c_M_tokens 60 = .ok (.istore_n 3, 1) := by decide +kernel
theorem d_M_tokens_61 : decode c_M_tokens 61 = .ok (.iinc 5 1, 3) := by decide +kernel
theorem d_M_tokens_64 : decode c_M_tokens 64 = .ok (.goto (-45), 3) := by decide +kernel
theorem d_M_tokens_67 : decode c_M_tokens 67 = .ok (.goto (-60), 3) := by decide +kernel
theorem d_M_tokens_70 : decode c_M_tokens 70 = .ok (.iload_n 3, 1) := by decide +kernel
theorem d_M_tokens_71 : decode c_M_tokens 71 = .ok (.ireturn, 1) := by decide +kernel
theorem d_M_hit_0 : decode c_M_hit 0 = .ok (.aload_n 0, 1) := by decide +kernel
theorem d_M_hit_1 : decode c_M_hit 1 = .ok (.iload_n 1, 1) := by decide +kernel
theorem d_M_hit_2 : decode c_M_hit 2 = .ok (.iconst 0, 1) := by decide +kernel
theorem d_M_hit_3 : decode c_M_hit 3 = .ok (.aload_n 0, 1) := by decide +kernel
theorem d_M_hit_4 : decode c_M_hit 4 = .ok (.getfield 157, 3) := by decide +kernel
theorem d_M_hit_7 : decode c_M_hit 7 = .ok (.iconst 1, 1) := by decide +kernel
theorem d_M_hit_8 : decode c_M_hit 8 = .ok (.isub, 1) := by decide +kernel
theorem d_M_hit_9 : decode c_M_hit 9 = .ok (.invokestatic 98, 3) := by decide +kernel
theorem d_M_hit_12 : decode c_M_hit 12 = .ok (.ifCond .eq 7, 3) := by decide +kernel
theorem d_M_hit_15 : decode c_M_hit 15 = .ok (.iconst 0, 1) := by decide +kernel
theorem d_M_hit_16 : decode c_M_hit 16 = .ok (.goto 4, 3) := by decide +kernel
theorem d_M_hit_19 : decode c_M_hit 19 = .ok (.iconst 1, 1) := by decide +kernel
theorem d_M_hit_20 : decode c_M_hit 20 = .ok (.putfield 94, 3) := by decide +kernel
theorem d_M_hit_23 : decode c_M_hit 23 = .ok (.aload_n 0, 1) := by decide +kernel
theorem d_M_hit_24 : decode c_M_hit 24 = .ok (.getfield 94, 3) := by decide +kernel
theorem d_M_hit_27 : decode c_M_hit 27 = .ok (.ifCond .le 7, 3) := by decide +kernel
theorem d_M_hit_30 : decode c_M_hit 30 = .ok (.iconst 0, 1) := by decide +kernel
theorem d_M_hit_31 : decode c_M_hit 31 = .ok (.goto 9, 3) := by decide +kernel
theorem d_M_hit_34 : decode c_M_hit 34 = .ok (.aload_n 0, 1) := by decide +kernel
theorem d_M_hit_35 : decode c_M_hit 35 = .ok (.getfield 74, 3) := by decide +kernel
theorem d_M_hit_38 : decode c_M_hit 38 = .ok (.iload_n 1, 1) := by decide +kernel
theorem d_M_hit_39 : decode c_M_hit 39 = .ok (.iaload, 1) := by decide +kernel
theorem d_M_hit_40 : decode c_M_hit 40 = .ok (.ireturn, 1) := by decide +kernel
theorem d_M_score_0 : decode c_M_score 0 = .ok (.aload_n 0, 1) := by decide +kernel
theorem d_M_score_1 : decode c_M_score 1 = .ok (.iload_n 1, 1) := by decide +kernel
theorem d_M_score_2 : decode c_M_score 2 = .ok (.iconst 0, 1) := by decide +kernel
theorem d_M_score_3 : decode c_M_score 3 = .ok (.aload_n 0, 1) := by decide +kernel
theorem d_M_score_4 : decode c_M_score 4 = .ok (.getfield 157, 3) := by decide +kernel
theorem d_M_score_7 : decode c_M_score 7 = .ok (.iconst 1, 1) := by decide +kernel
theorem d_M_score_8 : decode c_M_score 8 = .ok (.isub, 1) := by decide +kernel
theorem d_M_score_9 : decode c_M_score 9 = .ok (.invokestatic 98, 3) := by decide +kernel
theorem d_M_score_12 : decode c_M_score 12 = .ok (.ifCond .eq 7, 3) := by decide +kernel
theorem d_M_score_15 : decode c_M_score 15 = .ok (.iconst 0, 1) := by decide +kernel
theorem d_M_score_16 : decode c_M_score 16 = .ok (.goto 4, 3) := by decide +kernel
theorem d_M_score_19 : decode c_M_score 19 = .ok (.iconst 1, 1) := by decide +kernel
theorem d_M_score_20 : decode c_M_score 20 = .ok (.putfield 94, 3) := by decide +kernel
theorem d_M_score_23 : decode c_M_score 23 = .ok (.aload_n 0, 1) := by decide +kernel
theorem d_M_score_24 : decode c_M_score 24 = .ok (.getfield 94, 3) := by decide +kernel
theorem d_M_score_27 : decode c_M_score 27 = .ok (.ifCond .le 7, 3) := by decide +kernel
theorem d_M_score_30 : decode c_M_score 30 = .ok (.dconst 0, 1) := by decide +kernel
theorem d_M_score_31 : decode c_M_score 31 = .ok (.goto 10, 3) := by decide +kernel
theorem d_M_score_34 : decode c_M_score 34 = .ok (.aload_n 0, 1) := by decide +kernel
theorem d_M_score_35 : decode c_M_score 35 = .ok (.getfield 81, 3) := by decide +kernel
theorem d_M_score_38 : decode c_M_score 38 = .ok (.iload_n 1, 1) := by decide +kernel
theorem d_M_score_39 : decode c_M_score 39 = .ok (.faload, 1) := by decide +kernel
theorem d_M_score_40 : decode c_M_score 40 = .ok (.f2d, 1) := by decide +kernel
theorem d_M_score_41 : decode c_M_score 41 = .ok (.dreturn, 1) := by decide +kernel
end
section
theorem d_law_0 : decode code 0 = .ok (.new 8, 3) := by decide +kernel
theorem d_law_3 : decode code 3 = .ok (.dup, 1) := by decide +kernel
theorem d_law_4 : decode code 4 = .ok (.invokespecial 71, 3) := by decide +kernel
theorem d_law_7 : decode code 7 = .ok (.astore_n 1, 1) := by decide +kernel
theorem d_law_8 : decode code 8 = .ok (.new 72, 3) := by decide +kernel
theorem d_law_11 : decode code 11 = .ok (.dup, 1) := by decide +kernel
theorem d_law_12 : decode code 12 = .ok (.invokespecial 74, 3) := by decide +kernel
theorem d_law_15 : decode code 15 = .ok (.astore_n 2, 1) := by decide +kernel
theorem d_law_16 : decode code 16 = .ok (.iconst 1, 1) := by decide +kernel
theorem d_law_17 : decode code 17 = .ok (.newarray .long, 2) := by decide +kernel
theorem d_law_19 : decode code 19 = .ok (.astore_n 3, 1) := by decide +kernel
theorem d_law_20 : decode code 20 = .ok (.iconst 1, 1) := by decide +kernel
theorem d_law_21 : decode code 21 = .ok (.newarray .double, 2) := by decide +kernel
theorem d_law_23 : decode code 23 = .ok (.astore 4, 2) := by decide +kernel
theorem d_law_25 : decode code 25 = .ok (.iconst 0, 1) := by decide +kernel
theorem d_law_26 : decode code 26 = .ok (.istore 5, 2) := by decide +kernel
theorem d_law_28 : decode code 28 = .ok (.iload 5, 2) := by decide +kernel
theorem d_law_30 : decode code 30 = .ok (.aload_n 0, 1) := by decide +kernel
theorem d_law_31 : decode code 31 = .ok (.arraylength, 1) := by decide +kernel
theorem d_law_32 : decode code 32 = .ok (.iconst 5, 1) := by decide +kernel
theorem d_law_33 : decode code 33 = .ok (.isub, 1) := by decide +kernel
theorem d_law_34 : decode code 34 = .ok (.if_icmp .gt 1146, 3) := by decide +kernel
theorem d_law_37 : decode code 37 = .ok (.aload_n 0, 1) := by decide +kernel
theorem d_law_38 : decode code 38 = .ok (.iload 5, 2) := by decide +kernel
theorem d_law_40 : decode code 40 = .ok (.iaload, 1) := by decide +kernel
theorem d_law_41 : decode code 41 = .ok (.bipush 31, 2) := by decide +kernel
theorem d_law_43 : decode code 43 = .ok (.iand, 1) := by decide +kernel
theorem d_law_44 : decode code 44 = .ok (.tableswitch 1130 0 16 #[84, 187, 267, 357, 425, 516, 572, 608, 652, 665, 678, 780, 793, 861, 917, 994, 1074], 84) := by decide +kernel
theorem d_law_128 : decode code 128 = .ok (.aload_n 1, 1) := by decide +kernel
theorem d_law_129 : decode code 129 = .ok (.aload_n 0, 1) := by decide +kernel
theorem d_law_130 : decode code 130 = .ok (.iload 5, 2) := by decide +kernel
theorem d_law_132 : decode code 132 = .ok (.iconst 1, 1) := by decide +kernel
theorem d_law_133 : decode code 133 = .ok (.iadd, 1) := by decide +kernel
theorem d_law_134 : decode code 134 = .ok (.iaload, 1) := by decide +kernel
theorem d_law_135 : decode code 135 = .ok (.aload_n 0, 1) := by decide +kernel
theorem d_law_136 : decode code 136 = .ok (.iload 5, 2) := by decide +kernel
theorem d_law_138 : decode code 138 = .ok (.iconst 2, 1) := by decide +kernel
theorem d_law_139 : decode code 139 = .ok (.iadd, 1) := by decide +kernel
theorem d_law_140 : decode code 140 = .ok (.iaload, 1) := by decide +kernel
theorem d_law_141 : decode code 141 = .ok (.aload_n 0, 1) := by decide +kernel
theorem d_law_142 : decode code 142 = .ok (.iload 5, 2) := by decide +kernel
theorem d_law_144 : decode code 144 = .ok (.iconst 3, 1) := by decide +kernel
theorem d_law_145 : decode code 145 = .ok (.iadd, 1) := by decide +kernel
theorem d_law_146 : decode code 146 = .ok (.iaload, 1) := by decide +kernel
theorem d_law_147 : decode code 147 = .ok (.ifCond .eq 7, 3) := by decide +kernel
theorem d_law_150 : decode code 150 = .ok (.iconst 1, 1) := by decide +kernel
theorem d_law_151 : decode code 151 = .ok (.goto 4, 3) := by decide +kernel
theorem d_law_154 : decode code 154 = .ok (.iconst 0, 1) := by decide +kernel
theorem d_law_155 : decode code 155 = .ok (.aload_n 3, 1) := by decide +kernel
theorem d_law_156 : decode code 156 = .ok (.invokestatic 75, 3) := by decide +kernel
theorem d_law_159 : decode code 159 = .ok (.istore 6, 2) := by decide +kernel
theorem d_law_161 : decode code 161 = .ok (.aload_n 2, 1) := by decide +kernel
theorem d_law_162 : decode code 162 = .ok (.aload_n 0, 1) := by decide +kernel
theorem d_law_163 : decode code 163 = .ok (.iload 5, 2) := by decide +kernel
theorem d_law_165 : decode code 165 = .ok (.iconst 1, 1) := by decide +kernel
theorem d_law_166 : decode code 166 = .ok (.iadd, 1) := by decide +kernel
theorem d_law_167 : decode code 167 = .ok (.iaload, 1) := by decide +kernel
theorem d_law_168 : decode code 168 = .ok (.aload_n 0, 1) := by decide +kernel
theorem d_law_169 : decode code 169 = .ok (.iload 5, 2) := by decide +kernel
theorem d_law_171 : decode code 171 = .ok (.iconst 2, 1) := by decide +kernel
theorem d_law_172 : decode code 172 = .ok (.iadd, 1) := by decide +kernel
theorem d_law_173 : decode code 173 = .ok (.iaload, 1) := by decide +kernel
theorem d_law_174 : decode code 174 = .ok (.aload_n 0, 1) := by decide +kernel
theorem d_law_175 : decode code 175 = .ok (.iload 5, 2) := by decide +kernel
theorem d_law_177 : decode code 177 = .ok (.iconst 3, 1) := by decide +kernel
theorem d_law_178 : decode code 178 = .ok (.iadd, 1) := by decide +kernel
theorem d_law_179 : decode code 179 = .ok (.iaload, 1) := by decide +kernel
theorem d_law_180 : decode code 180 = .ok (.ifCond .eq 7, 3) := by decide +kernel
theorem d_law_183 : decode code 183 = .ok (.iconst 1, 1) := by decide +kernel
theorem d_law_184 : decode code 184 = .ok (.goto 4, 3) := by decide +kernel
theorem d_law_187 : decode code 187 = .ok (.iconst 0, 1) := by decide +kernel
theorem d_law_188 : decode code 188 = .ok (.invokevirtual 80, 3) := by decide +kernel
theorem d_law_191 : decode code 191 = .ok (.istore 7, 2) := by decide +kernel
theorem d_law_193 : decode code 193 = .ok (.aload_n 2, 1) := by decide +kernel
theorem d_law_194 : decode code 194 = .ok (.invokevirtual 81, 3) := by decide +kernel
theorem d_law_197 : decode code 197 = .ok (.iload 6, 2) := by decide +kernel
theorem d_law_199 : decode code 199 = .ok (.if_icmp .eq 5, 3) := by decide +kernel
theorem d_law_202 : decode code 202 = .ok (.iconst 0, 1) := by decide +kernel
theorem d_law_203 : decode code 203 = .ok (.ireturn, 1) := by decide +kernel
theorem d_law_204 : decode code 204 = .ok (.iload 6, 2) := by decide +kernel
theorem d_law_206 : decode code 206 = .ok (.ifCond .ne 22, 3) := by decide +kernel
theorem d_law_209 : decode code 209 = .ok (.aload_n 3, 1) := by decide +kernel
theorem d_law_210 : decode code 210 = .ok (.iconst 0, 1) := by decide +kernel
theorem d_law_211 : decode code 211 = .ok (.laload, 1) := by decide +kernel
theorem d_law_212 : decode code 212 = .ok (.iload 7, 2) := by decide +kernel
theorem d_law_214 : decode code 214 = .ok (.ifCond .eq 7, 3) := by decide +kernel
theorem d_law_217 : decode code 217 = .ok (.lconst 1, 1) := by decide +kernel
theorem d_law_218 : decode code 218 = .ok (.goto 4, 3) := by decide +kernel
theorem d_law_221 : decode code 221 = .ok (.lconst 0, 1) := by decide +kernel
theorem d_law_222 : decode code 222 = .ok (.lcmp, 1) := by decide +kernel
theorem d_law_223 : decode code 223 = .ok (.ifCond .eq 5, 3) := by decide +kernel
theorem d_law_226 : decode code 226 = .ok (.iconst 0, 1) := by decide +kernel
theorem d_law_227 : decode code 227 = .ok (.ireturn, 1) := by decide +kernel
theorem d_law_228 : decode code 228 = .ok (.goto 946, 3) := by decide +kernel
theorem d_law_231 : decode code 231 = .ok (.aload_n 1, 1) := by decide +kernel
theorem d_law_232 : decode code 232 = .ok (.aload_n 0, 1) := by decide +kernel
theorem d_law_233 : decode code 233 = .ok (.iload 5, 2) := by decide +kernel
theorem d_law_235 : decode code 235 = .ok (.iconst 1, 1) := by decide +kernel
theorem d_law_236 : decode code 236 = .ok (.iadd, 1) := by decide +kernel
theorem d_law_237 : decode code 237 = .ok (.iaload, 1) := by decide +kernel
theorem d_law_238 : decode code 238 = .ok (.aload_n 0, 1) := by decide +kernel
theorem d_law_239 : decode code 239 = .ok (.iload 5, 2) := by decide +kernel
theorem d_law_241 : decode code 241 = .ok (.iconst 2, 1) := by decide +kernel
theorem d_law_242 : decode code 242 = .ok (.iadd, 1) := by decide +kernel
theorem d_law_243 : decode code 243 = .ok (.iaload, 1) := by decide +kernel
theorem d_law_244 : decode code 244 = .ok (.aload_n 0, 1) := by decide +kernel
theorem d_law_245 : decode code 245 = .ok (.iload 5, 2) := by decide +kernel
theorem d_law_247 : decode code 247 = .ok (.iconst 3, 1) := by decide +kernel
theorem d_law_248 : decode code 248 = .ok (.iadd, 1) := by decide +kernel
theorem d_law_249 : decode code 249 = .ok (.iaload, 1) := by decide +kernel
theorem d_law_250 : decode code 250 = .ok (.aload_n 3, 1) := by decide +kernel
theorem d_law_251 : decode code 251 = .ok (.invokestatic 84, 3) := by decide +kernel
theorem d_law_254 : decode code 254 = .ok (.istore 6, 2) := by decide +kernel
theorem d_law_256 : decode code 256 = .ok (.aload_n 2, 1) := by decide +kernel
theorem d_law_257 : decode code 257 = .ok (.aload_n 0, 1) := by decide +kernel
theorem d_law_258 : decode code 258 = .ok (.iload 5, 2) := by decide +kernel
theorem d_law_260 : decode code 260 = .ok (.iconst 1, 1) := by decide +kernel
theorem d_law_261 : decode code 261 = .ok (.iadd, 1) := by decide +kernel
theorem d_law_262 : decode code 262 = .ok (.iaload, 1) := by decide +kernel
theorem d_law_263 : decode code 263 = .ok (.aload_n 0, 1) := by decide +kernel
end
section
theorem d_law_264 : decode code 264 = .ok (.iload 5, 2) := by decide +kernel
theorem d_law_266 : decode code 266 = .ok (.iconst 2, 1) := by decide +kernel
theorem d_law_267 : decode code 267 = .ok (.iadd, 1) := by decide +kernel
theorem d_law_268 : decode code 268 = .ok (.iaload, 1) := by decide +kernel
theorem d_law_269 : decode code 269 = .ok (.aload_n 0, 1) := by decide +kernel
theorem d_law_270 : decode code 270 = .ok (.iload 5, 2) := by decide +kernel
theorem d_law_272 : decode code 272 = .ok (.iconst 3, 1) := by decide +kernel
theorem d_law_273 : decode code 273 = .ok (.iadd, 1) := by decide +kernel
theorem d_law_274 : decode code 274 = .ok (.iaload, 1) := by decide +kernel
theorem d_law_275 : decode code 275 = .ok (.invokevirtual 87, 3) := by decide +kernel
theorem d_law_278 : decode code 278 = .ok (.istore 7, 2) := by decide +kernel
theorem d_law_280 : decode code 280 = .ok (.aload_n 2, 1) := by decide +kernel
theorem d_law_281 : decode code 281 = .ok (.invokevirtual 81, 3) := by decide +kernel
theorem d_law_284 : decode code 284 = .ok (.iload 6, 2) := by decide +kernel
theorem d_law_286 : decode code 286 = .ok (.if_icmp .eq 5, 3) := by decide +kernel
theorem d_law_289 : decode code 289 = .ok (.iconst 0, 1) := by decide +kernel
theorem d_law_290 : decode code 290 = .ok (.ireturn, 1) := by decide +kernel
theorem d_law_291 : decode code 291 = .ok (.iload 6, 2) := by decide +kernel
theorem d_law_293 : decode code 293 = .ok (.ifCond .ne 15, 3) := by decide +kernel
theorem d_law_296 : decode code 296 = .ok (.aload_n 3, 1) := by decide +kernel
theorem d_law_297 : decode code 297 = .ok (.iconst 0, 1) := by decide +kernel
theorem d_law_298 : decode code 298 = .ok (.laload, 1) := by decide +kernel
theorem d_law_299 : decode code 299 = .ok (.iload 7, 2) := by decide +kernel
theorem d_law_301 : decode code 301 = .ok (.i2l, 1) := by decide +kernel
theorem d_law_302 : decode code 302 = .ok (.lcmp, 1) := by decide +kernel
theorem d_law_303 : decode code 303 = .ok (.ifCond .eq 5, 3) := by decide +kernel
theorem d_law_306 : decode code 306 = .ok (.iconst 0, 1) := by decide +kernel
theorem d_law_307 : decode code 307 = .ok (.ireturn, 1) := by decide +kernel
theorem d_law_308 : decode code 308 = .ok (.goto 866, 3) := by decide +kernel
theorem d_law_311 : decode code 311 = .ok (.aload_n 1, 1) := by decide +kernel
theorem d_law_312 : decode code 312 = .ok (.aload_n 0, 1) := by decide +kernel
theorem d_law_313 : decode code 313 = .ok (.iload 5, 2) := by decide +kernel
theorem d_law_315 : decode code 315 = .ok (.iconst 1, 1) := by decide +kernel
theorem d_law_316 : decode code 316 = .ok (.iadd, 1) := by decide +kernel
theorem d_law_317 : decode code 317 = .ok (.iaload, 1) := by decide +kernel
theorem d_law_318 : decode code 318 = .ok (.aload_n 0, 1) := by decide +kernel
theorem d_law_319 : decode code 319 = .ok (.iload 5, 2) := by decide +kernel
theorem d_law_321 : decode code 321 = .ok (.iconst 2, 1) := by decide +kernel
theorem d_law_322 : decode code 322 = .ok (.iadd, 1) := by decide +kernel
theorem d_law_323 : decode code 323 = .ok (.iaload, 1) := by decide +kernel
theorem d_law_324 : decode code 324 = .ok (.aload_n 0, 1) := by decide +kernel
theorem d_law_325 : decode code 325 = .ok (.iload 5, 2) := by decide +kernel
theorem d_law_327 : decode code 327 = .ok (.iconst 3, 1) := by decide +kernel
theorem d_law_328 : decode code 328 = .ok (.iadd, 1) := by decide +kernel
theorem d_law_329 : decode code 329 = .ok (.iaload, 1) := by decide +kernel
theorem d_law_330 : decode code 330 = .ok (.i2d, 1) := by decide +kernel
theorem d_law_331 : decode code 331 = .ok (.ldc2_w 88, 3) := by decide +kernel
theorem d_law_334 : decode code 334 = .ok (.dmul, 1) := by decide +kernel
theorem d_law_335 : decode code 335 = .ok (.aload_n 3, 1) := by decide +kernel
theorem d_law_336 : decode code 336 = .ok (.invokestatic 90, 3) := by decide +kernel
theorem d_law_339 : decode code 339 = .ok (.istore 6, 2) := by decide +kernel
theorem d_law_341 : decode code 341 = .ok (.aload_n 2, 1) := by decide +kernel
theorem d_law_342 : decode code 342 = .ok (.aload_n 0, 1) := by decide +kernel
theorem d_law_343 : decode code 343 = .ok (.iload 5, 2) := by decide +kernel
theorem d_law_345 : decode code 345 = .ok (.iconst 1, 1) := by decide +kernel
theorem d_law_346 : decode code 346 = .ok (.iadd, 1) := by decide +kernel
theorem d_law_347 : decode code 347 = .ok (.iaload, 1) := by decide +kernel
theorem d_law_348 : decode code 348 = .ok (.aload_n 0, 1) := by decide +kernel
theorem d_law_349 : decode code 349 = .ok (.iload 5, 2) := by decide +kernel
theorem d_law_351 : decode code 351 = .ok (.iconst 2, 1) := by decide +kernel
theorem d_law_352 : decode code 352 = .ok (.iadd, 1) := by decide +kernel
theorem d_law_353 : decode code 353 = .ok (.iaload, 1) := by decide +kernel
theorem d_law_354 : decode code 354 = .ok (.aload_n 0, 1) := by decide +kernel
theorem d_law_355 : decode code 355 = .ok (.iload 5, 2) := by decide +kernel
theorem d_law_357 : decode code 357 = .ok (.iconst 3, 1) := by decide +kernel
theorem d_law_358 : decode code 358 = .ok (.iadd, 1) := by decide +kernel
theorem d_law_359 : decode code 359 = .ok (.iaload, 1) := by decide +kernel
theorem d_law_360 : decode code 360 = .ok (.i2d, 1) := by decide +kernel
theorem d_law_361 : decode code 361 = .ok (.ldc2_w 88, 3) := by decide +kernel
theorem d_law_364 : decode code 364 = .ok (.dmul, 1) := by decide +kernel
theorem d_law_365 : decode code 365 = .ok (.invokevirtual 93, 3) := by decide +kernel
theorem d_law_368 : decode code 368 = .ok (.istore 7, 2) := by decide +kernel
theorem d_law_370 : decode code 370 = .ok (.aload_n 2, 1) := by decide +kernel
theorem d_law_371 : decode code 371 = .ok (.invokevirtual 81, 3) := by decide +kernel
theorem d_law_374 : decode code 374 = .ok (.iload 6, 2) := by decide +kernel
theorem d_law_376 : decode code 376 = .ok (.if_icmp .eq 5, 3) := by decide +kernel
theorem d_law_379 : decode code 379 = .ok (.iconst 0, 1) := by decide +kernel
theorem d_law_380 : decode code 380 = .ok (.ireturn, 1) := by decide +kernel
theorem d_law_381 : decode code 381 = .ok (.iload 6, 2) := by decide +kernel
theorem d_law_383 : decode code 383 = .ok (.ifCond .ne 15, 3) := by decide +kernel
theorem d_law_386 : decode code 386 = .ok (.aload_n 3, 1) := by decide +kernel
theorem d_law_387 : decode code 387 = .ok (.iconst 0, 1) := by decide +kernel
theorem d_law_388 : decode code 388 = .ok (.laload, 1) := by decide +kernel
theorem d_law_389 : decode code 389 = .ok (.iload 7, 2) := by decide +kernel
theorem d_law_391 : decode code 391 = .ok (.i2l, 1) := by decide +kernel
theorem d_law_392 : decode code 392 = .ok (.lcmp, 1) := by decide +kernel
theorem d_law_393 : decode code 393 = .ok (.ifCond .eq 5, 3) := by decide +kernel
theorem d_law_396 : decode code 396 = .ok (.iconst 0, 1) := by decide +kernel
theorem d_law_397 : decode code 397 = .ok (.ireturn, 1) := by decide +kernel
theorem d_law_398 : decode code 398 = .ok (.goto 776, 3) := by decide +kernel
theorem d_law_401 : decode code 401 = .ok (.aload_n 1, 1) := by decide +kernel
theorem d_law_402 : decode code 402 = .ok (.aload_n 0, 1) := by decide +kernel
theorem d_law_403 : decode code 403 = .ok (.iload 5, 2) := by decide +kernel
theorem d_law_405 : decode code 405 = .ok (.iconst 1, 1) := by decide +kernel
theorem d_law_406 : decode code 406 = .ok (.iadd, 1) := by decide +kernel
theorem d_law_407 : decode code 407 = .ok (.iaload, 1) := by decide +kernel
theorem d_law_408 : decode code 408 = .ok (.aload_n 0, 1) := by decide +kernel
theorem d_law_409 : decode code 409 = .ok (.iload 5, 2) := by decide +kernel
theorem d_law_411 : decode code 411 = .ok (.iconst 2, 1) := by decide +kernel
theorem d_law_412 : decode code 412 = .ok (.iadd, 1) := by decide +kernel
theorem d_law_413 : decode code 413 = .ok (.iaload, 1) := by decide +kernel
theorem d_law_414 : decode code 414 = .ok (.aload_n 3, 1) := by decide +kernel
theorem d_law_415 : decode code 415 = .ok (.invokestatic 94, 3) := by decide +kernel
theorem d_law_418 : decode code 418 = .ok (.istore 6, 2) := by decide +kernel
theorem d_law_420 : decode code 420 = .ok (.aload_n 2, 1) := by decide +kernel
theorem d_law_421 : decode code 421 = .ok (.aload_n 0, 1) := by decide +kernel
theorem d_law_422 : decode code 422 = .ok (.iload 5, 2) := by decide +kernel
theorem d_law_424 : decode code 424 = .ok (.iconst 1, 1) := by decide +kernel
theorem d_law_425 : decode code 425 = .ok (.iadd, 1) := by decide +kernel
theorem d_law_426 : decode code 426 = .ok (.iaload, 1) := by decide +kernel
theorem d_law_427 : decode code 427 = .ok (.aload_n 0, 1) := by decide +kernel
theorem d_law_428 : decode code 428 = .ok (.iload 5, 2) := by decide +kernel
theorem d_law_430 : decode code 430 = .ok (.iconst 2, 1) := by decide +kernel
theorem d_law_431 : decode code 431 = .ok (.iadd, 1) := by decide +kernel
theorem d_law_432 : decode code 432 = .ok (.iaload, 1) := by decide +kernel
theorem d_law_433 : decode code 433 = .ok (.invokevirtual 97, 3) := by decide +kernel
theorem d_law_436 : decode code 436 = .ok (.istore 7, 2) := by decide +kernel
theorem d_law_438 : decode code 438 = .ok (.aload_n 2, 1) := by decide +kernel
theorem d_law_439 : decode code 439 = .ok (.invokevirtual 81, 3) := by decide +kernel
theorem d_law_442 : decode code 442 = .ok (.iload 6, 2) := by decide +kernel
end
section
theorem d_law_444 : decode code 444 = .ok (.if_icmp .eq 5, 3) := by decide +kernel
theorem d_law_447 : decode code 447 = .ok (.iconst 0, 1) := by decide +kernel
theorem d_law_448 : decode code 448 = .ok (.ireturn, 1) := by decide +kernel
theorem d_law_449 : decode code 449 = .ok (.iload 6, 2) := by decide +kernel
theorem d_law_451 : decode code 451 = .ok (.ifCond .ne 15, 3) := by decide +kernel
theorem d_law_454 : decode code 454 = .ok (.aload_n 3, 1) := by decide +kernel
theorem d_law_455 : decode code 455 = .ok (.iconst 0, 1) := by decide +kernel
theorem d_law_456 : decode code 456 = .ok (.laload, 1) := by decide +kernel
theorem d_law_457 : decode code 457 = .ok (.iload 7, 2) := by decide +kernel
theorem d_law_459 : decode code 459 = .ok (.i2l, 1) := by decide +kernel
theorem d_law_460 : decode code 460 = .ok (.lcmp, 1) := by decide +kernel
theorem d_law_461 : decode code 461 = .ok (.ifCond .eq 5, 3) := by decide +kernel
theorem d_law_464 : decode code 464 = .ok (.iconst 0, 1) := by decide +kernel
theorem d_law_465 : decode code 465 = .ok (.ireturn, 1) := by decide +kernel
theorem d_law_466 : decode code 466 = .ok (.goto 708, 3) := by decide +kernel
theorem d_law_469 : decode code 469 = .ok (.aload_n 1, 1) := by decide +kernel
theorem d_law_470 : decode code 470 = .ok (.aload_n 0, 1) := by decide +kernel
theorem d_law_471 : decode code 471 = .ok (.iload 5, 2) := by decide +kernel
theorem d_law_473 : decode code 473 = .ok (.iconst 1, 1) := by decide +kernel
theorem d_law_474 : decode code 474 = .ok (.iadd, 1) := by decide +kernel
theorem d_law_475 : decode code 475 = .ok (.iaload, 1) := by decide +kernel
theorem d_law_476 : decode code 476 = .ok (.aload_n 0, 1) := by decide +kernel
theorem d_law_477 : decode code 477 = .ok (.iload 5, 2) := by decide +kernel
theorem d_law_479 : decode code 479 = .ok (.iconst 2, 1) := by decide +kernel
theorem d_law_480 : decode code 480 = .ok (.iadd, 1) := by decide +kernel
theorem d_law_481 : decode code 481 = .ok (.iaload, 1) := by decide +kernel
theorem d_law_482 : decode code 482 = .ok (.ifCond .eq 7, 3) := by decide +kernel
theorem d_law_485 : decode code 485 = .ok (.iconst 1, 1) := by decide +kernel
theorem d_law_486 : decode code 486 = .ok (.goto 4, 3) := by decide +kernel
theorem d_law_489 : decode code 489 = .ok (.iconst 0, 1) := by decide +kernel
theorem d_law_490 : decode code 490 = .ok (.aload_n 3, 1) := by decide +kernel
theorem d_law_491 : decode code 491 = .ok (.invokestatic 98, 3) := by decide +kernel
theorem d_law_494 : decode code 494 = .ok (.istore 6, 2) := by decide +kernel
theorem d_law_496 : decode code 496 = .ok (.aload_n 2, 1) := by decide +kernel
theorem d_law_497 : decode code 497 = .ok (.aload_n 0, 1) := by decide +kernel
theorem d_law_498 : decode code 498 = .ok (.iload 5, 2) := by decide +kernel
theorem d_law_500 : decode code 500 = .ok (.iconst 1, 1) := by decide +kernel
theorem d_law_501 : decode code 501 = .ok (.iadd, 1) := by decide +kernel
theorem d_law_502 : decode code 502 = .ok (.iaload, 1) := by decide +kernel
theorem d_law_503 : decode code 503 = .ok (.aload_n 0, 1) := by decide +kernel
theorem d_law_504 : decode code 504 = .ok (.iload 5, 2) := by decide +kernel
theorem d_law_506 : decode code 506 = .ok (.iconst 2, 1) := by decide +kernel
theorem d_law_507 : decode code 507 = .ok (.iadd, 1) := by decide +kernel
theorem d_law_508 : decode code 508 = .ok (.iaload, 1) := by decide +kernel
theorem d_law_509 : decode code 509 = .ok (.ifCond .eq 7, 3) := by decide +kernel
theorem d_law_512 : decode code 512 = .ok (.iconst 1, 1) := by decide +kernel
theorem d_law_513 : decode code 513 = .ok (.goto 4, 3) := by decide +kernel
theorem d_law_516 : decode code 516 = .ok (.iconst 0, 1) := by decide +kernel
theorem d_law_517 : decode code 517 = .ok (.invokevirtual 101, 3) := by decide +kernel
theorem d_law_520 : decode code 520 = .ok (.istore 7, 2) := by decide +kernel
theorem d_law_522 : decode code 522 = .ok (.aload_n 2, 1) := by decide +kernel
theorem d_law_523 : decode code 523 = .ok (.invokevirtual 81, 3) := by decide +kernel
theorem d_law_526 : decode code 526 = .ok (.iload 6, 2) := by decide +kernel
theorem d_law_528 : decode code 528 = .ok (.if_icmp .eq 5, 3) := by decide +kernel
theorem d_law_531 : decode code 531 = .ok (.iconst 0, 1) := by decide +kernel
theorem d_law_532 : decode code 532 = .ok (.ireturn, 1) := by decide +kernel
theorem d_law_533 : decode code 533 = .ok (.iload 6, 2) := by decide +kernel
theorem d_law_535 : decode code 535 = .ok (.ifCond .ne 22, 3) := by decide +kernel
theorem d_law_538 : decode code 538 = .ok (.aload_n 3, 1) := by decide +kernel
theorem d_law_539 : decode code 539 = .ok (.iconst 0, 1) := by decide +kernel
theorem d_law_540 : decode code 540 = .ok (.laload, 1) := by decide +kernel
theorem d_law_541 : decode code 541 = .ok (.iload 7, 2) := by decide +kernel
theorem d_law_543 : decode code 543 = .ok (.ifCond .eq 7, 3) := by decide +kernel
theorem d_law_546 : decode code 546 = .ok (.lconst 1, 1) := by decide +kernel
theorem d_law_547 : decode code 547 = .ok (.goto 4, 3) := by decide +kernel
theorem d_law_550 : decode code 550 = .ok (.lconst 0, 1) := by decide +kernel
theorem d_law_551 : decode code 551 = .ok (.lcmp, 1) := by decide +kernel
theorem d_law_552 : decode code 552 = .ok (.ifCond .eq 5, 3) := by decide +kernel
theorem d_law_555 : decode code 555 = .ok (.iconst 0, 1) := by decide +kernel
theorem d_law_556 : decode code 556 = .ok (.ireturn, 1) := by decide +kernel
theorem d_law_557 : decode code 557 = .ok (.goto 617, 3) := by decide +kernel
theorem d_law_560 : decode code 560 = .ok (.aload_n 1, 1) := by decide +kernel
theorem d_law_561 : decode code 561 = .ok (.aload_n 0, 1) := by decide +kernel
theorem d_law_562 : decode code 562 = .ok (.iload 5, 2) := by decide +kernel
theorem d_law_564 : decode code 564 = .ok (.iconst 1, 1) := by decide +kernel
theorem d_law_565 : decode code 565 = .ok (.iadd, 1) := by decide +kernel
theorem d_law_566 : decode code 566 = .ok (.iaload, 1) := by decide +kernel
theorem d_law_567 : decode code 567 = .ok (.aload_n 3, 1) := by decide +kernel
theorem d_law_568 : decode code 568 = .ok (.invokestatic 102, 3) := by decide +kernel
theorem d_law_571 : decode code 571 = .ok (.istore 6, 2) := by decide +kernel
theorem d_law_573 : decode code 573 = .ok (.aload_n 2, 1) := by decide +kernel
theorem d_law_574 : decode code 574 = .ok (.aload_n 0, 1) := by decide +kernel
theorem d_law_575 : decode code 575 = .ok (.iload 5, 2) := by decide +kernel
theorem d_law_577 : decode code 577 = .ok (.iconst 1, 1) := by decide +kernel
theorem d_law_578 : decode code 578 = .ok (.iadd, 1) := by decide +kernel
theorem d_law_579 : decode code 579 = .ok (.iaload, 1) := by decide +kernel
theorem d_law_580 : decode code 580 = .ok (.invokevirtual 105, 3) := by decide +kernel
theorem d_law_583 : decode code 583 = .ok (.istore 7, 2) := by decide +kernel
theorem d_law_585 : decode code 585 = .ok (.aload_n 2, 1) := by decide +kernel
theorem d_law_586 : decode code 586 = .ok (.invokevirtual 81, 3) := by decide +kernel
theorem d_law_589 : decode code 589 = .ok (.iload 6, 2) := by decide +kernel
theorem d_law_591 : decode code 591 = .ok (.if_icmp .eq 5, 3) := by decide +kernel
theorem d_law_594 : decode code 594 = .ok (.iconst 0, 1) := by decide +kernel
theorem d_law_595 : decode code 595 = .ok (.ireturn, 1) := by decide +kernel
theorem d_law_596 : decode code 596 = .ok (.iload 6, 2) := by decide +kernel
theorem d_law_598 : decode code 598 = .ok (.ifCond .ne 15, 3) := by decide +kernel
theorem d_law_601 : decode code 601 = .ok (.aload_n 3, 1) := by decide +kernel
theorem d_law_602 : decode code 602 = .ok (.iconst 0, 1) := by decide +kernel
theorem d_law_603 : decode code 603 = .ok (.laload, 1) := by decide +kernel
theorem d_law_604 : decode code 604 = .ok (.iload 7, 2) := by decide +kernel
theorem d_law_606 : decode code 606 = .ok (.i2l, 1) := by decide +kernel
theorem d_law_607 : decode code 607 = .ok (.lcmp, 1) := by decide +kernel
theorem d_law_608 : decode code 608 = .ok (.ifCond .eq 5, 3) := by decide +kernel
theorem d_law_611 : decode code 611 = .ok (.iconst 0, 1) := by decide +kernel
theorem d_law_612 : decode code 612 = .ok (.ireturn, 1) := by decide +kernel
theorem d_law_613 : decode code 613 = .ok (.goto 561, 3) := by decide +kernel
theorem d_law_616 : decode code 616 = .ok (.aload_n 1, 1) := by decide +kernel
theorem d_law_617 : decode code 617 = .ok (.aload_n 0, 1) := by decide +kernel
theorem d_law_618 : decode code 618 = .ok (.iload 5, 2) := by decide +kernel
theorem d_law_620 : decode code 620 = .ok (.iconst 1, 1) := by decide +kernel
theorem d_law_621 : decode code 621 = .ok (.iadd, 1) := by decide +kernel
theorem d_law_622 : decode code 622 = .ok (.iaload, 1) := by decide +kernel
theorem d_law_623 : decode code 623 = .ok (.invokestatic 106, 3) := by decide +kernel
theorem d_law_626 : decode code 626 = .ok (.istore 6, 2) := by decide +kernel
theorem d_law_628 : decode code 628 = .ok (.aload_n 2, 1) := by decide +kernel
theorem d_law_629 : decode code 629 = .ok (.aload_n 0, 1) := by decide +kernel
theorem d_law_630 : decode code 630 = .ok (.iload 5, 2) := by decide +kernel
theorem d_law_632 : decode code 632 = .ok (.iconst 1, 1) := by decide +kernel
theorem d_law_633 : decode code 633 = .ok (.iadd, 1) := by decide +kernel
theorem d_law_634 : decode code 634 = .ok (.iaload, 1) := by decide +kernel
end
section
theorem d_law_635 : decode code 635 = .ok (.invokevirtual 109, 3) := by decide +kernel
theorem d_law_638 : decode code 638 = .ok (.aload_n 2, 1) := by decide +kernel
theorem d_law_639 : decode code 639 = .ok (.invokevirtual 81, 3) := by decide +kernel
theorem d_law_642 : decode code 642 = .ok (.iload 6, 2) := by decide +kernel
theorem d_law_644 : decode code 644 = .ok (.if_icmp .eq 5, 3) := by decide +kernel
theorem d_law_647 : decode code 647 = .ok (.iconst 0, 1) := by decide +kernel
theorem d_law_648 : decode code 648 = .ok (.ireturn, 1) := by decide +kernel
theorem d_law_649 : decode code 649 = .ok (.goto 525, 3) := by decide +kernel
theorem d_law_652 : decode code 652 = .ok (.aload_n 1, 1) := by decide +kernel
theorem d_law_653 : decode code 653 = .ok (.aload_n 3, 1) := by decide +kernel
theorem d_law_654 : decode code 654 = .ok (.invokestatic 110, 3) := by decide +kernel
theorem d_law_657 : decode code 657 = .ok (.istore 6, 2) := by decide +kernel
theorem d_law_659 : decode code 659 = .ok (.aload_n 2, 1) := by decide +kernel
theorem d_law_660 : decode code 660 = .ok (.invokevirtual 113, 3) := by decide +kernel
theorem d_law_663 : decode code 663 = .ok (.istore 7, 2) := by decide +kernel
theorem d_law_665 : decode code 665 = .ok (.aload_n 2, 1) := by decide +kernel
theorem d_law_666 : decode code 666 = .ok (.invokevirtual 81, 3) := by decide +kernel
theorem d_law_669 : decode code 669 = .ok (.iload 6, 2) := by decide +kernel
theorem d_law_671 : decode code 671 = .ok (.if_icmp .eq 5, 3) := by decide +kernel
theorem d_law_674 : decode code 674 = .ok (.iconst 0, 1) := by decide +kernel
theorem d_law_675 : decode code 675 = .ok (.ireturn, 1) := by decide +kernel
theorem d_law_676 : decode code 676 = .ok (.iload 6, 2) := by decide +kernel
theorem d_law_678 : decode code 678 = .ok (.ifCond .ne 15, 3) := by decide +kernel
theorem d_law_681 : decode code 681 = .ok (.aload_n 3, 1) := by decide +kernel
theorem d_law_682 : decode code 682 = .ok (.iconst 0, 1) := by decide +kernel
theorem d_law_683 : decode code 683 = .ok (.laload, 1) := by decide +kernel
theorem d_law_684 : decode code 684 = .ok (.iload 7, 2) := by decide +kernel
theorem d_law_686 : decode code 686 = .ok (.i2l, 1) := by decide +kernel
theorem d_law_687 : decode code 687 = .ok (.lcmp, 1) := by decide +kernel
theorem d_law_688 : decode code 688 = .ok (.ifCond .eq 5, 3) := by decide +kernel
theorem d_law_691 : decode code 691 = .ok (.iconst 0, 1) := by decide +kernel
theorem d_law_692 : decode code 692 = .ok (.ireturn, 1) := by decide +kernel
theorem d_law_693 : decode code 693 = .ok (.goto 481, 3) := by decide +kernel
theorem d_law_696 : decode code 696 = .ok (.aload_n 1, 1) := by decide +kernel
theorem d_law_697 : decode code 697 = .ok (.invokevirtual 114, 3) := by decide +kernel
theorem d_law_700 : decode code 700 = .ok (.aload_n 2, 1) := by decide +kernel
theorem d_law_701 : decode code 701 = .ok (.invokevirtual 117, 3) := by decide +kernel
theorem d_law_704 : decode code 704 = .ok (.if_icmp .eq 470, 3) := by decide +kernel
theorem d_law_707 : decode code 707 = .ok (.iconst 0, 1) := by decide +kernel
theorem d_law_708 : decode code 708 = .ok (.ireturn, 1) := by decide +kernel
theorem d_law_709 : decode code 709 = .ok (.aload_n 1, 1) := by decide +kernel
theorem d_law_710 : decode code 710 = .ok (.invokevirtual 118, 3) := by decide +kernel
theorem d_law_713 : decode code 713 = .ok (.aload_n 2, 1) := by decide +kernel
theorem d_law_714 : decode code 714 = .ok (.invokevirtual 121, 3) := by decide +kernel
theorem d_law_717 : decode code 717 = .ok (.if_icmp .eq 457, 3) := by decide +kernel
theorem d_law_720 : decode code 720 = .ok (.iconst 0, 1) := by decide +kernel
theorem d_law_721 : decode code 721 = .ok (.ireturn, 1) := by decide +kernel
theorem d_law_722 : decode code 722 = .ok (.aload_n 1, 1) := by decide +kernel
theorem d_law_723 : decode code 723 = .ok (.aload_n 0, 1) := by decide +kernel
theorem d_law_724 : decode code 724 = .ok (.iload 5, 2) := by decide +kernel
theorem d_law_726 : decode code 726 = .ok (.iconst 1, 1) := by decide +kernel
theorem d_law_727 : decode code 727 = .ok (.iadd, 1) := by decide +kernel
theorem d_law_728 : decode code 728 = .ok (.iaload, 1) := by decide +kernel
theorem d_law_729 : decode code 729 = .ok (.aload_n 0, 1) := by decide +kernel
theorem d_law_730 : decode code 730 = .ok (.iload 5, 2) := by decide +kernel
theorem d_law_732 : decode code 732 = .ok (.iconst 2, 1) := by decide +kernel
theorem d_law_733 : decode code 733 = .ok (.iadd, 1) := by decide +kernel
theorem d_law_734 : decode code 734 = .ok (.iaload, 1) := by decide +kernel
theorem d_law_735 : decode code 735 = .ok (.aload_n 0, 1) := by decide +kernel
theorem d_law_736 : decode code 736 = .ok (.iload 5, 2) := by decide +kernel
theorem d_law_738 : decode code 738 = .ok (.iconst 3, 1) := by decide +kernel
theorem d_law_739 : decode code 739 = .ok (.iadd, 1) := by decide +kernel
theorem d_law_740 : decode code 740 = .ok (.iaload, 1) := by decide +kernel
theorem d_law_741 : decode code 741 = .ok (.aload_n 0, 1) := by decide +kernel
theorem d_law_742 : decode code 742 = .ok (.iload 5, 2) := by decide +kernel
theorem d_law_744 : decode code 744 = .ok (.iconst 4, 1) := by decide +kernel
theorem d_law_745 : decode code 745 = .ok (.iadd, 1) := by decide +kernel
theorem d_law_746 : decode code 746 = .ok (.iaload, 1) := by decide +kernel
theorem d_law_747 : decode code 747 = .ok (.i2d, 1) := by decide +kernel
theorem d_law_748 : decode code 748 = .ok (.ldc2_w 88, 3) := by decide +kernel
theorem d_law_751 : decode code 751 = .ok (.dmul, 1) := by decide +kernel
theorem d_law_752 : decode code 752 = .ok (.aload_n 3, 1) := by decide +kernel
theorem d_law_753 : decode code 753 = .ok (.invokestatic 122, 3) := by decide +kernel
theorem d_law_756 : decode code 756 = .ok (.istore 6, 2) := by decide +kernel
theorem d_law_758 : decode code 758 = .ok (.aload_n 2, 1) := by decide +kernel
theorem d_law_759 : decode code 759 = .ok (.aload_n 0, 1) := by decide +kernel
theorem d_law_760 : decode code 760 = .ok (.iload 5, 2) := by decide +kernel
theorem d_law_762 : decode code 762 = .ok (.iconst 1, 1) := by decide +kernel
theorem d_law_763 : decode code 763 = .ok (.iadd, 1) := by decide +kernel
theorem d_law_764 : decode code 764 = .ok (.iaload, 1) := by decide +kernel
theorem d_law_765 : decode code 765 = .ok (.aload_n 0, 1) := by decide +kernel
theorem d_law_766 : decode code 766 = .ok (.iload 5, 2) := by decide +kernel
theorem d_law_768 : decode code 768 = .ok (.iconst 2, 1) := by decide +kernel
theorem d_law_769 : decode code 769 = .ok (.iadd, 1) := by decide +kernel
theorem d_law_770 : decode code 770 = .ok (.iaload, 1) := by decide +kernel
theorem d_law_771 : decode code 771 = .ok (.aload_n 0, 1) := by decide +kernel
theorem d_law_772 : decode code 772 = .ok (.iload 5, 2) := by decide +kernel
theorem d_law_774 : decode code 774 = .ok (.iconst 3, 1) := by decide +kernel
theorem d_law_775 : decode code 775 = .ok (.iadd, 1) := by decide +kernel
theorem d_law_776 : decode code 776 = .ok (.iaload, 1) := by decide +kernel
theorem d_law_777 : decode code 777 = .ok (.aload_n 0, 1) := by decide +kernel
theorem d_law_778 : decode code 778 = .ok (.iload 5, 2) := by decide +kernel
theorem d_law_780 : decode code 780 = .ok (.iconst 4, 1) := by decide +kernel
theorem d_law_781 : decode code 781 = .ok (.iadd, 1) := by decide +kernel
theorem d_law_782 : decode code 782 = .ok (.iaload, 1) := by decide +kernel
theorem d_law_783 : decode code 783 = .ok (.i2d, 1) := by decide +kernel
theorem d_law_784 : decode code 784 = .ok (.ldc2_w 88, 3) := by decide +kernel
theorem d_law_787 : decode code 787 = .ok (.dmul, 1) := by decide +kernel
theorem d_law_788 : decode code 788 = .ok (.invokevirtual 125, 3) := by decide +kernel
theorem d_law_791 : decode code 791 = .ok (.istore 7, 2) := by decide +kernel
theorem d_law_793 : decode code 793 = .ok (.aload_n 2, 1) := by decide +kernel
theorem d_law_794 : decode code 794 = .ok (.invokevirtual 81, 3) := by decide +kernel
theorem d_law_797 : decode code 797 = .ok (.iload 6, 2) := by decide +kernel
theorem d_law_799 : decode code 799 = .ok (.if_icmp .eq 5, 3) := by decide +kernel
theorem d_law_802 : decode code 802 = .ok (.iconst 0, 1) := by decide +kernel
theorem d_law_803 : decode code 803 = .ok (.ireturn, 1) := by decide +kernel
theorem d_law_804 : decode code 804 = .ok (.iload 6, 2) := by decide +kernel
theorem d_law_806 : decode code 806 = .ok (.ifCond .ne 15, 3) := by decide +kernel
theorem d_law_809 : decode code 809 = .ok (.aload_n 3, 1) := by decide +kernel
theorem d_law_810 : decode code 810 = .ok (.iconst 0, 1) := by decide +kernel
theorem d_law_811 : decode code 811 = .ok (.laload, 1) := by decide +kernel
theorem d_law_812 : decode code 812 = .ok (.iload 7, 2) := by decide +kernel
theorem d_law_814 : decode code 814 = .ok (.i2l, 1) := by decide +kernel
theorem d_law_815 : decode code 815 = .ok (.lcmp, 1) := by decide +kernel
theorem d_law_816 : decode code 816 = .ok (.ifCond .eq 5, 3) := by decide +kernel
theorem d_law_819 : decode code 819 = .ok (.iconst 0, 1) := by decide +kernel
theorem d_law_820 : decode code 820 = .ok (.ireturn, 1) := by decide +kernel
theorem d_law_821 : decode code 821 = .ok (.goto 353, 3) := by decide +kernel
theorem d_law_824 : decode code 824 = .ok (.aload_n 1, 1) := by decide +kernel
theorem d_law_825 : decode code 825 = .ok (.invokevirtual 126, 3) := by decide +kernel
end
section
theorem d_law_828 : decode code 828 = .ok (.aload_n 2, 1) := by decide +kernel
theorem d_law_829 : decode code 829 = .ok (.invokevirtual 129, 3) := by decide +kernel
theorem d_law_832 : decode code 832 = .ok (.if_icmp .eq 342, 3) := by decide +kernel
theorem d_law_835 : decode code 835 = .ok (.iconst 0, 1) := by decide +kernel
theorem d_law_836 : decode code 836 = .ok (.ireturn, 1) := by decide +kernel
theorem d_law_837 : decode code 837 = .ok (.aload_n 1, 1) := by decide +kernel
theorem d_law_838 : decode code 838 = .ok (.aload_n 0, 1) := by decide +kernel
theorem d_law_839 : decode code 839 = .ok (.iload 5, 2) := by decide +kernel
theorem d_law_841 : decode code 841 = .ok (.iconst 1, 1) := by decide +kernel
theorem d_law_842 : decode code 842 = .ok (.iadd, 1) := by decide +kernel
theorem d_law_843 : decode code 843 = .ok (.iaload, 1) := by decide +kernel
theorem d_law_844 : decode code 844 = .ok (.aload_n 0, 1) := by decide +kernel
theorem d_law_845 : decode code 845 = .ok (.iload 5, 2) := by decide +kernel
theorem d_law_847 : decode code 847 = .ok (.iconst 2, 1) := by decide +kernel
theorem d_law_848 : decode code 848 = .ok (.iadd, 1) := by decide +kernel
theorem d_law_849 : decode code 849 = .ok (.iaload, 1) := by decide +kernel
theorem d_law_850 : decode code 850 = .ok (.aload_n 3, 1) := by decide +kernel
theorem d_law_851 : decode code 851 = .ok (.invokestatic 130, 3) := by decide +kernel
theorem d_law_854 : decode code 854 = .ok (.istore 6, 2) := by decide +kernel
theorem d_law_856 : decode code 856 = .ok (.aload_n 2, 1) := by decide +kernel
theorem d_law_857 : decode code 857 = .ok (.aload_n 0, 1) := by decide +kernel
theorem d_law_858 : decode code 858 = .ok (.iload 5, 2) := by decide +kernel
theorem d_law_860 : decode code 860 = .ok (.iconst 1, 1) := by decide +kernel
theorem d_law_861 : decode code 861 = .ok (.iadd, 1) := by decide +kernel
theorem d_law_862 : decode code 862 = .ok (.iaload, 1) := by decide +kernel
theorem d_law_863 : decode code 863 = .ok (.aload_n 0, 1) := by decide +kernel
theorem d_law_864 : decode code 864 = .ok (.iload 5, 2) := by decide +kernel
theorem d_law_866 : decode code 866 = .ok (.iconst 2, 1) := by decide +kernel
theorem d_law_867 : decode code 867 = .ok (.iadd, 1) := by decide +kernel
theorem d_law_868 : decode code 868 = .ok (.iaload, 1) := by decide +kernel
theorem d_law_869 : decode code 869 = .ok (.invokevirtual 132, 3) := by decide +kernel
theorem d_law_872 : decode code 872 = .ok (.istore 7, 2) := by decide +kernel
theorem d_law_874 : decode code 874 = .ok (.aload_n 2, 1) := by decide +kernel
theorem d_law_875 : decode code 875 = .ok (.invokevirtual 81, 3) := by decide +kernel
theorem d_law_878 : decode code 878 = .ok (.iload 6, 2) := by decide +kernel
theorem d_law_880 : decode code 880 = .ok (.if_icmp .eq 5, 3) := by decide +kernel
theorem d_law_883 : decode code 883 = .ok (.iconst 0, 1) := by decide +kernel
theorem d_law_884 : decode code 884 = .ok (.ireturn, 1) := by decide +kernel
theorem d_law_885 : decode code 885 = .ok (.iload 6, 2) := by decide +kernel
theorem d_law_887 : decode code 887 = .ok (.ifCond .ne 15, 3) := by decide +kernel
theorem d_law_890 : decode code 890 = .ok (.aload_n 3, 1) := by decide +kernel
theorem d_law_891 : decode code 891 = .ok (.iconst 0, 1) := by decide +kernel
theorem d_law_892 : decode code 892 = .ok (.laload, 1) := by decide +kernel
theorem d_law_893 : decode code 893 = .ok (.iload 7, 2) := by decide +kernel
theorem d_law_895 : decode code 895 = .ok (.i2l, 1) := by decide +kernel
theorem d_law_896 : decode code 896 = .ok (.lcmp, 1) := by decide +kernel
theorem d_law_897 : decode code 897 = .ok (.ifCond .eq 5, 3) := by decide +kernel
theorem d_law_900 : decode code 900 = .ok (.iconst 0, 1) := by decide +kernel
theorem d_law_901 : decode code 901 = .ok (.ireturn, 1) := by decide +kernel
theorem d_law_902 : decode code 902 = .ok (.goto 272, 3) := by decide +kernel
theorem d_law_905 : decode code 905 = .ok (.aload_n 1, 1) := by decide +kernel
theorem d_law_906 : decode code 906 = .ok (.aload_n 0, 1) := by decide +kernel
theorem d_law_907 : decode code 907 = .ok (.iload 5, 2) := by decide +kernel
theorem d_law_909 : decode code 909 = .ok (.iconst 1, 1) := by decide +kernel
theorem d_law_910 : decode code 910 = .ok (.iadd, 1) := by decide +kernel
theorem d_law_911 : decode code 911 = .ok (.iaload, 1) := by decide +kernel
theorem d_law_912 : decode code 912 = .ok (.aload_n 3, 1) := by decide +kernel
theorem d_law_913 : decode code 913 = .ok (.invokestatic 133, 3) := by decide +kernel
theorem d_law_916 : decode code 916 = .ok (.istore 6, 2) := by decide +kernel
theorem d_law_918 : decode code 918 = .ok (.aload_n 2, 1) := by decide +kernel
theorem d_law_919 : decode code 919 = .ok (.aload_n 0, 1) := by decide +kernel
theorem d_law_920 : decode code 920 = .ok (.iload 5, 2) := by decide +kernel
theorem d_law_922 : decode code 922 = .ok (.iconst 1, 1) := by decide +kernel
theorem d_law_923 : decode code 923 = .ok (.iadd, 1) := by decide +kernel
theorem d_law_924 : decode code 924 = .ok (.iaload, 1) := by decide +kernel
theorem d_law_925 : decode code 925 = .ok (.invokevirtual 135, 3) := by decide +kernel
theorem d_law_928 : decode code 928 = .ok (.istore 7, 2) := by decide +kernel
theorem d_law_930 : decode code 930 = .ok (.aload_n 2, 1) := by decide +kernel
theorem d_law_931 : decode code 931 = .ok (.invokevirtual 81, 3) := by decide +kernel
theorem d_law_934 : decode code 934 = .ok (.iload 6, 2) := by decide +kernel
theorem d_law_936 : decode code 936 = .ok (.if_icmp .eq 5, 3) := by decide +kernel
theorem d_law_939 : decode code 939 = .ok (.iconst 0, 1) := by decide +kernel
theorem d_law_940 : decode code 940 = .ok (.ireturn, 1) := by decide +kernel
theorem d_law_941 : decode code 941 = .ok (.iload 6, 2) := by decide +kernel
theorem d_law_943 : decode code 943 = .ok (.ifCond .ne 15, 3) := by decide +kernel
theorem d_law_946 : decode code 946 = .ok (.aload_n 3, 1) := by decide +kernel
theorem d_law_947 : decode code 947 = .ok (.iconst 0, 1) := by decide +kernel
theorem d_law_948 : decode code 948 = .ok (.laload, 1) := by decide +kernel
theorem d_law_949 : decode code 949 = .ok (.iload 7, 2) := by decide +kernel
theorem d_law_951 : decode code 951 = .ok (.i2l, 1) := by decide +kernel
theorem d_law_952 : decode code 952 = .ok (.lcmp, 1) := by decide +kernel
theorem d_law_953 : decode code 953 = .ok (.ifCond .eq 5, 3) := by decide +kernel
theorem d_law_956 : decode code 956 = .ok (.iconst 0, 1) := by decide +kernel
theorem d_law_957 : decode code 957 = .ok (.ireturn, 1) := by decide +kernel
theorem d_law_958 : decode code 958 = .ok (.goto 216, 3) := by decide +kernel
theorem d_law_961 : decode code 961 = .ok (.aload_n 1, 1) := by decide +kernel
theorem d_law_962 : decode code 962 = .ok (.aload_n 0, 1) := by decide +kernel
theorem d_law_963 : decode code 963 = .ok (.iload 5, 2) := by decide +kernel
theorem d_law_965 : decode code 965 = .ok (.iconst 1, 1) := by decide +kernel
theorem d_law_966 : decode code 966 = .ok (.iadd, 1) := by decide +kernel
theorem d_law_967 : decode code 967 = .ok (.iaload, 1) := by decide +kernel
theorem d_law_968 : decode code 968 = .ok (.aload 4, 2) := by decide +kernel
theorem d_law_970 : decode code 970 = .ok (.invokestatic 136, 3) := by decide +kernel
theorem d_law_973 : decode code 973 = .ok (.istore 6, 2) := by decide +kernel
theorem d_law_975 : decode code 975 = .ok (.aload_n 2, 1) := by decide +kernel
theorem d_law_976 : decode code 976 = .ok (.aload_n 0, 1) := by decide +kernel
theorem d_law_977 : decode code 977 = .ok (.iload 5, 2) := by decide +kernel
theorem d_law_979 : decode code 979 = .ok (.iconst 1, 1) := by decide +kernel
theorem d_law_980 : decode code 980 = .ok (.iadd, 1) := by decide +kernel
theorem d_law_981 : decode code 981 = .ok (.iaload, 1) := by decide +kernel
theorem d_law_982 : decode code 982 = .ok (.invokevirtual 139, 3) := by decide +kernel
theorem d_law_985 : decode code 985 = .ok (.dstore 7, 2) := by decide +kernel
theorem d_law_987 : decode code 987 = .ok (.aload_n 2, 1) := by decide +kernel
theorem d_law_988 : decode code 988 = .ok (.invokevirtual 81, 3) := by decide +kernel
theorem d_law_991 : decode code 991 = .ok (.iload 6, 2) := by decide +kernel
theorem d_law_993 : decode code 993 = .ok (.if_icmp .eq 5, 3) := by decide +kernel
theorem d_law_996 : decode code 996 = .ok (.iconst 0, 1) := by decide +kernel
theorem d_law_997 : decode code 997 = .ok (.ireturn, 1) := by decide +kernel
theorem d_law_998 : decode code 998 = .ok (.iload 6, 2) := by decide +kernel
theorem d_law_1000 : decode code 1000 = .ok (.ifCond .ne 35, 3) := by decide +kernel
theorem d_law_1003 : decode code 1003 = .ok (.aload 4, 2) := by decide +kernel
theorem d_law_1005 : decode code 1005 = .ok (.iconst 0, 1) := by decide +kernel
theorem d_law_1006 : decode code 1006 = .ok (.daload, 1) := by decide +kernel
theorem d_law_1007 : decode code 1007 = .ok (.dload 7, 2) := by decide +kernel
theorem d_law_1009 : decode code 1009 = .ok (.dcmp .l, 1) := by decide +kernel
theorem d_law_1010 : decode code 1010 = .ok (.ifCond .eq 25, 3) := by decide +kernel
theorem d_law_1013 : decode code 1013 = .ok (.aload 4, 2) := by decide +kernel
theorem d_law_1015 : decode code 1015 = .ok (.iconst 0, 1) := by decide +kernel
theorem d_law_1016 : decode code 1016 = .ok (.daload, 1) := by decide +kernel
theorem d_law_1017 : decode code 1017 = .ok (.aload 4, 2) := by decide +kernel
end
section
theorem d_law_1019 : decode code 1019 = .ok (.iconst 0, 1) := by decide +kernel
theorem d_law_1020 : decode code 1020 = .ok (.daload, 1) := by decide +kernel
theorem d_law_1021 : decode code 1021 = .ok (.dcmp .l, 1) := by decide +kernel
theorem d_law_1022 : decode code 1022 = .ok (.ifCond .eq 11, 3) := by decide +kernel
theorem d_law_1025 : decode code 1025 = .ok (.dload 7, 2) := by decide +kernel
theorem d_law_1027 : decode code 1027 = .ok (.dload 7, 2) := by decide +kernel
theorem d_law_1029 : decode code 1029 = .ok (.dcmp .l, 1) := by decide +kernel
theorem d_law_1030 : decode code 1030 = .ok (.ifCond .ne 5, 3) := by decide +kernel
theorem d_law_1033 : decode code 1033 = .ok (.iconst 0, 1) := by decide +kernel
theorem d_law_1034 : decode code 1034 = .ok (.ireturn, 1) := by decide +kernel
theorem d_law_1035 : decode code 1035 = .ok (.goto 139, 3) := by decide +kernel
theorem d_law_1038 : decode code 1038 = .ok (.aload_n 1, 1) := by decide +kernel
theorem d_law_1039 : decode code 1039 = .ok (.aload_n 0, 1) := by decide +kernel
theorem d_law_1040 : decode code 1040 = .ok (.iload 5, 2) := by decide +kernel
theorem d_law_1042 : decode code 1042 = .ok (.iconst 1, 1) := by decide +kernel
theorem d_law_1043 : decode code 1043 = .ok (.iadd, 1) := by decide +kernel
theorem d_law_1044 : decode code 1044 = .ok (.iaload, 1) := by decide +kernel
theorem d_law_1045 : decode code 1045 = .ok (.aload_n 0, 1) := by decide +kernel
theorem d_law_1046 : decode code 1046 = .ok (.iload 5, 2) := by decide +kernel
theorem d_law_1048 : decode code 1048 = .ok (.iconst 2, 1) := by decide +kernel
theorem d_law_1049 : decode code 1049 = .ok (.iadd, 1) := by decide +kernel
theorem d_law_1050 : decode code 1050 = .ok (.iaload, 1) := by decide +kernel
theorem d_law_1051 : decode code 1051 = .ok (.aload_n 0, 1) := by decide +kernel
theorem d_law_1052 : decode code 1052 = .ok (.iload 5, 2) := by decide +kernel
theorem d_law_1054 : decode code 1054 = .ok (.iconst 3, 1) := by decide +kernel
theorem d_law_1055 : decode code 1055 = .ok (.iadd, 1) := by decide +kernel
theorem d_law_1056 : decode code 1056 = .ok (.iaload, 1) := by decide +kernel
theorem d_law_1057 : decode code 1057 = .ok (.aload_n 3, 1) := by decide +kernel
theorem d_law_1058 : decode code 1058 = .ok (.invokestatic 140, 3) := by decide +kernel
theorem d_law_1061 : decode code 1061 = .ok (.istore 6, 2) := by decide +kernel
theorem d_law_1063 : decode code 1063 = .ok (.aload_n 2, 1) := by decide +kernel
theorem d_law_1064 : decode code 1064 = .ok (.aload_n 0, 1) := by decide +kernel
theorem d_law_1065 : decode code 1065 = .ok (.iload 5, 2) := by decide +kernel
theorem d_law_1067 : decode code 1067 = .ok (.iconst 1, 1) := by decide +kernel
theorem d_law_1068 : decode code 1068 = .ok (.iadd, 1) := by decide +kernel
theorem d_law_1069 : decode code 1069 = .ok (.iaload, 1) := by decide +kernel
theorem d_law_1070 : decode code 1070 = .ok (.aload_n 0, 1) := by decide +kernel
theorem d_law_1071 : decode code 1071 = .ok (.iload 5, 2) := by decide +kernel
theorem d_law_1073 : decode code 1073 = .ok (.iconst 2, 1) := by decide +kernel
theorem d_law_1074 : decode code 1074 = .ok (.iadd, 1) := by decide +kernel
theorem d_law_1075 : decode code 1075 = .ok (.iaload, 1) := by decide +kernel
theorem d_law_1076 : decode code 1076 = .ok (.aload_n 0, 1) := by decide +kernel
theorem d_law_1077 : decode code 1077 = .ok (.iload 5, 2) := by decide +kernel
theorem d_law_1079 : decode code 1079 = .ok (.iconst 3, 1) := by decide +kernel
theorem d_law_1080 : decode code 1080 = .ok (.iadd, 1) := by decide +kernel
theorem d_law_1081 : decode code 1081 = .ok (.iaload, 1) := by decide +kernel
theorem d_law_1082 : decode code 1082 = .ok (.invokevirtual 142, 3) := by decide +kernel
theorem d_law_1085 : decode code 1085 = .ok (.istore 7, 2) := by decide +kernel
theorem d_law_1087 : decode code 1087 = .ok (.aload_n 2, 1) := by decide +kernel
theorem d_law_1088 : decode code 1088 = .ok (.invokevirtual 81, 3) := by decide +kernel
theorem d_law_1091 : decode code 1091 = .ok (.iload 6, 2) := by decide +kernel
theorem d_law_1093 : decode code 1093 = .ok (.if_icmp .eq 5, 3) := by decide +kernel
theorem d_law_1096 : decode code 1096 = .ok (.iconst 0, 1) := by decide +kernel
theorem d_law_1097 : decode code 1097 = .ok (.ireturn, 1) := by decide +kernel
theorem d_law_1098 : decode code 1098 = .ok (.iload 6, 2) := by decide +kernel
theorem d_law_1100 : decode code 1100 = .ok (.ifCond .ne 15, 3) := by decide +kernel
theorem d_law_1103 : decode code 1103 = .ok (.aload_n 3, 1) := by decide +kernel
theorem d_law_1104 : decode code 1104 = .ok (.iconst 0, 1) := by decide +kernel
theorem d_law_1105 : decode code 1105 = .ok (.laload, 1) := by decide +kernel
theorem d_law_1106 : decode code 1106 = .ok (.iload 7, 2) := by decide +kernel
theorem d_law_1108 : decode code 1108 = .ok (.i2l, 1) := by decide +kernel
theorem d_law_1109 : decode code 1109 = .ok (.lcmp, 1) := by decide +kernel
theorem d_law_1110 : decode code 1110 = .ok (.ifCond .eq 5, 3) := by decide +kernel
theorem d_law_1113 : decode code 1113 = .ok (.iconst 0, 1) := by decide +kernel
theorem d_law_1114 : decode code 1114 = .ok (.ireturn, 1) := by decide +kernel
theorem d_law_1115 : decode code 1115 = .ok (.goto 59, 3) := by decide +kernel
theorem d_law_1118 : decode code 1118 = .ok (.aload_n 1, 1) := by decide +kernel
theorem d_law_1119 : decode code 1119 = .ok (.aload_n 0, 1) := by decide +kernel
theorem d_law_1120 : decode code 1120 = .ok (.iload 5, 2) := by decide +kernel
theorem d_law_1122 : decode code 1122 = .ok (.iconst 1, 1) := by decide +kernel
theorem d_law_1123 : decode code 1123 = .ok (.iadd, 1) := by decide +kernel
theorem d_law_1124 : decode code 1124 = .ok (.iaload, 1) := by decide +kernel
theorem d_law_1125 : decode code 1125 = .ok (.aload_n 3, 1) := by decide +kernel
theorem d_law_1126 : decode code 1126 = .ok (.invokestatic 143, 3) := by decide +kernel
theorem d_law_1129 : decode code 1129 = .ok (.istore 6, 2) := by decide +kernel
theorem d_law_1131 : decode code 1131 = .ok (.aload_n 2, 1) := by decide +kernel
theorem d_law_1132 : decode code 1132 = .ok (.aload_n 0, 1) := by decide +kernel
theorem d_law_1133 : decode code 1133 = .ok (.iload 5, 2) := by decide +kernel
theorem d_law_1135 : decode code 1135 = .ok (.iconst 1, 1) := by decide +kernel
theorem d_law_1136 : decode code 1136 = .ok (.iadd, 1) := by decide +kernel
theorem d_law_1137 : decode code 1137 = .ok (.iaload, 1) := by decide +kernel
theorem d_law_1138 : decode code 1138 = .ok (.invokevirtual 145, 3) := by decide +kernel
theorem d_law_1141 : decode code 1141 = .ok (.istore 7, 2) := by decide +kernel
theorem d_law_1143 : decode code 1143 = .ok (.aload_n 2, 1) := by decide +kernel
theorem d_law_1144 : decode code 1144 = .ok (.invokevirtual 81, 3) := by decide +kernel
theorem d_law_1147 : decode code 1147 = .ok (.iload 6, 2) := by decide +kernel
theorem d_law_1149 : decode code 1149 = .ok (.if_icmp .eq 5, 3) := by decide +kernel
theorem d_law_1152 : decode code 1152 = .ok (.iconst 0, 1) := by decide +kernel
theorem d_law_1153 : decode code 1153 = .ok (.ireturn, 1) := by decide +kernel
theorem d_law_1154 : decode code 1154 = .ok (.iload 6, 2) := by decide +kernel
theorem d_law_1156 : decode code 1156 = .ok (.ifCond .ne 15, 3) := by decide +kernel
theorem d_law_1159 : decode code 1159 = .ok (.aload_n 3, 1) := by decide +kernel
theorem d_law_1160 : decode code 1160 = .ok (.iconst 0, 1) := by decide +kernel
theorem d_law_1161 : decode code 1161 = .ok (.laload, 1) := by decide +kernel
theorem d_law_1162 : decode code 1162 = .ok (.iload 7, 2) := by decide +kernel
theorem d_law_1164 : decode code 1164 = .ok (.i2l, 1) := by decide +kernel
theorem d_law_1165 : decode code 1165 = .ok (.lcmp, 1) := by decide +kernel
theorem d_law_1166 : decode code 1166 = .ok (.ifCond .eq 5, 3) := by decide +kernel
theorem d_law_1169 : decode code 1169 = .ok (.iconst 0, 1) := by decide +kernel
theorem d_law_1170 : decode code 1170 = .ok (.ireturn, 1) := by decide +kernel
theorem d_law_1171 : decode code 1171 = .ok (.goto 3, 3) := by decide +kernel
theorem d_law_1174 : decode code 1174 = .ok (.iinc 5 5, 3) := by decide +kernel
theorem d_law_1177 : decode code 1177 = .ok (.goto (-1149), 3) := by decide +kernel
theorem d_law_1180 : decode code 1180 = .ok (.iconst 1, 1) := by decide +kernel
theorem d_law_1181 : decode code 1181 = .ok (.ireturn, 1) := by decide +kernel
end
section
/-! THE LAYER: memory by positions (cell k of ours lies at address b + k), a judgement vs_G over it, a row an instruction -/
abbrev vs_C : Type := (Nat × vp_A) ⊕ (Nat × List Value)
/-- a value by position: '.ref k' is our cell k; '.retAddr a' is the address a itself (the script) -/
def vs_v (b : Nat) (v : Value) : Value := match v with
  | .ref k => .ref (b + k)
  | .retAddr a => .ref a
  | w => w
theorem vs_v_cat (b : Nat) (v : Value) : (vs_v b v).category = v.category := by cases v <;> rfl
def vs_c (b : Nat) (aC : Nat → ClassId) (x : vs_C) : va_E := match x with
  | .inl q => .inl (aC q.1, q.2)
  | .inr q => .inr (q.1, q.2.map (vs_v b))
def vs_w (b : Nat) (aC : Nat → ClassId) : Nat → List vs_C → va_W
  | _, [] => []
  | k, x :: r => (b + k, vs_c b aC x) :: vs_w b aC (k + 1) r
theorem vs_w_get (b : Nat) (aC : Nat → ClassId) : ∀ (mem : List vs_C) (k i : Nat), (vs_w b aC k mem)[i]? = (mem[i]?).map (fun x => (b + (k + i), vs_c b aC x))
  | [], k, i => by simp [vs_w]
  | x :: r, k, 0 => by simp [vs_w]
  | x :: r, k, i + 1 => by
    have h := vs_w_get b aC r (k + 1) i
    have e : k + 1 + i = k + (i + 1) := by omega
    rw [e] at h
    simpa [vs_w] using h
theorem vs_w_len (b : Nat) (aC : Nat → ClassId) : ∀ (mem : List vs_C) (k : Nat), (vs_w b aC k mem).length = mem.length
  | [], k => rfl
  | x :: r, k => by simp [vs_w, vs_w_len b aC r (k + 1)]
theorem vs_w_set (b : Nat) (aC : Nat → ClassId) (y : vs_C) : ∀ (mem : List vs_C) (k i : Nat), vs_w b aC k (mem.set i y) = (vs_w b aC k mem).set i (b + (k + i), vs_c b aC y)
  | [], k, i => by simp [vs_w]
  | x :: r, k, 0 => by simp [vs_w]
  | x :: r, k, i + 1 => by
    have h := vs_w_set b aC y r (k + 1) i
    have e : k + 1 + i = k + (i + 1) := by omega
    rw [e] at h
    simp [vs_w, h]
theorem vs_w_app (b : Nat) (aC : Nat → ClassId) (y : vs_C) : ∀ (mem : List vs_C) (k : Nat), vs_w b aC k (mem ++ [y]) = vs_w b aC k mem ++ [(b + (k + mem.length), vs_c b aC y)]
  | [], k => by simp [vs_w]
  | x :: r, k => by
    have h := vs_w_app b aC y r (k + 1)
    have e : k + 1 + r.length = k + (r.length + 1) := by omega
    rw [e] at h
    simp [vs_w, h]
theorem vs_w_at {b : Nat} {aC : Nat → ClassId} {mem : List vs_C} {i : Nat} {x : vs_C} (h : mem[i]? = some x) : (vs_w b aC 0 mem)[i]? = some (b + i, vs_c b aC x) := by
  rw [vs_w_get, h]
  simp
theorem vs_w_D {b : Nat} {aC : Nat → ClassId} {mem : List vs_C} : va_D (fun q => b ≤ q) (vs_w b aC 0 mem) := by
  refine ⟨fun i j x y hi hj hxy => ?_, fun k q hk => ?_⟩
  · rw [vs_w_get] at hi hj
    cases h1 : mem[i]? with
    | none => rw [h1] at hi; simp at hi
    | some u =>
      cases h2 : mem[j]? with
      | none => rw [h2] at hj; simp at hj
      | some v =>
        rw [h1] at hi; rw [h2] at hj
        simp only [Option.map_some, Option.some.injEq] at hi hj
        subst hi; subst hj
        simp only at hxy
        omega
  · rw [vs_w_get] at hk
    cases h1 : mem[k]? with
    | none => rw [h1] at hk; simp at hk
    | some u =>
      rw [h1] at hk
      simp only [Option.map_some, Option.some.injEq] at hk
      subst hk
      show b ≤ b + (0 + k)
      omega
/-- the array classes: 0 int, 1 long, 2 float, 3 boolean, 4 double -/
def vs_t (aC : Nat → ClassId) : List (ClassId × FieldType) := [(aC 0, .int), (aC 1, .long), (aC 2, .float), (aC 3, .boolean), (aC 4, .double)]
/-- a static of Throwable holds a reference or null, in a cell that is none of ours -/
def vs_Zs (b : Nat) (n d : String) (U : State) (H : Heap) : Prop := ∃ (cT : ClassId) (k : Class) (i : Nat) (f : Field) (a : Nat) (cell : Cell) (v : Value), U.vm.findClass "java/lang/Throwable" = some cT ∧ U.fieldFound? "java/lang/Throwable" n d = some (cT, k, i, f) ∧ f.isStatic = true ∧ k.statics = some a ∧ H[a]? = some cell ∧ cell.vm.isStatics = true ∧ cell.cls = cT ∧ f.slot < cell.slots.size ∧ k.staticTypes[f.slot]? = some f.type ∧ cell.slots[f.slot]? = some v ∧ (v = .null ∨ ∃ t, v = .ref t) ∧ a < b
theorem vs_Zs.moved {b : Nat} {n d : String} {u U : State} {H H1 : Heap} (h : vs_Zs b n d u H) (hvm : u.vm.Alike U.vm) (hq : ∀ a : Nat, a < b → H1[a]? = H[a]?) : vs_Zs b n d U H1 := by
  obtain ⟨cT, k, i, f, a, cell, v, h1, h2, h3, h4, h5, h6, h7, h8, h9, h10, h11, h12⟩ := h
  obtain ⟨k', hi', he⟩ := State.fieldFound?_setVm hvm h2
  exact ⟨cT, k', i, f, a, cell, v, by rw [hvm.findClass]; exact h1, hi', h3, by rw [he]; exact h4, by rw [hq a h12]; exact h5, h6, h7, h8, by rw [he]; exact h9, h10, h11, h12⟩
/-- an exception of the class x isn't one of the class y -/
def vs_nc (x y : String) (U : State) : Prop := ∀ ca cb : ClassId, U.vm.findClass x = some ca → U.vm.findClass y = some cb → U.vm.assignable ca cb = false
theorem vs_nc.moved {x y : String} {u U : State} (hvm : u.vm.Alike U.vm) (h : vs_nc x y u) : vs_nc x y U := fun ca cb h1 h2 => by
  rw [hvm.findClass] at h1 h2
  rw [hvm.assignable]
  exact h ca cb h1 h2
def vs_nC (U : State) : Prop := vs_nc "java/lang/IllegalStateException" "java/lang/IllegalArgumentException" U ∧ vs_nc "java/util/NoSuchElementException" "java/lang/IllegalArgumentException" U ∧ vs_nc "java/lang/UnsupportedOperationException" "java/lang/IllegalArgumentException" U ∧ vs_nc "java/lang/UnsupportedOperationException" "java/util/NoSuchElementException" U
/-- what the start gives of the exceptions -/
def vs_Z (b : Nat) (U : State) (H : Heap) : Prop := vs_Zs b "UNASSIGNED_STACK" "[Ljava/lang/StackTraceElement;" U H ∧ vs_Zs b "SUPPRESSED_SENTINEL" "Ljava/util/List;" U H ∧ vs_nC U
theorem vs_Z.moved {b : Nat} {u U : State} {H H1 : Heap} (h : vs_Z b u H) (hvm : u.vm.Alike U.vm) (hq : ∀ a : Nat, a < b → H1[a]? = H[a]?) : vs_Z b U H1 := ⟨h.1.moved hvm hq, h.2.1.moved hvm hq, h.2.2.1.moved hvm, h.2.2.2.1.moved hvm, h.2.2.2.2.1.moved hvm, h.2.2.2.2.2.moved hvm⟩
/-- what stands for the whole of a method's walk -/
def vs_X (p : Program) (s : State) (m : MethodId) (args : Array Value) (meth : Method) (c : Code) (b : Nat) (D : va_G) (aC : Nat → ClassId) (own : String) (cc : ByteArray) (nL : Nat) : Prop :=
  p.tables.exec = Jvm.exec ∧ c.code = cc ∧ c.maxLocals = nL ∧ s.vm.findClass own = some m.cls ∧ (∀ w ∈ gT, w.before args s = true) ∧ va_K D vwCl (vs_t aC) s ∧ b ≤ s.heap.size ∧ meth.locks = false ∧ vs_Z b s s.heap ∧ (∀ w ∈ gN, va_Nw w s)
/-- the locals, by index -/
def vs_l (b : Nat) (ls : Array Slot) (nL : Nat) (lv : List (Option Value)) : Prop := ls.size = nL ∧ lv_wf ls ∧ ∀ (i : Nat) (v : Value), lv[i]? = some (some v) → ls[i]? = some (.val (vs_v b v))
/-- THE JUDGEMENT: the machine at pc with these locals, this stack and this memory comes to a state with Q -/
def vs_G (p : Program) (l : Launch) (e : Env) (R : Room) (s : State) (m : MethodId) (args : Array Value) (below : List Frame) (meth : Method) (c : Code) (b : Nat) (D : va_G) (aC : Nat → ClassId) (nL : Nat) (Q : State → Prop) (kc ks : Nat) (ck : Bool) (mem : List vs_C) (pc : Nat) (lv : List (Option Value)) (st : List Value) : Prop :=
  ∀ (H : Heap) (locs : List Loc) (ls : Array Slot), va_P D vwCl (vs_w b aC 0 mem) H → va_S (fun q => b ≤ q) s.heap H locs → (ck = true → ∀ q : Nat, q < s.heap.size → H[q]? = s.heap[q]?) → vs_l b ls nL lv → W p l e R s m args below meth c H locs kc ks Q (F0 m pc ls (st.map (vs_v b)))
/-- the listed values as the kit lists them -/
def vs_a (b : Nat) (lv : List (Option Value)) : List (Nat × Value) := (List.range lv.length).filterMap (fun j => (lv[j]?).bind (fun o => o.map (fun v => (j, vs_v b v))))
theorem vs_a_in {b : Nat} {lv : List (Option Value)} {j : Nat} {w : Value} : (j, w) ∈ vs_a b lv ↔ ∃ v, lv[j]? = some (some v) ∧ w = vs_v b v := by
  constructor
  · intro h
    obtain ⟨i, -, hi⟩ := List.mem_filterMap.mp h
    cases h1 : lv[i]? with
    | none => rw [h1] at hi; simp at hi
    | some o =>
      cases o with
      | none => rw [h1] at hi; simp at hi
      | some v =>
        rw [h1] at hi
        simp only [Option.bind_some, Option.map_some, Option.some.injEq, Prod.mk.injEq] at hi
        obtain ⟨rfl, rfl⟩ := hi
        exact ⟨v, h1, rfl⟩
  · rintro ⟨v, h, rfl⟩
    refine List.mem_filterMap.mpr ⟨j, List.mem_range.mpr (List.getElem?_eq_some_iff.mp h).1, ?_⟩
    rw [h]
    rfl
theorem vs_l_has {b : Nat} {ls : Array Slot} {nL : Nat} {lv : List (Option Value)} (h : vs_l b ls nL lv) : lv_has ls nL (vs_a b lv) := by
  refine ⟨h.1, h.2.1, fun q hq => ?_⟩
  obtain ⟨j, w⟩ := q
  obtain ⟨v, h1, rfl⟩ := vs_a_in.mp hq
  exact h.2.2 j v h1
/-- a store at i spoils a long that stands just before -/
def vs_k (lv : List (Option Value)) (i : Nat) : List (Option Value) := match i with
  | 0 => lv
  | j + 1 => match lv[j]? with
    | some (some w) => if w.category = 2 then lv.set j none else lv
    | _ => lv
def vs_s1 (lv : List (Option Value)) (i : Nat) (v : Value) : List (Option Value) := (vs_k lv i).set i (some v)
def vs_s2 (lv : List (Option Value)) (i : Nat) (v : Value) : List (Option Value) := ((vs_k lv i).set i (some v)).set (i + 1) none
theorem vs_k_get {lv : List (Option Value)} {i j : Nat} {w : Value} (h : (vs_k lv i)[j]? = some (some w)) : lv[j]? = some (some w) ∧ ¬ (j + 1 = i ∧ w.category = 2) := by
  cases i with
  | zero => exact ⟨h, fun q => by omega⟩
  | succ n =>
    simp only [vs_k] at h
    cases h1 : lv[n]? with
    | none =>
      rw [h1] at h
      refine ⟨h, fun q => ?_⟩
      have : j = n := by omega
      subst this
      rw [h1] at h; cases h
    | some o =>
      cases o with
      | none =>
        rw [h1] at h
        refine ⟨h, fun q => ?_⟩
        have : j = n := by omega
        subst this
        rw [h1] at h; cases h
      | some u =>
        rw [h1] at h
        simp only at h
        by_cases hc : u.category = 2
        · rw [if_pos hc] at h
          by_cases hj : j = n
          · subst hj
            rw [List.getElem?_set_self (List.getElem?_eq_some_iff.mp h1).1] at h
            cases h
          · rw [List.getElem?_set_ne (Ne.symm hj)] at h
            exact ⟨h, fun q => hj (by omega)⟩
        · rw [if_neg hc] at h
          refine ⟨h, fun q => ?_⟩
          have : j = n := by omega
          subst this
          rw [h1] at h
          cases h
          exact hc q.2
theorem vs_st1 {b : Nat} {ls : Array Slot} {nL i : Nat} {lv : List (Option Value)} {v : Value} (h : lv_has ls nL ((i, vs_v b v) :: (vs_a b lv).filter (fun q => !(q.1 == i) && !(q.1 + 1 == i && q.2.category == 2)))) : vs_l b ls nL (vs_s1 lv i v) := by
  refine ⟨h.1, h.2.1, fun j w hj => ?_⟩
  by_cases hji : j = i
  · subst hji
    have hlt : j < (vs_k lv j).length := by
      have := (List.getElem?_eq_some_iff.mp hj).1
      simpa [vs_s1] using this
    rw [vs_s1, List.getElem?_set_self hlt] at hj
    cases hj
    exact h.2.2 (j, vs_v b v) List.mem_cons_self
  · rw [vs_s1, List.getElem?_set_ne (Ne.symm hji)] at hj
    obtain ⟨h1, h2⟩ := vs_k_get hj
    refine h.2.2 (j, vs_v b w) (List.mem_cons_of_mem _ (List.mem_filter.mpr ⟨vs_a_in.mpr ⟨w, h1, rfl⟩, ?_⟩))
    simp only [vs_v_cat, Bool.and_eq_true, Bool.not_eq_true', beq_eq_false_iff_ne, ne_eq]
    refine ⟨hji, ?_⟩
    by_cases hc : j + 1 = i
    · have : ¬ w.category = 2 := fun q => h2 ⟨hc, q⟩
      simp [this]
    · simp [hc]
theorem vs_st2 {b : Nat} {ls : Array Slot} {nL i : Nat} {lv : List (Option Value)} {v : Value} (h : lv_has ls nL ((i, vs_v b v) :: (vs_a b lv).filter (fun q => !(q.1 == i) && (!(q.1 == i + 1) && !(q.1 + 1 == i && q.2.category == 2))))) : vs_l b ls nL (vs_s2 lv i v) := by
  refine ⟨h.1, h.2.1, fun j w hj => ?_⟩
  by_cases hj1 : j = i + 1
  · subst hj1
    have hlt := (List.getElem?_eq_some_iff.mp hj).1
    rw [vs_s2, List.getElem?_set_self (by simpa [vs_s2] using hlt)] at hj
    cases hj
  · rw [vs_s2, List.getElem?_set_ne (Ne.symm hj1)] at hj
    by_cases hji : j = i
    · subst hji
      have hlt := (List.getElem?_eq_some_iff.mp hj).1
      rw [List.getElem?_set_self (by simpa using hlt)] at hj
      cases hj
      exact h.2.2 (j, vs_v b v) List.mem_cons_self
    · rw [List.getElem?_set_ne (Ne.symm hji)] at hj
      obtain ⟨h1, h2⟩ := vs_k_get hj
      refine h.2.2 (j, vs_v b w) (List.mem_cons_of_mem _ (List.mem_filter.mpr ⟨vs_a_in.mpr ⟨w, h1, rfl⟩, ?_⟩))
      simp only [vs_v_cat, Bool.and_eq_true, Bool.not_eq_true', beq_eq_false_iff_ne, ne_eq]
      refine ⟨hji, hj1, ?_⟩
      by_cases hc : j + 1 = i
      · have : ¬ w.category = 2 := fun q => h2 ⟨hc, q⟩
        simp [this]
      · simp [hc]
/-- a method's first locals -/
def vs_e : List Value → List (Option Value)
  | [] => []
  | v :: r => if v.category = 2 then some v :: none :: vs_e r else some v :: vs_e r
theorem vs_e_in {b : Nat} : ∀ (av : List Value) (k j : Nat) (v : Value), (vs_e av)[j]? = some (some v) → (k + j, vs_v b v) ∈ lv_args k (av.map (vs_v b))
  | [], k, j, v, h => by simp [vs_e] at h
  | u :: r, k, j, v, h => by
    by_cases hc : u.category = 2
    · simp only [vs_e, if_pos hc] at h
      simp only [List.map_cons, lv_args, vs_v_cat, if_pos hc]
      match j, h with
      | 0, h => simp at h; subst h; simp
      | 1, h => simp at h
      | j + 2, h =>
        have h' : (vs_e r)[j]? = some (some v) := by simpa using h
        have := vs_e_in (b := b) r (k + 2) j v h'
        have e : k + 2 + j = k + (j + 2) := by omega
        rw [e] at this
        exact List.mem_cons_of_mem _ this
    · simp only [vs_e, if_neg hc] at h
      simp only [List.map_cons, lv_args, vs_v_cat, if_neg hc]
      match j, h with
      | 0, h => simp at h; subst h; simp
      | j + 1, h =>
        have h' : (vs_e r)[j]? = some (some v) := by simpa using h
        have := vs_e_in (b := b) r (k + 1) j v h'
        have e : k + 1 + j = k + (j + 1) := by omega
        rw [e] at this
        exact List.mem_cons_of_mem _ this
/-- with room for the rest -/
def vs_e0 (nL : Nat) (av : List Value) : List (Option Value) := vs_e av ++ List.replicate (nL - (vs_e av).length) none
theorem vs_entry {b nL : Nat} {av : List Value} (h : (vs_e av).length ≤ nL) : vs_l b ((lg_sl (av.map (vs_v b)) ++ List.replicate (nL - (lg_sl (av.map (vs_v b))).length) Slot.unset).toArray) nL (vs_e0 nL av) := by
  have hlen : ∀ r : List Value, (lg_sl (r.map (vs_v b))).length = (vs_e r).length := by
    intro r
    induction r with
    | nil => rfl
    | cons u r ih =>
      have e : lg_sl ((u :: r).map (vs_v b)) = (if (vs_v b u).category = 2 then [Slot.val (vs_v b u), .second] else [.val (vs_v b u)]) ++ lg_sl (r.map (vs_v b)) := rfl
      rw [e, vs_v_cat]
      by_cases hc : u.category = 2
      · simp [vs_e, hc, ih]
      · simp [vs_e, hc, ih]
  have hl := lv_entry (av.map (vs_v b)) (n := nL) (by rw [hlen]; exact h)
  refine ⟨hl.1, hl.2.1, fun j v hj => ?_⟩
  have h2 : (vs_e av)[j]? = some (some v) := by
    by_cases hlt : j < (vs_e av).length
    · rw [vs_e0, List.getElem?_append_left hlt] at hj
      exact hj
    · rw [vs_e0, List.getElem?_append_right (by omega)] at hj
      have := List.mem_of_getElem? hj
      simp at this
  have h3 := vs_e_in (b := b) av 0 j v h2
  rw [Nat.zero_add] at h3
  exact hl.2.2 _ h3
end
section
section Rows
variable {p : Program} {l : Launch} {e : Env} {R : Room} {s : State} {m : MethodId} {args : Array Value} {below : List Frame} {meth : Method} {c : Code} {b : Nat} {D : va_G} {aC : Nat → ClassId} {nL : Nat} {Q : State → Prop} {kc ks : Nat} {ck : Bool} {mem : List vs_C} {pc : Nat} {lv : List (Option Value)} {st : List Value} {own : String} {cc : ByteArray}
theorem vs_iconst (C : vs_X p s m args meth c b D aC own cc nL) {n : Int} {v : Int32} (hv : Int32.ofInt n = v) (hd : decode cc pc = .ok (.iconst n, 1)) (k : vs_G p l e R s m args below meth c b D aC nL Q kc ks ck mem (pc + 1) lv (.int v :: st)) : vs_G p l e R s m args below meth c b D aC nL Q kc ks ck mem (pc) lv st := fun H locs ls hP hS hk hl => lv_iconst C.1 C.2.1 hd hv (k H locs ls hP hS hk hl)
theorem vs_bipush (C : vs_X p s m args meth c b D aC own cc nL) {n : Int} {v : Int32} (hv : (Int8.ofInt n).toInt32 = v) (hd : decode cc pc = .ok (.bipush n, 2)) (k : vs_G p l e R s m args below meth c b D aC nL Q kc ks ck mem (pc + 2) lv (.int v :: st)) : vs_G p l e R s m args below meth c b D aC nL Q kc ks ck mem (pc) lv st := fun H locs ls hP hS hk hl => lv_bipush C.1 C.2.1 hd hv (k H locs ls hP hS hk hl)
theorem vs_sipush (C : vs_X p s m args meth c b D aC own cc nL) {n : Int} {v : Int32} (hv : (Int16.ofInt n).toInt32 = v) (hd : decode cc pc = .ok (.sipush n, 3)) (k : vs_G p l e R s m args below meth c b D aC nL Q kc ks ck mem (pc + 3) lv (.int v :: st)) : vs_G p l e R s m args below meth c b D aC nL Q kc ks ck mem (pc) lv st := fun H locs ls hP hS hk hl => lv_sipush C.1 C.2.1 hd hv (k H locs ls hP hS hk hl)
theorem vs_lconst (C : vs_X p s m args meth c b D aC own cc nL) {n : Fin 2} {v : Int64} (hv : Int64.ofNat (n : Nat) = v) (hd : decode cc pc = .ok (.lconst n, 1)) (k : vs_G p l e R s m args below meth c b D aC nL Q kc ks ck mem (pc + 1) lv (.long v :: st)) : vs_G p l e R s m args below meth c b D aC nL Q kc ks ck mem (pc) lv st := fun H locs ls hP hS hk hl => lv_lconst C.1 C.2.1 hd hv (k H locs ls hP hS hk hl)
theorem vs_fconst0 (C : vs_X p s m args meth c b D aC own cc nL)  (hd : decode cc pc = .ok (.fconst 0, 1)) (k : vs_G p l e R s m args below meth c b D aC nL Q kc ks ck mem (pc + 1) lv (.float FP.fconst0 :: st)) : vs_G p l e R s m args below meth c b D aC nL Q kc ks ck mem (pc) lv st := fun H locs ls hP hS hk hl => lv_fconst0 C.1 C.2.1 hd (k H locs ls hP hS hk hl)
theorem vs_dconst0 (C : vs_X p s m args meth c b D aC own cc nL)  (hd : decode cc pc = .ok (.dconst 0, 1)) (k : vs_G p l e R s m args below meth c b D aC nL Q kc ks ck mem (pc + 1) lv (.double FP.dconst0 :: st)) : vs_G p l e R s m args below meth c b D aC nL Q kc ks ck mem (pc) lv st := fun H locs ls hP hS hk hl => lv_dconst0 C.1 C.2.1 hd (k H locs ls hP hS hk hl)
theorem vs_ldcf (C : vs_X p s m args meth c b D aC own cc nL) {i : Nat} {v : UInt32} (hw : Cond.constantFloat own i v ∈ gT) (hd : decode cc pc = .ok (.ldc i, 2)) (k : vs_G p l e R s m args below meth c b D aC nL Q kc ks ck mem (pc + 2) lv (.float v :: st)) : vs_G p l e R s m args below meth c b D aC nL Q kc ks ck mem (pc) lv st := fun H locs ls hP hS hk hl => lv_ldcf C.1 C.2.1 C.2.2.2.1 (C.2.2.2.2.1 _ hw) hd (k H locs ls hP hS hk hl)
theorem vs_ldc2 (C : vs_X p s m args meth c b D aC own cc nL) {i : Nat} {v : Int64} (hw : Cond.constantLong own i v ∈ gT) (hd : decode cc pc = .ok (.ldc2_w i, 3)) (k : vs_G p l e R s m args below meth c b D aC nL Q kc ks ck mem (pc + 3) lv (.long v :: st)) : vs_G p l e R s m args below meth c b D aC nL Q kc ks ck mem (pc) lv st := fun H locs ls hP hS hk hl => lv_ldc2 C.1 C.2.1 C.2.2.2.1 (C.2.2.2.2.1 _ hw) hd (k H locs ls hP hS hk hl)
theorem vs_ldc2d (C : vs_X p s m args meth c b D aC own cc nL) {i : Nat} {v : UInt64} (hw : Cond.constantDouble own i v ∈ gT) (hd : decode cc pc = .ok (.ldc2_w i, 3)) (k : vs_G p l e R s m args below meth c b D aC nL Q kc ks ck mem (pc + 3) lv (.double v :: st)) : vs_G p l e R s m args below meth c b D aC nL Q kc ks ck mem (pc) lv st := fun H locs ls hP hS hk hl => lv_ldc2d C.1 C.2.1 C.2.2.2.1 (C.2.2.2.2.1 _ hw) hd (k H locs ls hP hS hk hl)
theorem vs_iload_n (C : vs_X p s m args meth c b D aC own cc nL) {i : Fin 4} {x : Int32} (hx : lv[(i : Nat)]? = some (some (.int x))) (hd : decode cc pc = .ok (.iload_n i, 1)) (k : vs_G p l e R s m args below meth c b D aC nL Q kc ks ck mem (pc + 1) lv (.int x :: st)) : vs_G p l e R s m args below meth c b D aC nL Q kc ks ck mem (pc) lv st := fun H locs ls hP hS hk hl => lv_iload_n C.1 C.2.1 hd rfl (hl.2.2 _ _ hx) (k H locs ls hP hS hk hl)
theorem vs_iload (C : vs_X p s m args meth c b D aC own cc nL) {i : Nat} {x : Int32} (hx : lv[i]? = some (some (.int x))) (hd : decode cc pc = .ok (.iload i, 2)) (k : vs_G p l e R s m args below meth c b D aC nL Q kc ks ck mem (pc + 2) lv (.int x :: st)) : vs_G p l e R s m args below meth c b D aC nL Q kc ks ck mem (pc) lv st := fun H locs ls hP hS hk hl => lv_iload C.1 C.2.1 hd (hl.2.2 _ _ hx) (k H locs ls hP hS hk hl)
theorem vs_lload_n (C : vs_X p s m args meth c b D aC own cc nL) {i : Fin 4} {x : Int64} (hx : lv[(i : Nat)]? = some (some (.long x))) (hd : decode cc pc = .ok (.lload_n i, 1)) (k : vs_G p l e R s m args below meth c b D aC nL Q kc ks ck mem (pc + 1) lv (.long x :: st)) : vs_G p l e R s m args below meth c b D aC nL Q kc ks ck mem (pc) lv st := fun H locs ls hP hS hk hl => lv_lload_n C.1 C.2.1 hd rfl (hl.2.2 _ _ hx) (k H locs ls hP hS hk hl)
theorem vs_lload (C : vs_X p s m args meth c b D aC own cc nL) {i : Nat} {x : Int64} (hx : lv[i]? = some (some (.long x))) (hd : decode cc pc = .ok (.lload i, 2)) (k : vs_G p l e R s m args below meth c b D aC nL Q kc ks ck mem (pc + 2) lv (.long x :: st)) : vs_G p l e R s m args below meth c b D aC nL Q kc ks ck mem (pc) lv st := fun H locs ls hP hS hk hl => lv_lload C.1 C.2.1 hd (hl.2.2 _ _ hx) (k H locs ls hP hS hk hl)
theorem vs_fload_n (C : vs_X p s m args meth c b D aC own cc nL) {i : Fin 4} {x : UInt32} (hx : lv[(i : Nat)]? = some (some (.float x))) (hd : decode cc pc = .ok (.fload_n i, 1)) (k : vs_G p l e R s m args below meth c b D aC nL Q kc ks ck mem (pc + 1) lv (.float x :: st)) : vs_G p l e R s m args below meth c b D aC nL Q kc ks ck mem (pc) lv st := fun H locs ls hP hS hk hl => lv_fload_n C.1 C.2.1 hd rfl (hl.2.2 _ _ hx) (k H locs ls hP hS hk hl)
theorem vs_fload (C : vs_X p s m args meth c b D aC own cc nL) {i : Nat} {x : UInt32} (hx : lv[i]? = some (some (.float x))) (hd : decode cc pc = .ok (.fload i, 2)) (k : vs_G p l e R s m args below meth c b D aC nL Q kc ks ck mem (pc + 2) lv (.float x :: st)) : vs_G p l e R s m args below meth c b D aC nL Q kc ks ck mem (pc) lv st := fun H locs ls hP hS hk hl => lv_fload C.1 C.2.1 hd (hl.2.2 _ _ hx) (k H locs ls hP hS hk hl)
theorem vs_dload_n (C : vs_X p s m args meth c b D aC own cc nL) {i : Fin 4} {x : UInt64} (hx : lv[(i : Nat)]? = some (some (.double x))) (hd : decode cc pc = .ok (.dload_n i, 1)) (k : vs_G p l e R s m args below meth c b D aC nL Q kc ks ck mem (pc + 1) lv (.double x :: st)) : vs_G p l e R s m args below meth c b D aC nL Q kc ks ck mem (pc) lv st := fun H locs ls hP hS hk hl => lv_dload_n C.1 C.2.1 hd rfl (hl.2.2 _ _ hx) (k H locs ls hP hS hk hl)
theorem vs_dload (C : vs_X p s m args meth c b D aC own cc nL) {i : Nat} {x : UInt64} (hx : lv[i]? = some (some (.double x))) (hd : decode cc pc = .ok (.dload i, 2)) (k : vs_G p l e R s m args below meth c b D aC nL Q kc ks ck mem (pc + 2) lv (.double x :: st)) : vs_G p l e R s m args below meth c b D aC nL Q kc ks ck mem (pc) lv st := fun H locs ls hP hS hk hl => lv_dload C.1 C.2.1 hd (hl.2.2 _ _ hx) (k H locs ls hP hS hk hl)
theorem vs_aload_n (C : vs_X p s m args meth c b D aC own cc nL) {i : Fin 4} {x : Nat} (hx : lv[(i : Nat)]? = some (some (.ref x))) (hd : decode cc pc = .ok (.aload_n i, 1)) (k : vs_G p l e R s m args below meth c b D aC nL Q kc ks ck mem (pc + 1) lv (.ref x :: st)) : vs_G p l e R s m args below meth c b D aC nL Q kc ks ck mem (pc) lv st := fun H locs ls hP hS hk hl => lv_aload_n C.1 C.2.1 hd rfl (hl.2.2 _ _ hx) (k H locs ls hP hS hk hl)
theorem vs_aload (C : vs_X p s m args meth c b D aC own cc nL) {i : Nat} {x : Nat} (hx : lv[i]? = some (some (.ref x))) (hd : decode cc pc = .ok (.aload i, 2)) (k : vs_G p l e R s m args below meth c b D aC nL Q kc ks ck mem (pc + 2) lv (.ref x :: st)) : vs_G p l e R s m args below meth c b D aC nL Q kc ks ck mem (pc) lv st := fun H locs ls hP hS hk hl => lv_aload C.1 C.2.1 hd (hl.2.2 _ _ hx) (k H locs ls hP hS hk hl)
theorem vs_aload_nA (C : vs_X p s m args meth c b D aC own cc nL) {i : Fin 4} {x : Nat} (hx : lv[(i : Nat)]? = some (some (.retAddr x))) (hd : decode cc pc = .ok (.aload_n i, 1)) (k : vs_G p l e R s m args below meth c b D aC nL Q kc ks ck mem (pc + 1) lv (.retAddr x :: st)) : vs_G p l e R s m args below meth c b D aC nL Q kc ks ck mem (pc) lv st := fun H locs ls hP hS hk hl => lv_aload_n C.1 C.2.1 hd rfl (hl.2.2 _ _ hx) (k H locs ls hP hS hk hl)
theorem vs_istore_n (C : vs_X p s m args meth c b D aC own cc nL) {i : Fin 4} {x : Int32} (hd : decode cc pc = .ok (.istore_n i, 1)) (hn : (i : Nat) < nL) (k : vs_G p l e R s m args below meth c b D aC nL Q kc ks ck mem (pc + 1) (vs_s1 lv (i : Nat) (.int x)) st) : vs_G p l e R s m args below meth c b D aC nL Q kc ks ck mem (pc) lv (.int x :: st) := fun H locs ls hP hS hk hl => lv_istore_n C.1 C.2.1 hd rfl (vs_l_has hl) hn rfl (fun ls' hl' => k H locs ls' hP hS hk (vs_st1 (b := b) (v := .int x) hl'))
theorem vs_istore (C : vs_X p s m args meth c b D aC own cc nL) {i : Nat} {x : Int32} (hd : decode cc pc = .ok (.istore i, 2)) (hn : i < nL) (k : vs_G p l e R s m args below meth c b D aC nL Q kc ks ck mem (pc + 2) (vs_s1 lv i (.int x)) st) : vs_G p l e R s m args below meth c b D aC nL Q kc ks ck mem (pc) lv (.int x :: st) := fun H locs ls hP hS hk hl => lv_istore C.1 C.2.1 hd (vs_l_has hl) hn rfl (fun ls' hl' => k H locs ls' hP hS hk (vs_st1 (b := b) (v := .int x) hl'))
theorem vs_lstore_n (C : vs_X p s m args meth c b D aC own cc nL) {i : Fin 4} {x : Int64} (hd : decode cc pc = .ok (.lstore_n i, 1)) (hn : (i : Nat) + 1 < nL) (k : vs_G p l e R s m args below meth c b D aC nL Q kc ks ck mem (pc + 1) (vs_s2 lv (i : Nat) (.long x)) st) : vs_G p l e R s m args below meth c b D aC nL Q kc ks ck mem (pc) lv (.long x :: st) := fun H locs ls hP hS hk hl => lv_lstore_n C.1 C.2.1 hd rfl (vs_l_has hl) hn rfl (fun ls' hl' => k H locs ls' hP hS hk (vs_st2 (b := b) (v := .long x) hl'))
theorem vs_lstore (C : vs_X p s m args meth c b D aC own cc nL) {i : Nat} {x : Int64} (hd : decode cc pc = .ok (.lstore i, 2)) (hn : i + 1 < nL) (k : vs_G p l e R s m args below meth c b D aC nL Q kc ks ck mem (pc + 2) (vs_s2 lv i (.long x)) st) : vs_G p l e R s m args below meth c b D aC nL Q kc ks ck mem (pc) lv (.long x :: st) := fun H locs ls hP hS hk hl => lv_lstore C.1 C.2.1 hd (vs_l_has hl) hn rfl (fun ls' hl' => k H locs ls' hP hS hk (vs_st2 (b := b) (v := .long x) hl'))
theorem vs_fstore_n (C : vs_X p s m args meth c b D aC own cc nL) {i : Fin 4} {x : UInt32} (hd : decode cc pc = .ok (.fstore_n i, 1)) (hn : (i : Nat) < nL) (k : vs_G p l e R s m args below meth c b D aC nL Q kc ks ck mem (pc + 1) (vs_s1 lv (i : Nat) (.float x)) st) : vs_G p l e R s m args below meth c b D aC nL Q kc ks ck mem (pc) lv (.float x :: st) := fun H locs ls hP hS hk hl => lv_fstore_n C.1 C.2.1 hd rfl (vs_l_has hl) hn rfl (fun ls' hl' => k H locs ls' hP hS hk (vs_st1 (b := b) (v := .float x) hl'))
theorem vs_fstore (C : vs_X p s m args meth c b D aC own cc nL) {i : Nat} {x : UInt32} (hd : decode cc pc = .ok (.fstore i, 2)) (hn : i < nL) (k : vs_G p l e R s m args below meth c b D aC nL Q kc ks ck mem (pc + 2) (vs_s1 lv i (.float x)) st) : vs_G p l e R s m args below meth c b D aC nL Q kc ks ck mem (pc) lv (.float x :: st) := fun H locs ls hP hS hk hl => lv_fstore C.1 C.2.1 hd (vs_l_has hl) hn rfl (fun ls' hl' => k H locs ls' hP hS hk (vs_st1 (b := b) (v := .float x) hl'))
theorem vs_dstore_n (C : vs_X p s m args meth c b D aC own cc nL) {i : Fin 4} {x : UInt64} (hd : decode cc pc = .ok (.dstore_n i, 1)) (hn : (i : Nat) + 1 < nL) (k : vs_G p l e R s m args below meth c b D aC nL Q kc ks ck mem (pc + 1) (vs_s2 lv (i : Nat) (.double x)) st) : vs_G p l e R s m args below meth c b D aC nL Q kc ks ck mem (pc) lv (.double x :: st) := fun H locs ls hP hS hk hl => lv_dstore_n C.1 C.2.1 hd rfl (vs_l_has hl) hn rfl (fun ls' hl' => k H locs ls' hP hS hk (vs_st2 (b := b) (v := .double x) hl'))
theorem vs_dstore (C : vs_X p s m args meth c b D aC own cc nL) {i : Nat} {x : UInt64} (hd : decode cc pc = .ok (.dstore i, 2)) (hn : i + 1 < nL) (k : vs_G p l e R s m args below meth c b D aC nL Q kc ks ck mem (pc + 2) (vs_s2 lv i (.double x)) st) : vs_G p l e R s m args below meth c b D aC nL Q kc ks ck mem (pc) lv (.double x :: st) := fun H locs ls hP hS hk hl => lv_dstore C.1 C.2.1 hd (vs_l_has hl) hn rfl (fun ls' hl' => k H locs ls' hP hS hk (vs_st2 (b := b) (v := .double x) hl'))
theorem vs_astore_n (C : vs_X p s m args meth c b D aC own cc nL) {i : Fin 4} {x : Nat} (hd : decode cc pc = .ok (.astore_n i, 1)) (hn : (i : Nat) < nL) (k : vs_G p l e R s m args below meth c b D aC nL Q kc ks ck mem (pc + 1) (vs_s1 lv (i : Nat) (.ref x)) st) : vs_G p l e R s m args below meth c b D aC nL Q kc ks ck mem (pc) lv (.ref x :: st) := fun H locs ls hP hS hk hl => lv_astore_n C.1 C.2.1 hd rfl (vs_l_has hl) hn rfl (fun ls' hl' => k H locs ls' hP hS hk (vs_st1 (b := b) (v := .ref x) hl'))
theorem vs_astore (C : vs_X p s m args meth c b D aC own cc nL) {i : Nat} {x : Nat} (hd : decode cc pc = .ok (.astore i, 2)) (hn : i < nL) (k : vs_G p l e R s m args below meth c b D aC nL Q kc ks ck mem (pc + 2) (vs_s1 lv i (.ref x)) st) : vs_G p l e R s m args below meth c b D aC nL Q kc ks ck mem (pc) lv (.ref x :: st) := fun H locs ls hP hS hk hl => lv_astore C.1 C.2.1 hd (vs_l_has hl) hn rfl (fun ls' hl' => k H locs ls' hP hS hk (vs_st1 (b := b) (v := .ref x) hl'))
theorem vs_iinc (C : vs_X p s m args meth c b D aC own cc nL) {i : Nat} {n : Int} {x v : Int32} (hd : decode cc pc = .ok (.iinc i n, 3)) (hx : lv[i]? = some (some (.int x))) (hv : x + Int32.ofInt n = v) (hn : i < nL) (k : vs_G p l e R s m args below meth c b D aC nL Q kc ks ck mem (pc + 3) (vs_s1 lv i (.int v)) st) : vs_G p l e R s m args below meth c b D aC nL Q kc ks ck mem (pc) lv st := fun H locs ls hP hS hk hl => by
  obtain ⟨q, hq⟩ := List.getElem?_of_mem (vs_a_in.mpr ⟨_, hx, rfl⟩ : (i, vs_v b (.int x)) ∈ vs_a b lv)
  exact lv_iinc C.1 C.2.1 hd (vs_l_has hl) (k := q) hq hv hn rfl (fun ls' hl' => k H locs ls' hP hS hk (vs_st1 (b := b) (v := .int v) hl'))
theorem vs_iadd (C : vs_X p s m args meth c b D aC own cc nL) {x y : Int32}  (hd : decode cc pc = .ok (.iadd, 1)) (k : vs_G p l e R s m args below meth c b D aC nL Q kc ks ck mem (pc + 1) lv (.int (x + y) :: st)) : vs_G p l e R s m args below meth c b D aC nL Q kc ks ck mem (pc) lv (.int y :: .int x :: st) := fun H locs ls hP hS hk hl => lv_iadd C.1 C.2.1 hd (k H locs ls hP hS hk hl)
theorem vs_isub (C : vs_X p s m args meth c b D aC own cc nL) {x y : Int32}  (hd : decode cc pc = .ok (.isub, 1)) (k : vs_G p l e R s m args below meth c b D aC nL Q kc ks ck mem (pc + 1) lv (.int (x - y) :: st)) : vs_G p l e R s m args below meth c b D aC nL Q kc ks ck mem (pc) lv (.int y :: .int x :: st) := fun H locs ls hP hS hk hl => lv_isub C.1 C.2.1 hd (k H locs ls hP hS hk hl)
theorem vs_imul (C : vs_X p s m args meth c b D aC own cc nL) {x y : Int32}  (hd : decode cc pc = .ok (.imul, 1)) (k : vs_G p l e R s m args below meth c b D aC nL Q kc ks ck mem (pc + 1) lv (.int (x * y) :: st)) : vs_G p l e R s m args below meth c b D aC nL Q kc ks ck mem (pc) lv (.int y :: .int x :: st) := fun H locs ls hP hS hk hl => lv_imul C.1 C.2.1 hd (k H locs ls hP hS hk hl)
theorem vs_iand (C : vs_X p s m args meth c b D aC own cc nL) {x y : Int32}  (hd : decode cc pc = .ok (.iand, 1)) (k : vs_G p l e R s m args below meth c b D aC nL Q kc ks ck mem (pc + 1) lv (.int (x &&& y) :: st)) : vs_G p l e R s m args below meth c b D aC nL Q kc ks ck mem (pc) lv (.int y :: .int x :: st) := fun H locs ls hP hS hk hl => lv_iand C.1 C.2.1 hd (k H locs ls hP hS hk hl)
theorem vs_ior (C : vs_X p s m args meth c b D aC own cc nL) {x y : Int32}  (hd : decode cc pc = .ok (.ior, 1)) (k : vs_G p l e R s m args below meth c b D aC nL Q kc ks ck mem (pc + 1) lv (.int (x ||| y) :: st)) : vs_G p l e R s m args below meth c b D aC nL Q kc ks ck mem (pc) lv (.int y :: .int x :: st) := fun H locs ls hP hS hk hl => lv_ior C.1 C.2.1 hd (k H locs ls hP hS hk hl)
theorem vs_ixor (C : vs_X p s m args meth c b D aC own cc nL) {x y : Int32}  (hd : decode cc pc = .ok (.ixor, 1)) (k : vs_G p l e R s m args below meth c b D aC nL Q kc ks ck mem (pc + 1) lv (.int (x ^^^ y) :: st)) : vs_G p l e R s m args below meth c b D aC nL Q kc ks ck mem (pc) lv (.int y :: .int x :: st) := fun H locs ls hP hS hk hl => lv_ixor C.1 C.2.1 hd (k H locs ls hP hS hk hl)
theorem vs_ladd (C : vs_X p s m args meth c b D aC own cc nL) {x y : Int64}  (hd : decode cc pc = .ok (.ladd, 1)) (k : vs_G p l e R s m args below meth c b D aC nL Q kc ks ck mem (pc + 1) lv (.long (x + y) :: st)) : vs_G p l e R s m args below meth c b D aC nL Q kc ks ck mem (pc) lv (.long y :: .long x :: st) := fun H locs ls hP hS hk hl => lv_ladd C.1 C.2.1 hd (k H locs ls hP hS hk hl)
theorem vs_lsub (C : vs_X p s m args meth c b D aC own cc nL) {x y : Int64}  (hd : decode cc pc = .ok (.lsub, 1)) (k : vs_G p l e R s m args below meth c b D aC nL Q kc ks ck mem (pc + 1) lv (.long (x - y) :: st)) : vs_G p l e R s m args below meth c b D aC nL Q kc ks ck mem (pc) lv (.long y :: .long x :: st) := fun H locs ls hP hS hk hl => lv_lsub C.1 C.2.1 hd (k H locs ls hP hS hk hl)
theorem vs_land (C : vs_X p s m args meth c b D aC own cc nL) {x y : Int64}  (hd : decode cc pc = .ok (.land, 1)) (k : vs_G p l e R s m args below meth c b D aC nL Q kc ks ck mem (pc + 1) lv (.long (x &&& y) :: st)) : vs_G p l e R s m args below meth c b D aC nL Q kc ks ck mem (pc) lv (.long y :: .long x :: st) := fun H locs ls hP hS hk hl => lv_land C.1 C.2.1 hd (k H locs ls hP hS hk hl)
theorem vs_lor (C : vs_X p s m args meth c b D aC own cc nL) {x y : Int64}  (hd : decode cc pc = .ok (.lor, 1)) (k : vs_G p l e R s m args below meth c b D aC nL Q kc ks ck mem (pc + 1) lv (.long (x ||| y) :: st)) : vs_G p l e R s m args below meth c b D aC nL Q kc ks ck mem (pc) lv (.long y :: .long x :: st) := fun H locs ls hP hS hk hl => lv_lor C.1 C.2.1 hd (k H locs ls hP hS hk hl)
theorem vs_lxor (C : vs_X p s m args meth c b D aC own cc nL) {x y : Int64}  (hd : decode cc pc = .ok (.lxor, 1)) (k : vs_G p l e R s m args below meth c b D aC nL Q kc ks ck mem (pc + 1) lv (.long (x ^^^ y) :: st)) : vs_G p l e R s m args below meth c b D aC nL Q kc ks ck mem (pc) lv (.long y :: .long x :: st) := fun H locs ls hP hS hk hl => lv_lxor C.1 C.2.1 hd (k H locs ls hP hS hk hl)
theorem vs_irem (C : vs_X p s m args meth c b D aC own cc nL) {x y : Int32} (hne : ¬ y = 0) (hd : decode cc pc = .ok (.irem, 1)) (k : vs_G p l e R s m args below meth c b D aC nL Q kc ks ck mem (pc + 1) lv (.int (x - x / y * y) :: st)) : vs_G p l e R s m args below meth c b D aC nL Q kc ks ck mem (pc) lv (.int y :: .int x :: st) := fun H locs ls hP hS hk hl => lv_irem C.1 C.2.1 hd hne (k H locs ls hP hS hk hl)
theorem vs_ishl (C : vs_X p s m args meth c b D aC own cc nL) {x y : Int32} (hd : decode cc pc = .ok (.ishl, 1)) (k : vs_G p l e R s m args below meth c b D aC nL Q kc ks ck mem (pc + 1) lv (.int (x <<< (y &&& 31)) :: st)) : vs_G p l e R s m args below meth c b D aC nL Q kc ks ck mem (pc) lv (.int y :: .int x :: st) := fun H locs ls hP hS hk hl => lv_ishl C.1 C.2.1 hd (k H locs ls hP hS hk hl)
theorem vs_ishr (C : vs_X p s m args meth c b D aC own cc nL) {x y : Int32} (hd : decode cc pc = .ok (.ishr, 1)) (k : vs_G p l e R s m args below meth c b D aC nL Q kc ks ck mem (pc + 1) lv (.int (x >>> (y &&& 31)) :: st)) : vs_G p l e R s m args below meth c b D aC nL Q kc ks ck mem (pc) lv (.int y :: .int x :: st) := fun H locs ls hP hS hk hl => lv_ishr C.1 C.2.1 hd (k H locs ls hP hS hk hl)
theorem vs_iushr (C : vs_X p s m args meth c b D aC own cc nL) {x y : Int32} (hd : decode cc pc = .ok (.iushr, 1)) (k : vs_G p l e R s m args below meth c b D aC nL Q kc ks ck mem (pc + 1) lv (.int ((x.toUInt32 >>> (y.toUInt32 &&& Int32.toUInt32 31)).toInt32) :: st)) : vs_G p l e R s m args below meth c b D aC nL Q kc ks ck mem (pc) lv (.int y :: .int x :: st) := fun H locs ls hP hS hk hl => lv_iushr C.1 C.2.1 hd rfl (k H locs ls hP hS hk hl)
theorem vs_lushr (C : vs_X p s m args meth c b D aC own cc nL) {x : Int64} {y : Int32} (hd : decode cc pc = .ok (.lushr, 1)) (k : vs_G p l e R s m args below meth c b D aC nL Q kc ks ck mem (pc + 1) lv (.long ((x.toUInt64 >>> (y.toInt64.toUInt64 &&& Int64.toUInt64 63)).toInt64) :: st)) : vs_G p l e R s m args below meth c b D aC nL Q kc ks ck mem (pc) lv (.int y :: .long x :: st) := fun H locs ls hP hS hk hl => lv_lushr C.1 C.2.1 hd rfl (k H locs ls hP hS hk hl)
theorem vs_lshl (C : vs_X p s m args meth c b D aC own cc nL) {x : Int64} {y : Int32} (hd : decode cc pc = .ok (.lshl, 1)) (k : vs_G p l e R s m args below meth c b D aC nL Q kc ks ck mem (pc + 1) lv (.long (x <<< (y.toInt64 &&& 63)) :: st)) : vs_G p l e R s m args below meth c b D aC nL Q kc ks ck mem (pc) lv (.int y :: .long x :: st) := fun H locs ls hP hS hk hl => lv_lshl C.1 C.2.1 hd rfl (k H locs ls hP hS hk hl)
theorem vs_lneg (C : vs_X p s m args meth c b D aC own cc nL) {x : Int64} (hd : decode cc pc = .ok (.lneg, 1)) (k : vs_G p l e R s m args below meth c b D aC nL Q kc ks ck mem (pc + 1) lv (.long (-x) :: st)) : vs_G p l e R s m args below meth c b D aC nL Q kc ks ck mem (pc) lv (.long x :: st) := fun H locs ls hP hS hk hl => lv_lneg C.1 C.2.1 hd (k H locs ls hP hS hk hl)
theorem vs_i2l (C : vs_X p s m args meth c b D aC own cc nL) {x : Int32} (hd : decode cc pc = .ok (.i2l, 1)) (k : vs_G p l e R s m args below meth c b D aC nL Q kc ks ck mem (pc + 1) lv (.long x.toInt64 :: st)) : vs_G p l e R s m args below meth c b D aC nL Q kc ks ck mem (pc) lv (.int x :: st) := fun H locs ls hP hS hk hl => lv_i2l C.1 C.2.1 hd rfl (k H locs ls hP hS hk hl)
theorem vs_l2i (C : vs_X p s m args meth c b D aC own cc nL) {x : Int64} (hd : decode cc pc = .ok (.l2i, 1)) (k : vs_G p l e R s m args below meth c b D aC nL Q kc ks ck mem (pc + 1) lv (.int x.toInt32 :: st)) : vs_G p l e R s m args below meth c b D aC nL Q kc ks ck mem (pc) lv (.long x :: st) := fun H locs ls hP hS hk hl => lv_l2i C.1 C.2.1 hd rfl (k H locs ls hP hS hk hl)
theorem vs_i2f (C : vs_X p s m args meth c b D aC own cc nL) {x : Int32} (hd : decode cc pc = .ok (.i2f, 1)) (k : vs_G p l e R s m args below meth c b D aC nL Q kc ks ck mem (pc + 1) lv (.float (FP.i2f x) :: st)) : vs_G p l e R s m args below meth c b D aC nL Q kc ks ck mem (pc) lv (.int x :: st) := fun H locs ls hP hS hk hl => lv_i2f C.1 C.2.1 hd (k H locs ls hP hS hk hl)
theorem vs_i2d (C : vs_X p s m args meth c b D aC own cc nL) {x : Int32} (hd : decode cc pc = .ok (.i2d, 1)) (k : vs_G p l e R s m args below meth c b D aC nL Q kc ks ck mem (pc + 1) lv (.double (FP.i2d x) :: st)) : vs_G p l e R s m args below meth c b D aC nL Q kc ks ck mem (pc) lv (.int x :: st) := fun H locs ls hP hS hk hl => lv_i2d C.1 C.2.1 hd (k H locs ls hP hS hk hl)
theorem vs_f2i (C : vs_X p s m args meth c b D aC own cc nL) {x : UInt32} (hd : decode cc pc = .ok (.f2i, 1)) (k : vs_G p l e R s m args below meth c b D aC nL Q kc ks ck mem (pc + 1) lv (.int (FP.f2i x) :: st)) : vs_G p l e R s m args below meth c b D aC nL Q kc ks ck mem (pc) lv (.float x :: st) := fun H locs ls hP hS hk hl => lv_f2i C.1 C.2.1 hd (k H locs ls hP hS hk hl)
theorem vs_d2f (C : vs_X p s m args meth c b D aC own cc nL) {x : UInt64} (hne : vf_n32 (FP.d2f x)) (hd : decode cc pc = .ok (.d2f, 1)) (k : vs_G p l e R s m args below meth c b D aC nL Q kc ks ck mem (pc + 1) lv (.float (FP.d2f x) :: st)) : vs_G p l e R s m args below meth c b D aC nL Q kc ks ck mem (pc) lv (.double x :: st) := fun H locs ls hP hS hk hl => lv_d2f C.1 C.2.1 hd hne (k H locs ls hP hS hk hl)
theorem vs_f2d (C : vs_X p s m args meth c b D aC own cc nL) {x : UInt32} (hne : vf_n64 (FP.f2d x)) (hd : decode cc pc = .ok (.f2d, 1)) (k : vs_G p l e R s m args below meth c b D aC nL Q kc ks ck mem (pc + 1) lv (.double (FP.f2d x) :: st)) : vs_G p l e R s m args below meth c b D aC nL Q kc ks ck mem (pc) lv (.float x :: st) := fun H locs ls hP hS hk hl => lv_f2d C.1 C.2.1 hd hne (k H locs ls hP hS hk hl)
theorem vs_fadd (C : vs_X p s m args meth c b D aC own cc nL) {x y : UInt32} (hne : vf_n32 (FP.fadd x y)) (hd : decode cc pc = .ok (.fadd, 1)) (k : vs_G p l e R s m args below meth c b D aC nL Q kc ks ck mem (pc + 1) lv (.float (FP.fadd x y) :: st)) : vs_G p l e R s m args below meth c b D aC nL Q kc ks ck mem (pc) lv (.float y :: .float x :: st) := fun H locs ls hP hS hk hl => lv_fadd C.1 C.2.1 hd hne (k H locs ls hP hS hk hl)
theorem vs_fmul (C : vs_X p s m args meth c b D aC own cc nL) {x y : UInt32} (hne : vf_n32 (FP.fmul x y)) (hd : decode cc pc = .ok (.fmul, 1)) (k : vs_G p l e R s m args below meth c b D aC nL Q kc ks ck mem (pc + 1) lv (.float (FP.fmul x y) :: st)) : vs_G p l e R s m args below meth c b D aC nL Q kc ks ck mem (pc) lv (.float y :: .float x :: st) := fun H locs ls hP hS hk hl => lv_fmul C.1 C.2.1 hd hne (k H locs ls hP hS hk hl)
theorem vs_fdiv (C : vs_X p s m args meth c b D aC own cc nL) {x y : UInt32} (hne : vf_n32 (FP.fdiv x y)) (hd : decode cc pc = .ok (.fdiv, 1)) (k : vs_G p l e R s m args below meth c b D aC nL Q kc ks ck mem (pc + 1) lv (.float (FP.fdiv x y) :: st)) : vs_G p l e R s m args below meth c b D aC nL Q kc ks ck mem (pc) lv (.float y :: .float x :: st) := fun H locs ls hP hS hk hl => lv_fdiv C.1 C.2.1 hd hne (k H locs ls hP hS hk hl)
theorem vs_dmul (C : vs_X p s m args meth c b D aC own cc nL) {x y : UInt64} (hne : vf_n64 (FP.dmul x y)) (hd : decode cc pc = .ok (.dmul, 1)) (k : vs_G p l e R s m args below meth c b D aC nL Q kc ks ck mem (pc + 1) lv (.double (FP.dmul x y) :: st)) : vs_G p l e R s m args below meth c b D aC nL Q kc ks ck mem (pc) lv (.double y :: .double x :: st) := fun H locs ls hP hS hk hl => lv_dmul C.1 C.2.1 hd hne (k H locs ls hP hS hk hl)
theorem vs_fcmp (C : vs_X p s m args meth c b D aC own cc nL) {x y : UInt32} {op : CmpOp} (hd : decode cc pc = .ok (.fcmp op, 1)) (k : vs_G p l e R s m args below meth c b D aC nL Q kc ks ck mem (pc + 1) lv (.int (Op.cmpValue (FP.fcmp x y) op) :: st)) : vs_G p l e R s m args below meth c b D aC nL Q kc ks ck mem (pc) lv (.float y :: .float x :: st) := fun H locs ls hP hS hk hl => lv_fcmp C.1 C.2.1 hd (k H locs ls hP hS hk hl)
theorem vs_dcmp (C : vs_X p s m args meth c b D aC own cc nL) {x y : UInt64} {op : CmpOp} (hd : decode cc pc = .ok (.dcmp op, 1)) (k : vs_G p l e R s m args below meth c b D aC nL Q kc ks ck mem (pc + 1) lv (.int (Op.cmpValue (FP.dcmp x y) op) :: st)) : vs_G p l e R s m args below meth c b D aC nL Q kc ks ck mem (pc) lv (.double y :: .double x :: st) := fun H locs ls hP hS hk hl => lv_dcmp C.1 C.2.1 hd (k H locs ls hP hS hk hl)
theorem vs_dup (C : vs_X p s m args meth c b D aC own cc nL) {v : Value} (hc : v.category = 1) (hd : decode cc pc = .ok (.dup, 1)) (k : vs_G p l e R s m args below meth c b D aC nL Q kc ks ck mem (pc + 1) lv (v :: v :: st)) : vs_G p l e R s m args below meth c b D aC nL Q kc ks ck mem (pc) lv (v :: st) := fun H locs ls hP hS hk hl => lv_dup C.1 C.2.1 hd (by rw [vs_v_cat]; exact hc) (k H locs ls hP hS hk hl)
theorem vs_dup2 (C : vs_X p s m args meth c b D aC own cc nL) {u v : Value} (hu : u.category = 1) (hv : v.category = 1) (hd : decode cc pc = .ok (.dup2, 1)) (k : vs_G p l e R s m args below meth c b D aC nL Q kc ks ck mem (pc + 1) lv (u :: v :: u :: v :: st)) : vs_G p l e R s m args below meth c b D aC nL Q kc ks ck mem (pc) lv (u :: v :: st) := fun H locs ls hP hS hk hl => lv_dup2_11 C.1 C.2.1 hd (by rw [vs_v_cat]; exact hu) (by rw [vs_v_cat]; exact hv) (k H locs ls hP hS hk hl)
theorem vs_lcmp (C : vs_X p s m args meth c b D aC own cc nL) {x y : Int64} (hd : decode cc pc = .ok (.lcmp, 1)) (k : vs_G p l e R s m args below meth c b D aC nL Q kc ks ck mem (pc + 1) lv (.int (lg_cmp x y) :: st)) : vs_G p l e R s m args below meth c b D aC nL Q kc ks ck mem (pc) lv (.long y :: .long x :: st) := fun H locs ls hP hS hk hl => W.lcmp C.1 C.2.1 hd (k H locs ls hP hS hk hl)
theorem vs_tableIn (C : vs_X p s m args meth c b D aC own cc nL) {dflt lo hi : Int} {offs : Array Int} {len : Nat} {x : Int32} {off : Int} {tgt : Nat} (hd : decode cc pc = .ok (.tableswitch dflt lo hi offs, len)) (h1 : ¬ x.toInt < lo) (h2 : ¬ hi < x.toInt) (ho : offs[(x.toInt - lo).toNat]? = some off) (ht : (pc : Int) + off = (tgt : Int)) (k : vs_G p l e R s m args below meth c b D aC nL Q kc ks ck mem (tgt) lv st) : vs_G p l e R s m args below meth c b D aC nL Q kc ks ck mem (pc) lv (.int x :: st) := fun H locs ls hP hS hk hl => lv_tableIn C.1 C.2.1 hd h1 h2 ho ht (k H locs ls hP hS hk hl)
theorem vs_tableOut (C : vs_X p s m args meth c b D aC own cc nL) {dflt lo hi : Int} {offs : Array Int} {len : Nat} {x : Int32} {tgt : Nat} (hd : decode cc pc = .ok (.tableswitch dflt lo hi offs, len)) (h : x.toInt < lo ∨ hi < x.toInt) (ht : (pc : Int) + dflt = (tgt : Int)) (k : vs_G p l e R s m args below meth c b D aC nL Q kc ks ck mem (tgt) lv st) : vs_G p l e R s m args below meth c b D aC nL Q kc ks ck mem (pc) lv (.int x :: st) := fun H locs ls hP hS hk hl => lv_tableOut C.1 C.2.1 hd h ht (k H locs ls hP hS hk hl)
theorem vs_if_eq (C : vs_X p s m args meth c b D aC own cc nL) {x : Int32} {off : Int} {tgt : Nat} (hd : decode cc pc = .ok (.ifCond .eq off, 3)) (ht : (pc : Int) + off = (tgt : Int)) (kt : x = 0 → vs_G p l e R s m args below meth c b D aC nL Q kc ks ck mem (tgt) lv st) (kf : ¬ (x = 0) → vs_G p l e R s m args below meth c b D aC nL Q kc ks ck mem (pc + 3) lv st) : vs_G p l e R s m args below meth c b D aC nL Q kc ks ck mem (pc) lv (.int x :: st) := fun H locs ls hP hS hk hl => lv_if_eq C.1 C.2.1 hd ht (fun h => kt h H locs ls hP hS hk hl) (fun h => kf h H locs ls hP hS hk hl)
theorem vs_icmp_eq (C : vs_X p s m args meth c b D aC own cc nL) {x y : Int32} {off : Int} {tgt : Nat} (hd : decode cc pc = .ok (.if_icmp .eq off, 3)) (ht : (pc : Int) + off = (tgt : Int)) (kt : x = y → vs_G p l e R s m args below meth c b D aC nL Q kc ks ck mem (tgt) lv st) (kf : ¬ (x = y) → vs_G p l e R s m args below meth c b D aC nL Q kc ks ck mem (pc + 3) lv st) : vs_G p l e R s m args below meth c b D aC nL Q kc ks ck mem (pc) lv (.int y :: .int x :: st) := fun H locs ls hP hS hk hl => lv_icmp_eq C.1 C.2.1 hd ht (fun h => kt h H locs ls hP hS hk hl) (fun h => kf h H locs ls hP hS hk hl)
theorem vs_if_ne (C : vs_X p s m args meth c b D aC own cc nL) {x : Int32} {off : Int} {tgt : Nat} (hd : decode cc pc = .ok (.ifCond .ne off, 3)) (ht : (pc : Int) + off = (tgt : Int)) (kt : ¬ x = 0 → vs_G p l e R s m args below meth c b D aC nL Q kc ks ck mem (tgt) lv st) (kf : x = 0 → vs_G p l e R s m args below meth c b D aC nL Q kc ks ck mem (pc + 3) lv st) : vs_G p l e R s m args below meth c b D aC nL Q kc ks ck mem (pc) lv (.int x :: st) := fun H locs ls hP hS hk hl => lv_if_ne C.1 C.2.1 hd ht (fun h => kt h H locs ls hP hS hk hl) (fun h => kf h H locs ls hP hS hk hl)
theorem vs_icmp_ne (C : vs_X p s m args meth c b D aC own cc nL) {x y : Int32} {off : Int} {tgt : Nat} (hd : decode cc pc = .ok (.if_icmp .ne off, 3)) (ht : (pc : Int) + off = (tgt : Int)) (kt : ¬ x = y → vs_G p l e R s m args below meth c b D aC nL Q kc ks ck mem (tgt) lv st) (kf : x = y → vs_G p l e R s m args below meth c b D aC nL Q kc ks ck mem (pc + 3) lv st) : vs_G p l e R s m args below meth c b D aC nL Q kc ks ck mem (pc) lv (.int y :: .int x :: st) := fun H locs ls hP hS hk hl => lv_icmp_ne C.1 C.2.1 hd ht (fun h => kt h H locs ls hP hS hk hl) (fun h => kf h H locs ls hP hS hk hl)
theorem vs_if_lt (C : vs_X p s m args meth c b D aC own cc nL) {x : Int32} {off : Int} {tgt : Nat} (hd : decode cc pc = .ok (.ifCond .lt off, 3)) (ht : (pc : Int) + off = (tgt : Int)) (kt : x < 0 → vs_G p l e R s m args below meth c b D aC nL Q kc ks ck mem (tgt) lv st) (kf : ¬ (x < 0) → vs_G p l e R s m args below meth c b D aC nL Q kc ks ck mem (pc + 3) lv st) : vs_G p l e R s m args below meth c b D aC nL Q kc ks ck mem (pc) lv (.int x :: st) := fun H locs ls hP hS hk hl => lv_if_lt C.1 C.2.1 hd ht (fun h => kt h H locs ls hP hS hk hl) (fun h => kf h H locs ls hP hS hk hl)
theorem vs_icmp_lt (C : vs_X p s m args meth c b D aC own cc nL) {x y : Int32} {off : Int} {tgt : Nat} (hd : decode cc pc = .ok (.if_icmp .lt off, 3)) (ht : (pc : Int) + off = (tgt : Int)) (kt : x < y → vs_G p l e R s m args below meth c b D aC nL Q kc ks ck mem (tgt) lv st) (kf : ¬ (x < y) → vs_G p l e R s m args below meth c b D aC nL Q kc ks ck mem (pc + 3) lv st) : vs_G p l e R s m args below meth c b D aC nL Q kc ks ck mem (pc) lv (.int y :: .int x :: st) := fun H locs ls hP hS hk hl => lv_icmp_lt C.1 C.2.1 hd ht (fun h => kt h H locs ls hP hS hk hl) (fun h => kf h H locs ls hP hS hk hl)
theorem vs_if_ge (C : vs_X p s m args meth c b D aC own cc nL) {x : Int32} {off : Int} {tgt : Nat} (hd : decode cc pc = .ok (.ifCond .ge off, 3)) (ht : (pc : Int) + off = (tgt : Int)) (kt : 0 ≤ x → vs_G p l e R s m args below meth c b D aC nL Q kc ks ck mem (tgt) lv st) (kf : ¬ (0 ≤ x) → vs_G p l e R s m args below meth c b D aC nL Q kc ks ck mem (pc + 3) lv st) : vs_G p l e R s m args below meth c b D aC nL Q kc ks ck mem (pc) lv (.int x :: st) := fun H locs ls hP hS hk hl => lv_if_ge C.1 C.2.1 hd ht (fun h => kt h H locs ls hP hS hk hl) (fun h => kf h H locs ls hP hS hk hl)
theorem vs_icmp_ge (C : vs_X p s m args meth c b D aC own cc nL) {x y : Int32} {off : Int} {tgt : Nat} (hd : decode cc pc = .ok (.if_icmp .ge off, 3)) (ht : (pc : Int) + off = (tgt : Int)) (kt : y ≤ x → vs_G p l e R s m args below meth c b D aC nL Q kc ks ck mem (tgt) lv st) (kf : ¬ (y ≤ x) → vs_G p l e R s m args below meth c b D aC nL Q kc ks ck mem (pc + 3) lv st) : vs_G p l e R s m args below meth c b D aC nL Q kc ks ck mem (pc) lv (.int y :: .int x :: st) := fun H locs ls hP hS hk hl => lv_icmp_ge C.1 C.2.1 hd ht (fun h => kt h H locs ls hP hS hk hl) (fun h => kf h H locs ls hP hS hk hl)
theorem vs_if_gt (C : vs_X p s m args meth c b D aC own cc nL) {x : Int32} {off : Int} {tgt : Nat} (hd : decode cc pc = .ok (.ifCond .gt off, 3)) (ht : (pc : Int) + off = (tgt : Int)) (kt : 0 < x → vs_G p l e R s m args below meth c b D aC nL Q kc ks ck mem (tgt) lv st) (kf : ¬ (0 < x) → vs_G p l e R s m args below meth c b D aC nL Q kc ks ck mem (pc + 3) lv st) : vs_G p l e R s m args below meth c b D aC nL Q kc ks ck mem (pc) lv (.int x :: st) := fun H locs ls hP hS hk hl => lv_if_gt C.1 C.2.1 hd ht (fun h => kt h H locs ls hP hS hk hl) (fun h => kf h H locs ls hP hS hk hl)
theorem vs_icmp_gt (C : vs_X p s m args meth c b D aC own cc nL) {x y : Int32} {off : Int} {tgt : Nat} (hd : decode cc pc = .ok (.if_icmp .gt off, 3)) (ht : (pc : Int) + off = (tgt : Int)) (kt : y < x → vs_G p l e R s m args below meth c b D aC nL Q kc ks ck mem (tgt) lv st) (kf : ¬ (y < x) → vs_G p l e R s m args below meth c b D aC nL Q kc ks ck mem (pc + 3) lv st) : vs_G p l e R s m args below meth c b D aC nL Q kc ks ck mem (pc) lv (.int y :: .int x :: st) := fun H locs ls hP hS hk hl => lv_icmp_gt C.1 C.2.1 hd ht (fun h => kt h H locs ls hP hS hk hl) (fun h => kf h H locs ls hP hS hk hl)
theorem vs_if_le (C : vs_X p s m args meth c b D aC own cc nL) {x : Int32} {off : Int} {tgt : Nat} (hd : decode cc pc = .ok (.ifCond .le off, 3)) (ht : (pc : Int) + off = (tgt : Int)) (kt : x ≤ 0 → vs_G p l e R s m args below meth c b D aC nL Q kc ks ck mem (tgt) lv st) (kf : ¬ (x ≤ 0) → vs_G p l e R s m args below meth c b D aC nL Q kc ks ck mem (pc + 3) lv st) : vs_G p l e R s m args below meth c b D aC nL Q kc ks ck mem (pc) lv (.int x :: st) := fun H locs ls hP hS hk hl => lv_if_le C.1 C.2.1 hd ht (fun h => kt h H locs ls hP hS hk hl) (fun h => kf h H locs ls hP hS hk hl)
theorem vs_icmp_le (C : vs_X p s m args meth c b D aC own cc nL) {x y : Int32} {off : Int} {tgt : Nat} (hd : decode cc pc = .ok (.if_icmp .le off, 3)) (ht : (pc : Int) + off = (tgt : Int)) (kt : x ≤ y → vs_G p l e R s m args below meth c b D aC nL Q kc ks ck mem (tgt) lv st) (kf : ¬ (x ≤ y) → vs_G p l e R s m args below meth c b D aC nL Q kc ks ck mem (pc + 3) lv st) : vs_G p l e R s m args below meth c b D aC nL Q kc ks ck mem (pc) lv (.int y :: .int x :: st) := fun H locs ls hP hS hk hl => lv_icmp_le C.1 C.2.1 hd ht (fun h => kt h H locs ls hP hS hk hl) (fun h => kf h H locs ls hP hS hk hl)
theorem vs_goto (C : vs_X p s m args meth c b D aC own cc nL) {off : Int} {tgt : Nat} (hd : decode cc pc = .ok (.goto off, 3)) (ht : (pc : Int) + off = (tgt : Int)) (k : vs_G p l e R s m args below meth c b D aC nL Q kc ks ck mem (tgt) lv st) : vs_G p l e R s m args below meth c b D aC nL Q kc ks ck mem (pc) lv st := fun H locs ls hP hS hk hl => lv_goto C.1 C.2.1 hd ht (k H locs ls hP hS hk hl)
end Rows
end
section
theorem vs_w_set0 {b : Nat} {aC : Nat → ClassId} {mem : List vs_C} {i : Nat} {y : vs_C} : vs_w b aC 0 (mem.set i y) = (vs_w b aC 0 mem).set i (b + i, vs_c b aC y) := by
  rw [vs_w_set, Nat.zero_add]
theorem vs_w_app0 {b : Nat} {aC : Nat → ClassId} {mem : List vs_C} {y : vs_C} : vs_w b aC 0 (mem ++ [y]) = vs_w b aC 0 mem ++ [(b + mem.length, vs_c b aC y)] := by
  rw [vs_w_app, Nat.zero_add]
theorem vs_size {b : Nat} {D : va_G} {aC : Nat → ClassId} {mem : List vs_C} {H : Heap} (hP : va_P D vwCl (vs_w b aC 0 mem) H) (hb : b ≤ H.size) : b + mem.length ≤ H.size := by
  cases hm : mem.length with
  | zero => exact hb
  | succ n =>
    have hlt : n < mem.length := by omega
    have := (hP n _ (vs_w_at (b := b) (aC := aC) (List.getElem?_eq_getElem hlt))).lt
    simp only at this
    omega
/-- entry idx of own's pool is field k of class ci, of type ty -/
def vs_F (own : String) (idx ci k : Nat) (ty : FieldType) (fin : Bool) : Prop := ∃ (Cn : String) (T : u_T) (N : Nat) (ty0 : Nat → FieldType), vwCl[ci]? = some (Cn, T, N) ∧ (∀ w ∈ u_ws Cn T N, w ∈ gT) ∧ (∀ k, k < N → parseFieldDescriptor (T k).2.2.1 = some (ty0 k)) ∧ (∀ a, a < N → ∀ b, b < N → a ≠ b → (T a).2.1 ≠ (T b).2.1) ∧ k < N ∧ ty0 k = ty ∧ (T k).2.2.2 = fin ∧ (T k).1 = Cn ∧ (Cond.fieldLink own idx (T k).1 (T k).2.1 (T k).2.2.1 ∈ gT ∨ ∃ host, Cond.fieldLinkNest own idx (T k).1 (T k).2.1 (T k).2.2.1 host ∈ gN)
/-- entry idx of own's pool is class ci, whose new object has the fields fs -/
def vs_N (own : String) (idx ci n : Nat) (fs : List Value) : Prop := ∃ (Cn : String) (T : u_T) (ty0 : Nat → FieldType), vwCl[ci]? = some (Cn, T, n) ∧ (∀ w ∈ u_ws Cn T n, w ∈ gT) ∧ (∀ k, k < n → parseFieldDescriptor (T k).2.2.1 = some (ty0 k)) ∧ Cond.classLink own idx Cn ∈ gT ∧ Cond.instantiable Cn n ∈ gT ∧ Cond.initialized Cn ∈ gT ∧ (∀ j, j < n → defaultValue (ty0 j) = vp_V fs j) ∧ ∀ b, fs.map (vs_v b) = fs
section Heap
variable {p : Program} {l : Launch} {e : Env} {R : Room} {s : State} {m : MethodId} {args : Array Value} {below : List Frame} {meth : Method} {c : Code} {b : Nat} {D : va_G} {aC : Nat → ClassId} {nL : Nat} {Q : State → Prop} {kc ks : Nat} {ck : Bool} {mem : List vs_C} {pc : Nat} {lv : List (Option Value)} {st : List Value} {own : String} {cc : ByteArray}
theorem vs_get (C : vs_X p s m args meth c b D aC own cc nL) {idx ci k p0 : Nat} {ty : FieldType} {fin : Bool} {fs : List Value} {v : Value} (hF : vs_F own idx ci k ty fin) (hd : decode cc pc = .ok (.getfield idx, 3)) (hm : mem[p0]? = some (.inr (ci, fs))) (hv : fs[k]? = some v) (kk : vs_G p l e R s m args below meth c b D aC nL Q kc ks ck mem (pc + 3) lv (v :: st)) : vs_G p l e R s m args below meth c b D aC nL Q kc ks ck mem pc lv (.ref p0 :: st) := by
  intro H locs ls hP hS hk hl
  obtain ⟨Cn, T, N, ty0, h1, h2, h3, h4, h5, h6, h7, h8, hlk⟩ := hF
  have he := vs_w_at (b := b) (aC := aC) hm
  have hv' : (fs.map (vs_v b))[k]? = some (vs_v b v) := by rw [List.getElem?_map, hv]; rfl
  rcases hlk with hlk | ⟨host, hlk⟩
  · exact va_get (D := D) (ci := ci) (C := Cn) (T := T) (N := N) C.1 C.2.1 C.2.2.2.2.1 h2 C.2.2.2.1 C.2.2.2.2.2.1 hP p0 he h1 k h5 (C.2.2.2.2.1 _ hlk) (fun _ h => h) hv' hd (kk H locs ls hP hS hk hl)
  · exact va_getN (D := D) (ci := ci) (C := Cn) (T := T) (N := N) C.1 C.2.1 C.2.2.2.2.1 h2 C.2.2.2.1 C.2.2.2.2.2.1 hP p0 he h1 k h5 (va_Nw.use rfl (C.2.2.2.2.2.2.2.2.2 _ hlk)) (fun _ h => h) hv' hd (kk H locs ls hP hS hk hl)
theorem vs_put (C : vs_X p s m args meth c b D aC own cc nL) {idx ci k p0 : Nat} {ty : FieldType} {fs : List Value} {v : Value} (hF : vs_F own idx ci k ty false) (hd : decode cc pc = .ok (.putfield idx, 3)) (hm : mem[p0]? = some (.inr (ci, fs))) (hn : narrow ty (vs_v b v) = vs_v b v) (hf : fits ty (vs_v b v) = true) (hkl : k < fs.length) (kk : vs_G p l e R s m args below meth c b D aC nL Q kc ks false (mem.set p0 (.inr (ci, fs.set k v))) (pc + 3) lv st) : vs_G p l e R s m args below meth c b D aC nL Q kc ks ck mem pc lv (v :: .ref p0 :: st) := by
  intro H locs ls hP hS hk hl
  obtain ⟨Cn, T, N, ty0, h1, h2, h3, h4, h5, h6, h7, h8, hlk⟩ := hF
  have he := vs_w_at (b := b) (aC := aC) hm
  have hgo : ∀ (H1 : Heap) (locs1 : List Loc), va_P D vwCl ((vs_w b aC 0 mem).set p0 (b + p0, .inr (ci, (fs.map (vs_v b)).set k (vs_v b v)))) H1 → va_D (fun q => b ≤ q) ((vs_w b aC 0 mem).set p0 (b + p0, .inr (ci, (fs.map (vs_v b)).set k (vs_v b v)))) → va_S (fun q => b ≤ q) s.heap H1 locs1 → W p l e R s m args below meth c H1 locs1 kc ks Q (F0 m (pc + 3) ls (st.map (vs_v b))) := by
    intro H1 locs1 hP1 _ hS1
    refine kk H1 locs1 ls ?_ hS1 (fun h => by cases h) hl
    rw [vs_w_set0]
    simpa [vs_c, List.map_set] using hP1
  rcases hlk with hlk | ⟨host, hlk⟩
  · exact va_put (D := D) (ci := ci) (C := Cn) (T := T) (N := N) C.1 C.2.1 C.2.2.2.2.1 h2 ty0 h3 h4 C.2.2.2.1 C.2.2.2.2.2.1 hP vs_w_D hS p0 he h1 k h5 (C.2.2.2.2.1 _ hlk) (fun _ h => h) h7 (by rw [← h6]; exact h3 k h5) hn hf (by simpa using hkl) hd hgo
  · exact va_putN (D := D) (ci := ci) (C := Cn) (T := T) (N := N) C.1 C.2.1 C.2.2.2.2.1 h2 ty0 h3 h4 C.2.2.2.1 C.2.2.2.2.2.1 hP vs_w_D hS p0 he h1 k h5 (va_Nw.use rfl (C.2.2.2.2.2.2.2.2.2 _ hlk)) (fun _ h => h) h7 (by rw [← h6]; exact h3 k h5) hn hf (by simpa using hkl) hd hgo
theorem vs_putF (C : vs_X p s m args meth c b D aC own cc nL) {idx ci k p0 : Nat} {ty : FieldType} {fs : List Value} {v : Value} (hF : vs_F own idx ci k ty true) (hin : meth.name = "<init>") (ho : (vwCl[ci]?).map (fun q => q.1) = some own) (hlk : ∀ Cn T N, vwCl[ci]? = some (Cn, T, N) → Cond.fieldLink own idx (T k).1 (T k).2.1 (T k).2.2.1 ∈ gT) (hd : decode cc pc = .ok (.putfield idx, 3)) (hm : mem[p0]? = some (.inr (ci, fs))) (hn : narrow ty (vs_v b v) = vs_v b v) (hf : fits ty (vs_v b v) = true) (hkl : k < fs.length) (kk : vs_G p l e R s m args below meth c b D aC nL Q kc ks false (mem.set p0 (.inr (ci, fs.set k v))) (pc + 3) lv st) : vs_G p l e R s m args below meth c b D aC nL Q kc ks ck mem pc lv (v :: .ref p0 :: st) := by
  intro H locs ls hP hS hk hl
  obtain ⟨Cn, T, N, ty0, h1, h2, h3, h4, h5, h6, h7, h8, -⟩ := hF
  have he := vs_w_at (b := b) (aC := aC) hm
  have hCn : Cn = own := by rw [h1] at ho; exact Option.some.inj ho
  refine va_putF (D := D) (ci := ci) (C := Cn) (T := T) (N := N) C.1 C.2.1 C.2.2.2.2.1 h2 ty0 h3 h4 C.2.2.2.1 C.2.2.2.2.2.1 hP vs_w_D hS p0 he h1 k h5 (C.2.2.2.2.1 _ (hlk _ _ _ h1)) (fun _ h => h) h7 hin (h8.trans hCn) (by rw [← h6]; exact h3 k h5) hn hf (by simpa using hkl) hd ?_
  intro H1 locs1 hP1 _ hS1
  refine kk H1 locs1 ls ?_ hS1 (fun h => by cases h) hl
  rw [vs_w_set0]
  simpa [vs_c, List.map_set] using hP1
theorem vs_new (C : vs_X p s m args meth c b D aC own cc nL) {idx ci n : Nat} {fs : List Value} (hN : vs_N own idx ci n fs) (hd : decode cc pc = .ok (.new idx, 3)) (hsz : s.heap.size + kc ≤ b + mem.length) (hcells : kc + 1 ≤ R.cells) (hslots : ks + n ≤ R.slots) (kk : vs_G p l e R s m args below meth c b D aC nL Q (kc + 1) (ks + n) ck (mem ++ [.inr (ci, fs)]) (pc + 3) lv (.ref mem.length :: st)) : vs_G p l e R s m args below meth c b D aC nL Q kc ks ck mem pc lv st := by
  intro H locs ls hP hS hk hl T hT X
  obtain ⟨Cn, Tt, ty0, h1, h2, h3, h4, h5, h6, h7, h8⟩ := hN
  have hup : H.size ≤ s.heap.size + kc := by
    have := X.same.2.2.1
    rw [← hT]
    exact this
  have hlo := vs_size hP (Nat.le_trans C.2.2.2.2.2.2.1 hS.1)
  have hH : H.size = b + mem.length := by omega
  have hKn := C.2.2.2.2.2.1.1 ci _ h1
  refine W.newcK C.1 C.2.1 C.2.2.2.1 (C.2.2.2.2.1 _ h4) (C.2.2.2.2.1 _ h5) (C.2.2.2.2.1 _ h6) (g := F0 m pc ls (st.map (vs_v b))) rfl hd hcells hslots hKn.2.1 hH (fun H1 kC hkC e1 z1 o1 => ?_) T hT X
  refine kk H1 locs ls ?_ ⟨Nat.le_trans hS.1 (by omega), fun x g1 g2 => (o1 x (by have := hS.1; omega)).trans (hS.2.1 x g1 g2), hS.2.2⟩ (fun hc q hq => (o1 q (by have := hS.1; omega)).trans (hk hc q hq)) hl
  rw [vs_w_app0]
  refine va_P.app (hP.kept (fun k x hx => o1 x.1 (by rw [← hH]; exact (hP k x hx).lt))) (fun k x hx => ?_)
  have hz : k < 1 := (List.getElem?_eq_some_iff.mp hx).1
  rw [show k = 0 by omega] at hx
  cases hx
  exact ⟨_, h1, (u_born ty0 C.2.2.2.2.1 h2 hKn hkC e1 h3).to (fun j hj => by show defaultValue (ty0 j) = vp_V (fs.map (vs_v b)) j; rw [h8 b]; exact h7 j hj)⟩
/-- a new array of n: of kind t (its place in vs_t) -/
theorem vs_newa (C : vs_X p s m args meth c b D aC own cc nL) {atype : ArrayType} {ty : FieldType} {t N : Nat} {n : Int32} {a0 : vp_A} (hw : Cond.arrayClass ty ∈ gT) (hty : newarray.typeOf atype = ty) (ht : (vs_t aC)[t]? = some (aC t, ty)) (hobj : ∀ cA U, va_RA U cA ty = (U.vm.findClass ("[" ++ ty.toString) = some cA)) (ha : ∀ cA : ClassId, vp_cell cA a0 = arrV cA N (fun _ => defaultValue ty)) (hd : decode cc pc = .ok (.newarray atype, 2)) (hn : ¬ n < 0) (hN : n.toNatClampNeg = N) (hbytes : N * componentBytes ty ≤ 536870912) (hsz : s.heap.size + kc ≤ b + mem.length) (hcells : kc + 1 ≤ R.cells) (hslots : ks + N ≤ R.slots) (kk : vs_G p l e R s m args below meth c b D aC nL Q (kc + 1) (ks + N) ck (mem ++ [.inl (t, a0)]) (pc + 2) lv (.ref mem.length :: st)) : vs_G p l e R s m args below meth c b D aC nL Q kc ks ck mem pc lv (.int n :: st) := by
  intro H locs ls hP hS hk hl T hT X
  subst hty
  have hup : H.size ≤ s.heap.size + kc := by
    have := X.same.2.2.1
    rw [← hT]
    exact this
  have hlo := vs_size hP (Nat.le_trans C.2.2.2.2.2.2.1 hS.1)
  have hH : H.size = b + mem.length := by omega
  have hra := (C.2.2.2.2.2.1.2 t _ ht).2
  rw [hobj] at hra
  refine va_newaK C.1 C.2.1 (C.2.2.2.2.1 _ hw) (g := F0 m pc ls (.int n :: st.map (vs_v b))) rfl hd rfl hn hN hbytes hcells hslots hH (fun H1 cA e1 z1 o1 hAr hNm => ?_) T hT X
  have hcA : cA = aC t := Option.some.inj (hNm.symm.trans hra)
  subst hcA
  refine kk H1 locs ls ?_ ⟨Nat.le_trans hS.1 (by omega), fun x g1 g2 => (o1 x (by have := hS.1; omega)).trans (hS.2.1 x g1 g2), hS.2.2⟩ (fun hc q hq => (o1 q (by have := hS.1; omega)).trans (hk hc q hq)) hl
  rw [vs_w_app0]
  refine va_P.app (hP.kept (fun k x hx => o1 x.1 (by rw [← hH]; exact (hP k x hx).lt))) (fun k x hx => ?_)
  have hz : k < 1 := (List.getElem?_eq_some_iff.mp hx).1
  rw [show k = 0 by omega] at hx
  cases hx
  show H1[b + mem.length]? = some (vp_cell _ _)
  rw [ha]
  exact e1
end Heap
end
section
section Arr
variable {p : Program} {l : Launch} {e : Env} {R : Room} {s : State} {m : MethodId} {args : Array Value} {below : List Frame} {meth : Method} {c : Code} {b : Nat} {D : va_G} {aC : Nat → ClassId} {nL : Nat} {Q : State → Prop} {kc ks : Nat} {ck : Bool} {mem : List vs_C} {pc : Nat} {lv : List (Option Value)} {st : List Value} {own : String} {cc : ByteArray}
theorem vs_iald (C : vs_X p s m args meth c b D aC own cc nL) {p0 n : Nat} {f : Nat → Int32} {j : Int32} (hd : decode cc pc = .ok (.iaload, 1)) (hm : mem[p0]? = some (.inl (0, n, .inl f))) (hin : vp_in j n) (kk : vs_G p l e R s m args below meth c b D aC nL Q kc ks ck mem (pc + 1) lv (.int (f j.toNatClampNeg) :: st)) : vs_G p l e R s m args below meth c b D aC nL Q kc ks ck mem pc lv (.int j :: .ref p0 :: st) := fun H locs ls hP hS hk hl => va_iald C.1 C.2.1 C.2.2.2.2.2.1 hP p0 0 (vs_w_at (b := b) (aC := aC) hm) rfl hin hd (kk H locs ls hP hS hk hl)
theorem vs_iast (C : vs_X p s m args meth c b D aC own cc nL) {p0 n : Nat} {f : Nat → Int32} {j : Int32} {x : Int32} (hd : decode cc pc = .ok (.iastore, 1)) (hm : mem[p0]? = some (.inl (0, n, .inl f))) (hin : vp_in j n) (kk : vs_G p l e R s m args below meth c b D aC nL Q kc ks false (mem.set p0 (.inl (0, n, .inl (upd f j.toNatClampNeg x)))) (pc + 1) lv st) : vs_G p l e R s m args below meth c b D aC nL Q kc ks ck mem pc lv (.int x :: .int j :: .ref p0 :: st) := fun H locs ls hP hS hk hl => va_iast C.1 C.2.1 C.2.2.2.2.2.1 hP vs_w_D hS p0 0 (vs_w_at (b := b) (aC := aC) hm) rfl hin hd (fun H1 locs1 hP1 _ hS1 => kk H1 locs1 ls (by rw [vs_w_set0]; exact hP1) hS1 (fun h => by cases h) hl)
theorem vs_lald (C : vs_X p s m args meth c b D aC own cc nL) {p0 n : Nat} {f : Nat → Int64} {j : Int32} (hd : decode cc pc = .ok (.laload, 1)) (hm : mem[p0]? = some (.inl (1, n, .inr (.inl f)))) (hin : vp_in j n) (kk : vs_G p l e R s m args below meth c b D aC nL Q kc ks ck mem (pc + 1) lv (.long (f j.toNatClampNeg) :: st)) : vs_G p l e R s m args below meth c b D aC nL Q kc ks ck mem pc lv (.int j :: .ref p0 :: st) := fun H locs ls hP hS hk hl => va_lald C.1 C.2.1 C.2.2.2.2.2.1 hP p0 1 (vs_w_at (b := b) (aC := aC) hm) rfl hin hd (kk H locs ls hP hS hk hl)
theorem vs_last (C : vs_X p s m args meth c b D aC own cc nL) {p0 n : Nat} {f : Nat → Int64} {j : Int32} {x : Int64} (hd : decode cc pc = .ok (.lastore, 1)) (hm : mem[p0]? = some (.inl (1, n, .inr (.inl f)))) (hin : vp_in j n) (kk : vs_G p l e R s m args below meth c b D aC nL Q kc ks false (mem.set p0 (.inl (1, n, .inr (.inl (vp_updL f j.toNatClampNeg x))))) (pc + 1) lv st) : vs_G p l e R s m args below meth c b D aC nL Q kc ks ck mem pc lv (.long x :: .int j :: .ref p0 :: st) := fun H locs ls hP hS hk hl => va_last C.1 C.2.1 C.2.2.2.2.2.1 hP vs_w_D hS p0 1 (vs_w_at (b := b) (aC := aC) hm) rfl hin hd (fun H1 locs1 hP1 _ hS1 => kk H1 locs1 ls (by rw [vs_w_set0]; exact hP1) hS1 (fun h => by cases h) hl)
theorem vs_fald (C : vs_X p s m args meth c b D aC own cc nL) {p0 n : Nat} {f : Nat → UInt32} {j : Int32} (hd : decode cc pc = .ok (.faload, 1)) (hm : mem[p0]? = some (.inl (2, n, .inr (.inr (.inl f))))) (hin : vp_in j n) (kk : vs_G p l e R s m args below meth c b D aC nL Q kc ks ck mem (pc + 1) lv (.float (f j.toNatClampNeg) :: st)) : vs_G p l e R s m args below meth c b D aC nL Q kc ks ck mem pc lv (.int j :: .ref p0 :: st) := fun H locs ls hP hS hk hl => va_fald C.1 C.2.1 C.2.2.2.2.2.1 hP p0 2 (vs_w_at (b := b) (aC := aC) hm) rfl hin hd (kk H locs ls hP hS hk hl)
theorem vs_fast (C : vs_X p s m args meth c b D aC own cc nL) {p0 n : Nat} {f : Nat → UInt32} {j : Int32} {x : UInt32} (hd : decode cc pc = .ok (.fastore, 1)) (hm : mem[p0]? = some (.inl (2, n, .inr (.inr (.inl f))))) (hin : vp_in j n) (kk : vs_G p l e R s m args below meth c b D aC nL Q kc ks false (mem.set p0 (.inl (2, n, .inr (.inr (.inl (vf_upd f j.toNatClampNeg x)))))) (pc + 1) lv st) : vs_G p l e R s m args below meth c b D aC nL Q kc ks ck mem pc lv (.float x :: .int j :: .ref p0 :: st) := fun H locs ls hP hS hk hl => va_fast C.1 C.2.1 C.2.2.2.2.2.1 hP vs_w_D hS p0 2 (vs_w_at (b := b) (aC := aC) hm) rfl hin hd (fun H1 locs1 hP1 _ hS1 => kk H1 locs1 ls (by rw [vs_w_set0]; exact hP1) hS1 (fun h => by cases h) hl)
theorem vs_zald (C : vs_X p s m args meth c b D aC own cc nL) {p0 n : Nat} {f : Nat → Int32} {j : Int32} (hd : decode cc pc = .ok (.baload, 1)) (hm : mem[p0]? = some (.inl (3, n, .inl f))) (hin : vp_in j n) (kk : vs_G p l e R s m args below meth c b D aC nL Q kc ks ck mem (pc + 1) lv (.int (f j.toNatClampNeg) :: st)) : vs_G p l e R s m args below meth c b D aC nL Q kc ks ck mem pc lv (.int j :: .ref p0 :: st) := fun H locs ls hP hS hk hl => va_zald C.1 C.2.1 C.2.2.2.2.2.1 hP p0 3 (vs_w_at (b := b) (aC := aC) hm) rfl hin hd (kk H locs ls hP hS hk hl)
theorem vs_zast (C : vs_X p s m args meth c b D aC own cc nL) {p0 n : Nat} {f : Nat → Int32} {j : Int32} {x : Int32} (hd : decode cc pc = .ok (.bastore, 1)) (hm : mem[p0]? = some (.inl (3, n, .inl f))) (hin : vp_in j n) (kk : vs_G p l e R s m args below meth c b D aC nL Q kc ks false (mem.set p0 (.inl (3, n, .inl (upd f j.toNatClampNeg (vp_nar .boolean x))))) (pc + 1) lv st) : vs_G p l e R s m args below meth c b D aC nL Q kc ks ck mem pc lv (.int x :: .int j :: .ref p0 :: st) := fun H locs ls hP hS hk hl => va_zast C.1 C.2.1 C.2.2.2.2.2.1 hP vs_w_D hS p0 3 (vs_w_at (b := b) (aC := aC) hm) rfl hin hd (fun H1 locs1 hP1 _ hS1 => kk H1 locs1 ls (by rw [vs_w_set0]; exact hP1) hS1 (fun h => by cases h) hl)
theorem vs_dald (C : vs_X p s m args meth c b D aC own cc nL) {p0 n : Nat} {f : Nat → UInt64} {j : Int32} (hd : decode cc pc = .ok (.daload, 1)) (hm : mem[p0]? = some (.inl (4, n, .inr (.inr (.inr (.inl f)))))) (hin : vp_in j n) (kk : vs_G p l e R s m args below meth c b D aC nL Q kc ks ck mem (pc + 1) lv (.double (f j.toNatClampNeg) :: st)) : vs_G p l e R s m args below meth c b D aC nL Q kc ks ck mem pc lv (.int j :: .ref p0 :: st) := fun H locs ls hP hS hk hl => va_dald C.1 C.2.1 C.2.2.2.2.2.1 hP p0 4 (vs_w_at (b := b) (aC := aC) hm) rfl hin hd (kk H locs ls hP hS hk hl)
theorem vs_dast (C : vs_X p s m args meth c b D aC own cc nL) {p0 n : Nat} {f : Nat → UInt64} {j : Int32} {x : UInt64} (hd : decode cc pc = .ok (.dastore, 1)) (hm : mem[p0]? = some (.inl (4, n, .inr (.inr (.inr (.inl f)))))) (hin : vp_in j n) (kk : vs_G p l e R s m args below meth c b D aC nL Q kc ks false (mem.set p0 (.inl (4, n, .inr (.inr (.inr (.inl (vf_upd f j.toNatClampNeg x))))))) (pc + 1) lv st) : vs_G p l e R s m args below meth c b D aC nL Q kc ks ck mem pc lv (.double x :: .int j :: .ref p0 :: st) := fun H locs ls hP hS hk hl => va_dast C.1 C.2.1 C.2.2.2.2.2.1 hP vs_w_D hS p0 4 (vs_w_at (b := b) (aC := aC) hm) rfl hin hd (fun H1 locs1 hP1 _ hS1 => kk H1 locs1 ls (by rw [vs_w_set0]; exact hP1) hS1 (fun h => by cases h) hl)
theorem vs_alen (C : vs_X p s m args meth c b D aC own cc nL) {p0 t : Nat} {x : vp_A} {ty : FieldType} {v : Int32} (ht : (vs_t aC)[t]? = some (aC t, ty)) (hv : Int32.ofNat x.1 = v) (hd : decode cc pc = .ok (.arraylength, 1)) (hm : mem[p0]? = some (.inl (t, x))) (kk : vs_G p l e R s m args below meth c b D aC nL Q kc ks ck mem (pc + 1) lv (.int v :: st)) : vs_G p l e R s m args below meth c b D aC nL Q kc ks ck mem pc lv (.ref p0 :: st) := fun H locs ls hP hS hk hl => va_alen C.1 C.2.1 C.2.2.2.2.2.1 hP p0 t (vs_w_at (b := b) (aC := aC) hm) ht hv hd (kk H locs ls hP hS hk hl)
end Arr
end
section
/-- exception kinds -/
def vs_n : Nat → String
  | 0 => "java/lang/IllegalArgumentException"
  | 1 => "java/lang/IllegalStateException"
  | 2 => "java/util/NoSuchElementException"
  | 3 => "java/lang/IndexOutOfBoundsException"
  | _ => "java/lang/UnsupportedOperationException"
/-- how an invocation ends: with a value (by position), or thrown: kind k -/
def vs_o (b : Nat) (t : State) (r : Option Value ⊕ Nat) (oc : Outcome) : Prop := match r with
  | .inl v => oc = .returned (v.map (vs_v b))
  | .inr k => ∃ (x : Addr) (cell : Cell), oc = .threw x ∧ t.heap[x]? = some cell ∧ t.vm.findClass (vs_n k) = some cell.cls ∧ cell.vm.isStatics = false
def vs_Q (b : Nat) (D : va_G) (aC : Nat → ClassId) (tg pu : Bool) (post : (Option Value ⊕ Nat) → List vs_C → Prop) : Array Value → State → Outcome → State → Prop := fun _ st oc t => ∃ (r : Option Value ⊕ Nat) (mem' : List vs_C), vs_o b t r oc ∧ post r mem' ∧ va_P D vwCl (vs_w b aC 0 mem') t.heap ∧ (tg = true → t.heap.size = b + mem'.length) ∧ (pu = true → ∀ q : Nat, q < st.heap.size → t.heap[q]? = st.heap[q]?) ∧ va_F (fun q => b ≤ q) st t
def vs_Fr (st t : State) (L : List Loc) (k n : Nat) : Prop := st.WarmedH t.vm ∧ st.sameButNew ({ t with vm := st.vm } : State) L k n
def vs_P (b : Nat) (D : va_G) (aC : Nat → ClassId) (tg : Bool) (av : List Value) (mem : List vs_C) : Array Value → State → Prop := fun v U => v = (av.map (vs_v b)).toArray ∧ va_P D vwCl (vs_w b aC 0 mem) U.heap ∧ va_K D vwCl (vs_t aC) U ∧ b ≤ U.heap.size ∧ (tg = true → U.heap.size = b + mem.length) ∧ vs_Z b U U.heap ∧ (∀ w ∈ gN, va_Nw w U)
/-- THE CONTRACT of y at these arguments and this memory: it ends, and 'post' holds of its end -/
def vs_M (l : Launch) (b : Nat) (D : va_G) (aC : Nat → ClassId) (tg pu : Bool) (y : MethodName) (cw : Cond) (rm : Room) (av : List Value) (mem : List vs_C) (post : (Option Value ⊕ Nat) → List vs_C → Prop) : Prop :=
  MetFree l y (headSpec (cw :: gT) rm) (vs_P b D aC tg av mem) (fun _ _ _ _ _ => True) (fun a st o t => vs_Q b D aC tg pu post a st o t ∧ ∃ L, vs_Fr st t L rm.cells rm.slots ∧ ∀ q ∈ L, b ≤ q.base)
/-- the end of a walk -/
def vs_E (below : List Frame) (args : Array Value) (s : State) (b : Nat) (D : va_G) (aC : Nat → ClassId) (tg pu : Bool) (post : (Option Value ⊕ Nat) → List vs_C → Prop) (rm : Room) : State → Prop := fun t => ∃ o, t.status = .running ∧ Ended t below o ∧ (vs_Q b D aC tg pu post args s o t ∧ ∃ L, vs_Fr s t L rm.cells rm.slots ∧ ∀ q ∈ L, b ≤ q.base)
theorem vs_P_blind {b : Nat} {D : va_G} {aC : Nat → ClassId} {tg : Bool} {av : List Value} {mem : List vs_C} : FrameBlind (vs_P b D aC tg av mem) := by
  intro a U g mk q
  obtain ⟨q0, qP, qK, qb, qt, qZ, qN⟩ := q
  exact ⟨q0, qP, va_K.moved (u := U) (U := U.calling g mk a) (Vm.Alike.refl U.vm) qK, qb, qt, qZ.moved (u := U) (U := U.calling g mk a) (Vm.Alike.refl U.vm) (fun _ _ => rfl), fun w hw => va_Nw.same (u := U) (U := U.calling g mk a) (gN_tab hw) rfl (qN w hw)⟩
theorem vs_M.of {l : Launch} {b : Nat} {D : va_G} {aC : Nat → ClassId} {tg pu : Bool} {y : MethodName} {cc : ByteArray} {mL : Nat} {rt : Option FieldType} {rm : Room} {av : List Value} {mem : List vs_C} {post : (Option Value ⊕ Nat) → List vs_C → Prop} (hy : plainName y.cls = true) (hlen : (vs_e av).length ≤ mL)
    (body : ∀ p e s m args below meth c, vs_X p s m args meth c b D aC y.cls cc mL → meth.name = y.name → meth.sig.returnType = rt → c.exceptionTable.isEmpty = true → (tg = true → s.heap.size = b + mem.length) → vs_G p l e rm s m args below meth c b D aC mL (vs_E below args s b D aC tg pu post rm) 0 0 true mem 0 (vs_e0 mL av) []) : vs_M l b D aC tg pu y (.code y cc mL rt) rm av mem post := by
  refine MetFree.of_bodyS (code := cc) (maxLocals := mL) (ret := rt) hy ?_ ?_
  · intro args s m h hn
    obtain ⟨meth, c, h1, h2, h3, h4, h5, h6, -, -⟩ := Cond.code_spec hn (atoms_spec (ws := Cond.code y cc mL rt :: gT) h _ List.mem_cons_self)
    exact ⟨meth, c, h1, h2, h3, h4, h5, h6⟩
  · intro p e s m args below meth c s₁ B hml hP _
    obtain ⟨rfl, qP, qK, qb, qt, qZ, qN⟩ := hP
    have hts := atoms_spec (ws := Cond.code y cc mL rt :: gT) B.pre
    have hh0 : s₁.heap = s.heap := by rw [B.state]; rfl
    have hG := body p e s m _ below meth c ⟨B.exec, B.bytes, hml, findClass_of_methodNamed B.named, fun w h => hts w (List.mem_cons_of_mem _ h), qK, qb, B.notSynchronized, qZ, qN⟩ (name_of_methodNamed B.named B.method).1 B.returns (B.noHandlers (hts _ List.mem_cons_self)) qt
    have hW := hG s.heap [] _ qP va_S.rf (fun _ _ _ => rfl) (vs_entry (b := b) (nL := mL) (av := av) hlen)
    rw [List.map_nil, ← lg_entry_eq] at hW
    obtain ⟨t, a1, o, b1, b2, b3⟩ := hW s₁ hh0 (Stand.of_body B)
    exact ⟨t, o, a1, b1, b2, b3⟩
/-- a contract without throws is one of the kit's -/
theorem vs_M.met {l : Launch} {b : Nat} {D : va_G} {aC : Nat → ClassId} {tg pu : Bool} {y : MethodName} {cw : Cond} {rm : Room} {av : List Value} {mem : List vs_C} {post : (Option Value ⊕ Nat) → List vs_C → Prop} (h : vs_M l b D aC tg pu y cw rm av mem post) (hno : ∀ k mem', ¬ post (.inr k) mem') : Met l y (cw :: gT) rm (vs_P b D aC tg av mem) (vs_Q b D aC tg pu post) rm.cells rm.slots (fun q => b ≤ q) := by
  intro p e ha hc hk s m args below hf happ hP hK
  obtain ⟨n, o, h1, h2, h3, hq, L, ⟨f1, f2⟩, h5⟩ := h p e ha hc hk s m args below hf happ hP hK
  refine ⟨n, o, h1, h2, h3, hq, L, ⟨?_, f1, f2⟩, h5⟩
  obtain ⟨r, mem', ho, hp, -⟩ := hq
  cases r with
  | inl v => exact ⟨_, ho⟩
  | inr k => exact absurd hp (hno k mem')
/-- the words on a method -/
def vs_Y (y : MethodName) (cc : ByteArray) (mL : Nat) (rt : Option FieldType) (n : Nat) : Prop := Cond.code y cc mL rt ∈ gT ∧ Cond.initialized y.cls ∈ gT ∧ y.cls ≠ "java/lang/invoke/MethodHandle" ∧ y.cls ≠ "java/lang/invoke/VarHandle" ∧ (parseMethodDescriptor y.desc).map (fun d => d.parameters.length) = some n
def vs_L (own : String) (idx : Nat) (y : MethodName) : Prop := Cond.methodLink own idx y ∈ gT ∨ ∃ host, Cond.methodLinkNest own idx y host ∈ gN
theorem gT_sub {cw : Cond} (h : cw ∈ gT) : GoodIn gT (cw :: gT) := fun w hw => (List.mem_cons.mp hw).elim (fun e => by rw [e]; exact gT_good _ h) (gT_good w)
section Calls
variable {p : Program} {l : Launch} {e : Env} {R : Room} {s : State} {m : MethodId} {args : Array Value} {below : List Frame} {meth : Method} {c : Code} {b : Nat} {D : va_G} {aC : Nat → ClassId} {nL : Nat} {Q : State → Prop} {kc ks : Nat} {ck : Bool} {mem : List vs_C} {pc : Nat} {lv : List (Option Value)} {st : List Value} {own : String} {cc : ByteArray}
theorem vs_after {H : Heap} {locs : List Loc} {ls : Array Slot} {st0 rest : List Value} {a : Array Value} {mc ms : Nat} {tg pu : Bool} {post : (Option Value ⊕ Nat) → List vs_C → Prop} (hr : va_Run p l e R s m args below meth c H locs kc ks mc ms (F0 m pc ls st0) rest (vs_Q b D aC tg pu post a) (fun q => b ≤ q)) (hS : va_S (fun q => b ≤ q) s.heap H locs)
    (kk : ∀ (r : Option Value) (mem' : List vs_C) (H1 : Heap) (locs1 : List Loc), post (.inl r) mem' → va_P D vwCl (vs_w b aC 0 mem') H1 → va_S (fun q => b ≤ q) s.heap H1 locs1 → (pu = true → ∀ q : Nat, q < H.size → H1[q]? = H[q]?) → W p l e R s m args below meth c H1 locs1 (kc + mc) (ks + ms) Q (F0 m (pc + 3) ls ((r.map (vs_v b)).toList ++ rest))) : W p l e R s m args below meth c H locs kc ks Q (F0 m pc ls st0) := by
  intro T hT X
  obtain ⟨v, st₀, t, T', L, h0, X', hL, e1, e2, ⟨r, mem', ho, hp, hP, -, hpu, hz, hk⟩, st⟩ := hr T hT X
  rw [h0] at hz hk hpu
  cases r with
  | inr k => obtain ⟨x, cell, hx, -⟩ := ho; cases hx
  | inl r =>
    cases ho
    have hS' : va_S (fun q => b ≤ q) s.heap T'.heap (locs ++ L) := ⟨Nat.le_trans hS.1 (by rw [e1]; exact hz), fun q h1 h2 => by rw [e1, hk q (Nat.lt_of_lt_of_le h1 hS.1) h2]; exact hS.2.1 q h1 h2, fun q hq => by
      rcases List.mem_append.mp hq with h | h
      · exact hS.2.2 q h
      · exact hL q h⟩
    obtain ⟨t2, a1, b1⟩ := kk r mem' T'.heap (locs ++ L) hp (by rw [e1]; exact hP) hS' (fun h q hq => by rw [e1]; exact hpu h q hq) T' rfl X'
    exact ⟨t2, st t2 a1, b1⟩
theorem vs_pre (C : vs_X p s m args meth c b D aC own cc nL) {H : Heap} {locs : List Loc} {av : List Value} {tg : Bool} (hP : va_P D vwCl (vs_w b aC 0 mem) H) (hS : va_S (fun q => b ≤ q) s.heap H locs) (ht : tg = true → H.size = b + mem.length) : ∀ U : State, U.heap = H → s.WarmedH U.vm → vs_P b D aC tg av mem (av.map (vs_v b)).toArray U := by
  intro U hU hW
  refine ⟨rfl, by rw [hU]; exact hP, va_K.moved hW.alike C.2.2.2.2.2.1, by rw [hU]; exact Nat.le_trans C.2.2.2.2.2.2.1 hS.1, by rw [hU]; exact ht, C.2.2.2.2.2.2.2.2.1.moved hW.alike (fun a ha => by rw [hU]; exact hS.2.1 a (Nat.lt_of_lt_of_le ha C.2.2.2.2.2.2.1) (by omega)), fun w hw => gN_warm hw hW (C.2.2.2.2.2.2.2.2.2 w hw)⟩
/-- a method that is called on an object: its memory is given over whole -/
theorem vs_callV (C : vs_X p s m args meth c b D aC own cc nL) {idx n p0 ci mL : Nat} {y : MethodName} {bytes : ByteArray} {rt : Option FieldType} {rm : Room} {As fs : List Value} {tg pu : Bool} {post : (Option Value ⊕ Nat) → List vs_C → Prop} (hM : vs_M l b D aC tg pu y (.code y bytes mL rt) rm (.ref p0 :: As) mem post) (hno : ∀ k mem', ¬ post (.inr k) mem') (hY : vs_Y y bytes mL rt n) (hL : vs_L own idx y) (hi : Cond.instanceMethod y ∈ gT) (hs : Cond.selects y.cls y y ∈ gT) (hd : decode cc pc = .ok (.invokevirtual idx, 3)) (hm : mem[p0]? = some (.inr (ci, fs))) (hci : (vwCl[ci]?).map (fun q => q.1) = some y.cls) (hn : As.length = n) (hw : (st.map fun v => v.category).sum ≤ 8) (hR : rm.frames + 1 ≤ R.frames ∧ 8 + (mL + 11) + rm.locals ≤ R.locals) (hf : kc + rm.cells ≤ R.cells ∧ ks + rm.slots ≤ R.slots) (ht : tg = true → s.heap.size + kc ≤ b + mem.length)
    (kk : ∀ (r : Option Value) (mem' : List vs_C), post (.inl r) mem' → vs_G p l e R s m args below meth c b D aC nL Q (kc + rm.cells) (ks + rm.slots) (ck && pu) mem' (pc + 3) lv (r.toList ++ st)) : vs_G p l e R s m args below meth c b D aC nL Q kc ks ck mem pc lv (As.reverse ++ .ref p0 :: st) := by
  intro H locs ls hP hS hk hl T hT X
  have hup : H.size ≤ s.heap.size + kc := by
    have := X.same.2.2.1
    rw [← hT]
    exact this
  have hlo := vs_size hP (Nat.le_trans C.2.2.2.2.2.2.1 hS.1)
  have hrest : ((st.map (vs_v b)).map fun v => v.category).sum ≤ 8 := by
    rw [List.map_map]
    simpa [Function.comp_def, vs_v_cat] using hw
  have hpre : PreV s H y.cls (b + p0) (vs_P b D aC tg (.ref p0 :: As) mem) (As.map (vs_v b)) := by
    obtain ⟨q, hq, hq1⟩ := Option.map_eq_some_iff.mp hci
    refine ⟨vs_P_blind, ?_, vs_pre C hP hS (fun h => by have := ht h; omega)⟩
    rw [← hq1]
    exact va_recv C.2.2.2.2.2.1 hP hq (vs_w_at (b := b) (aC := aC) hm)
  have hmet := hM.met hno
  have hstack : (F0 m pc ls ((As.reverse ++ .ref p0 :: st).map (vs_v b))).stack = (As.map (vs_v b)).reverse ++ .ref (b + p0) :: st.map (vs_v b) := by
    show (As.reverse ++ .ref p0 :: st).map (vs_v b) = _
    rw [List.map_append, List.map_reverse]
    rfl
  have hgo : ∀ (r : Option Value) (mem' : List vs_C) (H1 : Heap) (locs1 : List Loc), post (.inl r) mem' → va_P D vwCl (vs_w b aC 0 mem') H1 → va_S (fun q => b ≤ q) s.heap H1 locs1 → (pu = true → ∀ q : Nat, q < H.size → H1[q]? = H[q]?) → W p l e R s m args below meth c H1 locs1 (kc + rm.cells) (ks + rm.slots) Q (F0 m (pc + 3) ls ((r.map (vs_v b)).toList ++ st.map (vs_v b))) := by
    intro r mem' H1 locs1 hp hP1 hS1 hp1
    have := kk r mem' hp H1 locs1 ls hP1 hS1 (fun h q hq => by rw [Bool.and_eq_true] at h; rw [hp1 h.2 q (Nat.lt_of_lt_of_le hq hS.1)]; exact hk h.1 q hq) hl
    cases r <;> exact this
  have hS5 : CallFix p m c cc nL s args gT own := ⟨C.1, C.2.1, C.2.2.1, C.2.2.2.1, C.2.2.2.2.1⟩
  have hrun : va_Run p l e R s m args below meth c H locs kc ks rm.cells rm.slots (F0 m pc ls ((As.reverse ++ .ref p0 :: st).map (vs_v b))) (st.map (vs_v b)) (vs_Q b D aC tg pu post (Value.ref (b + p0) :: As.map (vs_v b)).toArray) (fun q => b ≤ q) := by
    rcases hL with hL | ⟨host, hL⟩
    · exact va_runV hS5 hmet (n := n) ⟨callB_of n C.2.2.2.2.1 (gT_sub hY.1) rfl rfl rfl (C.2.2.2.2.1 _ hY.2.1) (C.2.2.2.2.1 _ hL) hY.2.2 hR, C.2.2.2.2.1 _ hi, C.2.2.2.2.1 _ hs⟩ hpre rfl (by simpa using hn) hl.1 hstack (lv_room hrest) hd hf
    · exact va_runVN hS5 hmet (n := n) ⟨va_cnB n C.2.2.2.2.1 (gT_sub hY.1) rfl rfl rfl (C.2.2.2.2.2.2.2.2.2 _ hL) (C.2.2.2.2.1 _ hY.2.1) hY.2.2 hR, C.2.2.2.2.1 _ hi, C.2.2.2.2.1 _ hs⟩ hpre rfl (by simpa using hn) hl.1 hstack (lv_room hrest) hd hf
  exact vs_after hrun hS hgo T hT X
theorem vs_callS (C : vs_X p s m args meth c b D aC own cc nL) {idx n mL : Nat} {y : MethodName} {bytes : ByteArray} {rt : Option FieldType} {rm : Room} {As : List Value} {tg pu : Bool} {post : (Option Value ⊕ Nat) → List vs_C → Prop} (hM : vs_M l b D aC tg pu y (.code y bytes mL rt) rm As mem post) (hno : ∀ k mem', ¬ post (.inr k) mem') (hY : vs_Y y bytes mL rt n) (hL : vs_L own idx y) (hi : Cond.static y ∈ gT) (hd : decode cc pc = .ok (.invokestatic idx, 3)) (hn : As.length = n) (hw : (st.map fun v => v.category).sum ≤ 8) (hR : rm.frames + 1 ≤ R.frames ∧ 8 + (mL + 11) + rm.locals ≤ R.locals) (hf : kc + rm.cells ≤ R.cells ∧ ks + rm.slots ≤ R.slots) (ht : tg = true → s.heap.size + kc ≤ b + mem.length)
    (kk : ∀ (r : Option Value) (mem' : List vs_C), post (.inl r) mem' → vs_G p l e R s m args below meth c b D aC nL Q (kc + rm.cells) (ks + rm.slots) (ck && pu) mem' (pc + 3) lv (r.toList ++ st)) : vs_G p l e R s m args below meth c b D aC nL Q kc ks ck mem pc lv (As.reverse ++ st) := by
  intro H locs ls hP hS hk hl T hT X
  have hup : H.size ≤ s.heap.size + kc := by
    have := X.same.2.2.1
    rw [← hT]
    exact this
  have hlo := vs_size hP (Nat.le_trans C.2.2.2.2.2.2.1 hS.1)
  have hrest : ((st.map (vs_v b)).map fun v => v.category).sum ≤ 8 := by
    rw [List.map_map]
    simpa [Function.comp_def, vs_v_cat] using hw
  have hpre : PreS s H (vs_P b D aC tg As mem) (As.map (vs_v b)) := ⟨vs_P_blind, vs_pre C hP hS (fun h => by have := ht h; omega)⟩
  have hmet := hM.met hno
  have hstack : (F0 m pc ls ((As.reverse ++ st).map (vs_v b))).stack = (As.map (vs_v b)).reverse ++ st.map (vs_v b) := by
    show (As.reverse ++ st).map (vs_v b) = _
    rw [List.map_append, List.map_reverse]
  have hgo : ∀ (r : Option Value) (mem' : List vs_C) (H1 : Heap) (locs1 : List Loc), post (.inl r) mem' → va_P D vwCl (vs_w b aC 0 mem') H1 → va_S (fun q => b ≤ q) s.heap H1 locs1 → (pu = true → ∀ q : Nat, q < H.size → H1[q]? = H[q]?) → W p l e R s m args below meth c H1 locs1 (kc + rm.cells) (ks + rm.slots) Q (F0 m (pc + 3) ls ((r.map (vs_v b)).toList ++ st.map (vs_v b))) := by
    intro r mem' H1 locs1 hp hP1 hS1 hp1
    have := kk r mem' hp H1 locs1 ls hP1 hS1 (fun h q hq => by rw [Bool.and_eq_true] at h; rw [hp1 h.2 q (Nat.lt_of_lt_of_le hq hS.1)]; exact hk h.1 q hq) hl
    cases r <;> exact this
  have hS5 : CallFix p m c cc nL s args gT own := ⟨C.1, C.2.1, C.2.2.1, C.2.2.2.1, C.2.2.2.2.1⟩
  have hrun : va_Run p l e R s m args below meth c H locs kc ks rm.cells rm.slots (F0 m pc ls ((As.reverse ++ st).map (vs_v b))) (st.map (vs_v b)) (vs_Q b D aC tg pu post (As.map (vs_v b)).toArray) (fun q => b ≤ q) := by
    rcases hL with hL | ⟨host, hL⟩
    · exact va_runS hS5 hmet (n := n) ⟨callB_of n C.2.2.2.2.1 (gT_sub hY.1) rfl rfl rfl (C.2.2.2.2.1 _ hY.2.1) (C.2.2.2.2.1 _ hL) hY.2.2 hR, C.2.2.2.2.1 _ hi⟩ hpre rfl (by simpa using hn) hl.1 hstack (lv_room hrest) hd hf
    · exact va_runSN hS5 hmet (n := n) ⟨va_cnB n C.2.2.2.2.1 (gT_sub hY.1) rfl rfl rfl (C.2.2.2.2.2.2.2.2.2 _ hL) (C.2.2.2.2.1 _ hY.2.1) hY.2.2 hR, C.2.2.2.2.1 _ hi, trivial⟩ hpre rfl (by simpa using hn) hl.1 hstack (lv_room hrest) hd hf
  exact vs_after hrun hS hgo T hT X
theorem vs_callI (C : vs_X p s m args meth c b D aC own cc nL) {idx n p0 mL : Nat} {y : MethodName} {bytes : ByteArray} {rm : Room} {As : List Value} {tg pu : Bool} {post : (Option Value ⊕ Nat) → List vs_C → Prop} (hM : vs_M l b D aC tg pu y (.code y bytes mL none) rm (.ref p0 :: As) mem post) (hno : ∀ k mem', ¬ post (.inr k) mem') (hY : vs_Y y bytes mL none n) (hL : vs_L own idx y) (hi : Cond.instanceMethod y ∈ gT) (hyn : y.name = "<init>") (hd : decode cc pc = .ok (.invokespecial idx, 3)) (hn : As.length = n) (hw : (st.map fun v => v.category).sum ≤ 8) (hR : rm.frames + 1 ≤ R.frames ∧ 8 + (mL + 11) + rm.locals ≤ R.locals) (hf : kc + rm.cells ≤ R.cells ∧ ks + rm.slots ≤ R.slots) (ht : tg = true → s.heap.size + kc ≤ b + mem.length)
    (kk : ∀ (r : Option Value) (mem' : List vs_C), post (.inl r) mem' → vs_G p l e R s m args below meth c b D aC nL Q (kc + rm.cells) (ks + rm.slots) (ck && pu) mem' (pc + 3) lv (r.toList ++ st)) : vs_G p l e R s m args below meth c b D aC nL Q kc ks ck mem pc lv (As.reverse ++ .ref p0 :: st) := by
  intro H locs ls hP hS hk hl T hT X
  have hup : H.size ≤ s.heap.size + kc := by
    have := X.same.2.2.1
    rw [← hT]
    exact this
  have hlo := vs_size hP (Nat.le_trans C.2.2.2.2.2.2.1 hS.1)
  have hrest : ((st.map (vs_v b)).map fun v => v.category).sum ≤ 8 := by
    rw [List.map_map]
    simpa [Function.comp_def, vs_v_cat] using hw
  have hpre : PreS s H (vs_P b D aC tg (.ref p0 :: As) mem) (.ref (b + p0) :: As.map (vs_v b)) := ⟨vs_P_blind, vs_pre C hP hS (fun h => by have := ht h; omega)⟩
  have hmet := hM.met hno
  have hstack : (F0 m pc ls ((As.reverse ++ .ref p0 :: st).map (vs_v b))).stack = (As.map (vs_v b)).reverse ++ .ref (b + p0) :: st.map (vs_v b) := by
    show (As.reverse ++ .ref p0 :: st).map (vs_v b) = _
    rw [List.map_append, List.map_reverse]
    rfl
  have hgo : ∀ (r : Option Value) (mem' : List vs_C) (H1 : Heap) (locs1 : List Loc), post (.inl r) mem' → va_P D vwCl (vs_w b aC 0 mem') H1 → va_S (fun q => b ≤ q) s.heap H1 locs1 → (pu = true → ∀ q : Nat, q < H.size → H1[q]? = H[q]?) → W p l e R s m args below meth c H1 locs1 (kc + rm.cells) (ks + rm.slots) Q (F0 m (pc + 3) ls ((r.map (vs_v b)).toList ++ st.map (vs_v b))) := by
    intro r mem' H1 locs1 hp hP1 hS1 hp1
    have := kk r mem' hp H1 locs1 ls hP1 hS1 (fun h q hq => by rw [Bool.and_eq_true] at h; rw [hp1 h.2 q (Nat.lt_of_lt_of_le hq hS.1)]; exact hk h.1 q hq) hl
    cases r <;> exact this
  have hS5 : CallFix p m c cc nL s args gT own := ⟨C.1, C.2.1, C.2.2.1, C.2.2.2.1, C.2.2.2.2.1⟩
  have hrun : va_Run p l e R s m args below meth c H locs kc ks rm.cells rm.slots (F0 m pc ls ((As.reverse ++ .ref p0 :: st).map (vs_v b))) (st.map (vs_v b)) (vs_Q b D aC tg pu post (Value.ref (b + p0) :: As.map (vs_v b)).toArray) (fun q => b ≤ q) := by
    rcases hL with hL | ⟨host, hL⟩
    · exact va_runI hS5 hmet (n := n) ⟨callB_of n C.2.2.2.2.1 (gT_sub hY.1) rfl rfl rfl (C.2.2.2.2.1 _ hY.2.1) (C.2.2.2.2.1 _ hL) hY.2.2 hR, hyn, C.2.2.2.2.1 _ hi⟩ hpre rfl (by simpa using hn) hl.1 hstack (lv_room hrest) hd hf
    · exact va_runIN hS5 hmet (n := n) ⟨va_cnB n C.2.2.2.2.1 (gT_sub hY.1) rfl rfl rfl (C.2.2.2.2.2.2.2.2.2 _ hL) (C.2.2.2.2.1 _ hY.2.1) hY.2.2 hR, hyn, C.2.2.2.2.1 _ hi⟩ hpre rfl (by simpa using hn) hl.1 hstack (lv_room hrest) hd hf
  exact vs_after hrun hS hgo T hT X
theorem W.weak {H : Heap} {locs : List Loc} {g : JFrame} {Q' : State → Prop} (h : ∀ t, Q t → Q' t) (k : W p l e R s m args below meth c H locs kc ks Q g) : W p l e R s m args below meth c H locs kc ks Q' g := fun T hT X => by
  obtain ⟨t, a, q⟩ := k T hT X
  exact ⟨t, a, h t q⟩
end Calls
end
section
section Ends
variable {p : Program} {l : Launch} {e : Env} {R : Room} {s : State} {m : MethodId} {args : Array Value} {below : List Frame} {meth : Method} {c : Code} {b : Nat} {D : va_G} {aC : Nat → ClassId} {nL : Nat} {Q : State → Prop} {kc ks : Nat} {ck : Bool} {mem : List vs_C} {pc : Nat} {lv : List (Option Value)} {st : List Value} {own : String} {cc : ByteArray} {tg pu : Bool} {post : (Option Value ⊕ Nat) → List vs_C → Prop} {rm : Room}
theorem vs_toE (t : State) (h : MQ below (vs_Q b D aC tg pu post) args s rm.cells rm.slots (fun q => b ≤ q) t) : vs_E below args s b D aC tg pu post rm t := by
  obtain ⟨o, h1, h2, h3, L, ⟨-, h4, h5⟩, h6⟩ := h
  exact ⟨o, h1, h2, h3, L, ⟨h4, h5⟩, h6⟩
theorem vs_up (C : vs_X p s m args meth c b D aC own cc nL) {H : Heap} {locs : List Loc} {T : State} (hP : va_P D vwCl (vs_w b aC 0 mem) H) (hS : va_S (fun q => b ≤ q) s.heap H locs) (hT : T.heap = H) (X : Stand p l e R s m args below meth c T locs kc ks) (ht : tg = true → s.heap.size + kc ≤ b + mem.length) : tg = true → H.size = b + mem.length := by
  intro h
  have h1 := ht h
  have h2 : H.size ≤ s.heap.size + kc := by
    have := X.same.2.2.1
    rw [← hT]
    exact this
  have h3 := vs_size hP (Nat.le_trans C.2.2.2.2.2.2.1 hS.1)
  omega
theorem vs_iret (C : vs_X p s m args meth c b D aC own cc nL) {v : Int32} (hr : meth.sig.returnType = some .int) (hd : decode cc pc = .ok (.ireturn, 1)) (hc : kc ≤ rm.cells ∧ ks ≤ rm.slots) (ht : tg = true → s.heap.size + kc ≤ b + mem.length) (hu : pu = true → ck = true) (hp : post (.inl (some (.int v))) mem) : vs_G p l e R s m args below meth c b D aC nL (vs_E below args s b D aC tg pu post rm) kc ks ck mem pc lv [.int v] := by
  intro H locs ls hP hS hk hl T hT X
  have hz := vs_up C hP hS hT X ht
  exact W.widen hc.1 hc.2 (W.weak vs_toE (W.iret (Qc := vs_Q b D aC tg pu post) (free := fun q => b ≤ q) C.1 C.2.1 hr (fun t h1 _ => ⟨.inl (some (.int v)), mem, rfl, hp, by rw [h1]; exact hP, by rw [h1]; exact hz, fun h q hq => by rw [h1]; exact hk (hu h) q hq, hS.F h1⟩) hS.2.2 hd C.2.2.2.2.2.2.2.1)) T hT X
theorem vs_lret (C : vs_X p s m args meth c b D aC own cc nL) {v : Int64} (hr : meth.sig.returnType = some .long) (hd : decode cc pc = .ok (.lreturn, 1)) (hc : kc ≤ rm.cells ∧ ks ≤ rm.slots) (ht : tg = true → s.heap.size + kc ≤ b + mem.length) (hu : pu = true → ck = true) (hp : post (.inl (some (.long v))) mem) : vs_G p l e R s m args below meth c b D aC nL (vs_E below args s b D aC tg pu post rm) kc ks ck mem pc lv [.long v] := by
  intro H locs ls hP hS hk hl T hT X
  have hz := vs_up C hP hS hT X ht
  exact W.widen hc.1 hc.2 (W.weak vs_toE (W.lret (Qc := vs_Q b D aC tg pu post) (free := fun q => b ≤ q) C.1 C.2.1 hr (fun t h1 _ => ⟨.inl (some (.long v)), mem, rfl, hp, by rw [h1]; exact hP, by rw [h1]; exact hz, fun h q hq => by rw [h1]; exact hk (hu h) q hq, hS.F h1⟩) hS.2.2 hd C.2.2.2.2.2.2.2.1)) T hT X
theorem vs_fret (C : vs_X p s m args meth c b D aC own cc nL) {v : UInt32} (hr : meth.sig.returnType = some .float) (hd : decode cc pc = .ok (.freturn, 1)) (hc : kc ≤ rm.cells ∧ ks ≤ rm.slots) (ht : tg = true → s.heap.size + kc ≤ b + mem.length) (hu : pu = true → ck = true) (hp : post (.inl (some (.float v))) mem) : vs_G p l e R s m args below meth c b D aC nL (vs_E below args s b D aC tg pu post rm) kc ks ck mem pc lv [.float v] := by
  intro H locs ls hP hS hk hl T hT X
  have hz := vs_up C hP hS hT X ht
  exact W.widen hc.1 hc.2 (W.weak vs_toE (W.fret (Qc := vs_Q b D aC tg pu post) (free := fun q => b ≤ q) C.1 C.2.1 hr (fun t h1 _ => ⟨.inl (some (.float v)), mem, rfl, hp, by rw [h1]; exact hP, by rw [h1]; exact hz, fun h q hq => by rw [h1]; exact hk (hu h) q hq, hS.F h1⟩) hS.2.2 hd C.2.2.2.2.2.2.2.1)) T hT X
theorem vs_dret (C : vs_X p s m args meth c b D aC own cc nL) {v : UInt64} (hr : meth.sig.returnType = some .double) (hd : decode cc pc = .ok (.dreturn, 1)) (hc : kc ≤ rm.cells ∧ ks ≤ rm.slots) (ht : tg = true → s.heap.size + kc ≤ b + mem.length) (hu : pu = true → ck = true) (hp : post (.inl (some (.double v))) mem) : vs_G p l e R s m args below meth c b D aC nL (vs_E below args s b D aC tg pu post rm) kc ks ck mem pc lv [.double v] := by
  intro H locs ls hP hS hk hl T hT X
  have hz := vs_up C hP hS hT X ht
  exact W.widen hc.1 hc.2 (W.weak vs_toE (W.dret (Qc := vs_Q b D aC tg pu post) (free := fun q => b ≤ q) C.1 C.2.1 hr (fun t h1 _ => ⟨.inl (some (.double v)), mem, rfl, hp, by rw [h1]; exact hP, by rw [h1]; exact hz, fun h q hq => by rw [h1]; exact hk (hu h) q hq, hS.F h1⟩) hS.2.2 hd C.2.2.2.2.2.2.2.1)) T hT X
theorem vs_zret (C : vs_X p s m args meth c b D aC own cc nL) {v : Int32} (hr : meth.sig.returnType = some .boolean) (hn : narrow .boolean (.int v) = .int v) (hd : decode cc pc = .ok (.ireturn, 1)) (hc : kc ≤ rm.cells ∧ ks ≤ rm.slots) (ht : tg = true → s.heap.size + kc ≤ b + mem.length) (hu : pu = true → ck = true) (hp : post (.inl (some (.int v))) mem) : vs_G p l e R s m args below meth c b D aC nL (vs_E below args s b D aC tg pu post rm) kc ks ck mem pc lv [.int v] := by
  intro H locs ls hP hS hk hl T hT X
  have hz := vs_up C hP hS hT X ht
  exact W.widen hc.1 hc.2 (W.weak vs_toE (W.zret (Qc := vs_Q b D aC tg pu post) (free := fun q => b ≤ q) C.1 C.2.1 hr hn (fun t h1 _ => ⟨.inl (some (.int v)), mem, rfl, hp, by rw [h1]; exact hP, by rw [h1]; exact hz, fun h q hq => by rw [h1]; exact hk (hu h) q hq, hS.F h1⟩) hS.2.2 hd C.2.2.2.2.2.2.2.1)) T hT X
theorem vs_vret (C : vs_X p s m args meth c b D aC own cc nL) (hr : meth.sig.returnType = none) (hd : decode cc pc = .ok (.return_, 1)) (hc : kc ≤ rm.cells ∧ ks ≤ rm.slots) (ht : tg = true → s.heap.size + kc ≤ b + mem.length) (hu : pu = true → ck = true) (hp : post (.inl none) mem) : vs_G p l e R s m args below meth c b D aC nL (vs_E below args s b D aC tg pu post rm) kc ks ck mem pc lv [] := by
  intro H locs ls hP hS hk hl T hT X
  have hz := vs_up C hP hS hT X ht
  exact W.widen hc.1 hc.2 (W.weak vs_toE (W.vret (Qc := vs_Q b D aC tg pu post) (free := fun q => b ≤ q) C.1 C.2.1 hr (fun t h1 _ => ⟨.inl none, mem, rfl, hp, by rw [h1]; exact hP, by rw [h1]; exact hz, fun h q hq => by rw [h1]; exact hk (hu h) q hq, hS.F h1⟩) hS.2.2 hd C.2.2.2.2.2.2.2.1)) T hT X
theorem vs_obj (C : vs_X p s m args meth c b D aC own cc nL) {idx p0 : Nat} (hL : Cond.methodLink own idx objectInit ∈ gT) (hd : decode cc pc = .ok (.invokespecial idx, 3)) (hR : 1 ≤ R.frames ∧ (st.map fun v => v.category).sum + 12 ≤ R.locals) (kk : vs_G p l e R s m args below meth c b D aC nL Q kc ks ck mem (pc + 3) lv st) : vs_G p l e R s m args below meth c b D aC nL Q kc ks ck mem pc lv (.ref p0 :: st) := by
  intro H locs ls hP hS hk hl
  refine W.objInit C.1 C.2.1 C.2.2.2.1 (C.2.2.2.2.1 _ hL) (C.2.2.2.2.1 _ w_27) (C.2.2.2.2.1 _ w_28) (g := F0 m pc ls (.ref (b + p0) :: st.map (vs_v b))) rfl (by rw [C.2.2.1]; exact hl.1) rfl hd hR.1 ?_ (kk H locs ls hP hS hk hl)
  have : ((st.map (vs_v b)).map fun v => v.category).sum = (st.map fun v => v.category).sum := by
    rw [List.map_map]
    simp [Function.comp_def, vs_v_cat]
  show 2 * 0 + _ + 12 ≤ R.locals
  rw [this]
  have := hR.2
  omega
theorem vs_mmax (C : vs_X p s m args meth c b D aC own cc nL) {idx : Nat} {x y : Int32} (hL : Cond.methodLink own idx Lib.Math.max.name ∈ gT) (hd : decode cc pc = .ok (.invokestatic idx, 3)) (hR : 1 ≤ R.frames ∧ (st.map fun v => v.category).sum + 13 ≤ R.locals) (hc : kc ≤ R.cells ∧ ks ≤ R.slots) (kk : vs_G p l e R s m args below meth c b D aC nL Q kc ks ck mem (pc + 3) lv (.int (if x < y then y else x) :: st)) : vs_G p l e R s m args below meth c b D aC nL Q kc ks ck mem pc lv (.int y :: .int x :: st) := by
  intro H locs ls hP hS hk hl
  refine va_mmax C.1 C.2.1 (by rw [C.2.2.1]; exact hl.1.symm) C.2.2.2.1 (C.2.2.2.2.1 _ hL) (C.2.2.2.2.1 _ w_576) (C.2.2.2.2.1 _ w_18) (C.2.2.2.2.1 _ w_577) hR.1 ?_ hc.1 hc.2 hd (kk H locs ls hP hS hk hl)
  have : ((st.map (vs_v b)).map fun v => v.category).sum = (st.map fun v => v.category).sum := by
    rw [List.map_map]
    simp [Function.comp_def, vs_v_cat]
  rw [this]
  exact hR.2
theorem vs_mmin (C : vs_X p s m args meth c b D aC own cc nL) {idx : Nat} {x y : Int32} (hL : Cond.methodLink own idx Lib.Math.min.name ∈ gT) (hd : decode cc pc = .ok (.invokestatic idx, 3)) (hR : 1 ≤ R.frames ∧ (st.map fun v => v.category).sum + 13 ≤ R.locals) (hc : kc ≤ R.cells ∧ ks ≤ R.slots) (kk : vs_G p l e R s m args below meth c b D aC nL Q kc ks ck mem (pc + 3) lv (.int (if y < x then y else x) :: st)) : vs_G p l e R s m args below meth c b D aC nL Q kc ks ck mem pc lv (.int y :: .int x :: st) := by
  intro H locs ls hP hS hk hl
  refine va_mmin C.1 C.2.1 (by rw [C.2.2.1]; exact hl.1.symm) C.2.2.2.1 (C.2.2.2.2.1 _ hL) (C.2.2.2.2.1 _ w_599) (C.2.2.2.2.1 _ w_18) (C.2.2.2.2.1 _ w_600) hR.1 ?_ hc.1 hc.2 hd (kk H locs ls hP hS hk hl)
  have : ((st.map (vs_v b)).map fun v => v.category).sum = (st.map fun v => v.category).sum := by
    rw [List.map_map]
    simp [Function.comp_def, vs_v_cat]
  rw [this]
  exact hR.2
theorem vs_copyi (C : vs_X p s m args meth c b D aC own cc nL) {idx p0 p1 n0 n1 : Nat} {f g : Nat → Int32} {sp dp n : Int32} (hL : Cond.methodLink own idx arraycopyName ∈ gT) (hd : decode cc pc = .ok (.invokestatic idx, 3)) (h0 : mem[p0]? = some (.inl (0, n0, .inl f))) (h1 : mem[p1]? = some (.inl (0, n1, .inl g))) (g1 : ¬ sp < 0) (g2 : ¬ dp < 0) (g3 : ¬ n < 0) (g4 : sp.toNatClampNeg + n.toNatClampNeg ≤ n0) (g5 : dp.toNatClampNeg + n.toNatClampNeg ≤ n1) (hR : 1 ≤ R.frames ∧ (st.map fun v => v.category).sum + (nativeFrameWords "java/lang/System" "arraycopy" 5 + 11) ≤ R.locals) (kk : vs_G p l e R s m args below meth c b D aC nL Q kc ks false (mem.set p1 (.inl (0, n1, .inl (va_cpy f g sp.toNatClampNeg dp.toNatClampNeg n.toNatClampNeg)))) (pc + 3) lv st) : vs_G p l e R s m args below meth c b D aC nL Q kc ks ck mem pc lv (.int n :: .int dp :: .ref p1 :: .int sp :: .ref p0 :: st) := by
  intro H locs ls hP hS hk hl
  refine va_copyi C.1 C.2.1 (by rw [C.2.2.1]; exact hl.1.symm) C.2.2.2.1 (C.2.2.2.2.1 _ hL) (C.2.2.2.2.1 _ w_272) (C.2.2.2.2.1 _ w_271) (C.2.2.2.2.1 _ w_17) C.2.2.2.2.2.1 hP vs_w_D hS p0 p1 0 0 (vs_w_at (b := b) (aC := aC) h0) (vs_w_at (b := b) (aC := aC) h1) rfl rfl rfl g1 g2 g3 g4 g5 (fun _ _ => rfl) hR.1 ?_ hd (fun H1 locs1 hP1 _ hS1 => kk H1 locs1 ls (by rw [vs_w_set0]; exact hP1) hS1 (fun h => by cases h) hl)
  have : ((st.map (vs_v b)).map fun v => v.category).sum = (st.map fun v => v.category).sum := by
    rw [List.map_map]
    simp [Function.comp_def, vs_v_cat]
  rw [this]
  exact hR.2
theorem vs_copyl (C : vs_X p s m args meth c b D aC own cc nL) {idx p0 p1 n0 n1 : Nat} {f g : Nat → Int64} {sp dp n : Int32} (hL : Cond.methodLink own idx arraycopyName ∈ gT) (hd : decode cc pc = .ok (.invokestatic idx, 3)) (h0 : mem[p0]? = some (.inl (1, n0, .inr (.inl f)))) (h1 : mem[p1]? = some (.inl (1, n1, .inr (.inl g)))) (g1 : ¬ sp < 0) (g2 : ¬ dp < 0) (g3 : ¬ n < 0) (g4 : sp.toNatClampNeg + n.toNatClampNeg ≤ n0) (g5 : dp.toNatClampNeg + n.toNatClampNeg ≤ n1) (hR : 1 ≤ R.frames ∧ (st.map fun v => v.category).sum + (nativeFrameWords "java/lang/System" "arraycopy" 5 + 11) ≤ R.locals) (kk : vs_G p l e R s m args below meth c b D aC nL Q kc ks false (mem.set p1 (.inl (1, n1, .inr (.inl (va_cpy f g sp.toNatClampNeg dp.toNatClampNeg n.toNatClampNeg))))) (pc + 3) lv st) : vs_G p l e R s m args below meth c b D aC nL Q kc ks ck mem pc lv (.int n :: .int dp :: .ref p1 :: .int sp :: .ref p0 :: st) := by
  intro H locs ls hP hS hk hl
  refine va_copyl C.1 C.2.1 (by rw [C.2.2.1]; exact hl.1.symm) C.2.2.2.1 (C.2.2.2.2.1 _ hL) (C.2.2.2.2.1 _ w_272) (C.2.2.2.2.1 _ w_271) (C.2.2.2.2.1 _ w_17) C.2.2.2.2.2.1 hP vs_w_D hS p0 p1 1 1 (vs_w_at (b := b) (aC := aC) h0) (vs_w_at (b := b) (aC := aC) h1) rfl rfl rfl g1 g2 g3 g4 g5 (fun _ _ => rfl) hR.1 ?_ hd (fun H1 locs1 hP1 _ hS1 => kk H1 locs1 ls (by rw [vs_w_set0]; exact hP1) hS1 (fun h => by cases h) hl)
  have : ((st.map (vs_v b)).map fun v => v.category).sum = (st.map fun v => v.category).sum := by
    rw [List.map_map]
    simp [Function.comp_def, vs_v_cat]
  rw [this]
  exact hR.2
end Ends
end
section
theorem vs_Zs.lays {b : Nat} {n d : String} {U : State} (h : vs_Zs b n d U U.heap) {args : Array Value} : (Cond.laysStatic "java/lang/Throwable" n d).before args U = true := by
  obtain ⟨cT, k, i, f, a, cell, v, h1, h2, h3, h4, h5, h6, h7, h8, h9, h10, h11, h12⟩ := h
  exact Cond.laysStatic_of h1 h2 h3 h4 h5 h6 h7 h8 h9
theorem vs_Zs.isRef {b : Nat} {n d : String} {U : State} (h : vs_Zs b n d U U.heap) {args : Array Value} : (Cond.isRef (.static "java/lang/Throwable" n d)).before args U = true := by
  obtain ⟨cT, k, i, f, a, cell, v, h1, h2, h3, h4, h5, h6, h7, h8, h9, h10, h11, h12⟩ := h
  have hev : (Term.static "java/lang/Throwable" n d).eval args U none [] U = some v := by
    simp [Term.eval, State.fieldNamed?, h2, h3, h4, h5, h6, h10]
  simp only [Cond.before, Cond.holds, Cond.value, hev]
  rcases h11 with rfl | ⟨t, rfl⟩ <;> rfl
/-- the words on the statics -/
def vs_A0 : List Cond := [.laysStatic "java/lang/Throwable" "UNASSIGNED_STACK" "[Ljava/lang/StackTraceElement;", .laysStatic "java/lang/Throwable" "SUPPRESSED_SENTINEL" "Ljava/util/List;", .isRef (.static "java/lang/Throwable" "UNASSIGNED_STACK" "[Ljava/lang/StackTraceElement;"), .isRef (.static "java/lang/Throwable" "SUPPRESSED_SENTINEL" "Ljava/util/List;")]
def vs_ns : List String := ["java/lang/RuntimeException", "java/lang/Exception"]
/-- a throw site of own: kind k, its constructor at entry ic, its class at entry idx -/
def vs_T (own : String) (idx ic k : Nat) : Prop := (∀ a ∈ Bundle.ownAtoms0 own ic (vs_n k) vs_ns, a ∈ gT ∨ a ∈ gN ∨ a ∈ vs_A0) ∧ Bundle.fit (vs_n k) = true ∧ Cond.classLink own idx (vs_n k) ∈ gT ∧ Cond.instantiable (vs_n k) 6 ∈ gT ∧ Cond.initialized (vs_n k) ∈ gT
theorem vs_old {s U : State} {kc ks : Nat} (h : s.sameButNew U [] kc ks) (q : Nat) (hq : q < s.heap.size) : U.heap[q]? = s.heap[q]? := by
  obtain ⟨-, -, -, -, -, h6⟩ := h
  have hc : s.heap[q]? = some s.heap[q] := Array.getElem?_eq_getElem hq
  obtain ⟨c', e1, e2, e3, e4⟩ := h6 q _ hc
  rw [e1, hc]
  have : c'.slots = s.heap[q].slots := Array.ext_getElem? (fun i => e4 i (by simp))
  rw [e2, this]
section Throw
variable {p : Program} {l : Launch} {e : Env} {R : Room} {s : State} {m : MethodId} {args : Array Value} {below : List Frame} {meth : Method} {c : Code} {b : Nat} {D : va_G} {aC : Nat → ClassId} {nL : Nat} {kc ks : Nat} {mem : List vs_C} {pc : Nat} {lv : List (Option Value)} {st : List Value} {own : String} {cc : ByteArray} {pu : Bool} {post : (Option Value ⊕ Nat) → List vs_C → Prop} {rm : Room}
theorem vs_throw (C : vs_X p s m args meth c b D aC own cc nL) (hfl : l.flags = flags0) (hx : c.exceptionTable.isEmpty = true) {idx ic k : Nat} (hE : vs_T own idx ic k) (d0 : decode cc pc = .ok (.new idx, 3)) (d3 : decode cc (pc + 3) = .ok (.dup, 1)) (d4 : decode cc (pc + 4) = .ok (.invokespecial ic, 3)) (d7 : decode cc (pc + 7) = .ok (.athrow, 1)) (hsz : b + mem.length ≤ s.heap.size) (hc : kc + 1 ≤ rm.cells ∧ ks + 6 ≤ rm.slots) (hR : rm.cells ≤ R.cells ∧ rm.slots ≤ R.slots ∧ 6 ≤ R.frames ∧ (st.map fun v => v.category).sum + 81 ≤ R.locals) (hp : post (.inr k) mem) : vs_G p l e R s m args below meth c b D aC nL (vs_E below args s b D aC false pu post rm) kc ks true mem pc lv st := by
  intro H locs ls hP hS hk hl T hT X
  have hcl := hk rfl
  obtain ⟨x1, x2, x3, x4, x5, x6⟩ := X.same
  have X0 : Stand p l e R s m args below meth c T [] kc ks := { X with same := ⟨x1, x2, x3, x4, x5, fun a c0 ha => ⟨c0, by
    show T.heap[a]? = some c0
    rw [hT, hcl a (Array.getElem?_eq_some_iff.mp ha).1]
    exact ha, rfl, rfl, fun _ _ => rfl⟩⟩ }
  obtain ⟨hat, hfit, hcl1, hin1, hini1⟩ := hE
  have hins := C.2.2.2.2.1 _ hin1
  obtain ⟨cX, kX0, hcX, hkX0, -⟩ := Cond.instantiable_spec hins
  have hsum : ((st.map (vs_v b)).map fun v => v.category).sum = (st.map fun v => v.category).sum := by
    rw [List.map_map]
    simp [Function.comp_def, vs_v_cat]
  refine W.newcK C.1 C.2.1 C.2.2.2.1 (C.2.2.2.2.1 _ hcl1) hins (C.2.2.2.2.1 _ hini1) (g := F0 m pc ls (st.map (vs_v b))) rfl d0 (Nat.le_trans hc.1 hR.1) (Nat.le_trans hc.2 hR.2.1) hcX rfl (fun H1 kX hkX e1 z1 o1 => ?_) T hT X0
  refine lv_dup (m := m) (pc := pc + 3) (ls := ls) (rest := st.map (vs_v b)) C.1 C.2.1 d3 (va := .ref H.size) rfl ?_
  intro T1 hT1 X1
  have htr : e.platform.stackTraces = false := by
    rw [X.admits.platform]
    show l.stackTraces = false
    unfold Launch.stackTraces
    rw [hfl]
    decide
  have hout : ∀ x ∈ c.exceptionTable.toList, covers x (pc + 4 + 3) = false := by
    intro x hx2
    have : c.exceptionTable = #[] := by simpa using hx
    rw [this] at hx2
    simp at hx2
  have hA : ∀ a ∈ Bundle.ownAtoms0 own ic (vs_n k) vs_ns, a.before args s = true := by
    intro a ha
    rcases hat a ha with h | h | h
    · exact C.2.2.2.2.1 a h
    · exact va_Nw.use (gN_tab h) (C.2.2.2.2.2.2.2.2.2 a h)
    · simp only [vs_A0, List.mem_cons, List.not_mem_nil, or_false] at h
      rcases h with rfl | rfl | rfl | rfl
      · exact C.2.2.2.2.2.2.2.2.1.1.lays
      · exact C.2.2.2.2.2.2.2.2.1.2.1.lays
      · exact C.2.2.2.2.2.2.2.2.1.1.isRef
      · exact C.2.2.2.2.2.2.2.2.1.2.1.isRef
  obtain ⟨U, hsteps, hrun, hend, hW, hsame, ce, hce, hoc⟩ := X1.ctorThrow0 C.1 htr C.2.2.2.1 hfit (names := vs_ns) (by decide) hA (fun x h => by cases h) hcX hkX (by rw [hT1]; exact e1) hS.1 (g := F0 m (pc + 4) ls (.ref H.size :: .ref H.size :: st.map (vs_v b))) rfl (by rw [C.2.2.1]; exact hl.1) rfl rfl rfl (by rw [C.2.1]; exact d4) (by rw [C.2.1]; exact d7) hout (by show 2 + 3 < R.frames; have := hR.2.2.1; omega) (by
    show 2 * 0 + (1 + ((st.map (vs_v b)).map fun v => v.category).sum) + (13 * (2 + 1) + 41) ≤ R.locals
    rw [hsum]
    have := hR.2.2.2
    omega) C.2.2.2.2.2.2.2.1
  have hold := vs_old hsame
  have hold' : ∀ q : Nat, q < s.heap.size → U.heap[q]? = s.heap[q]? := hold
  refine ⟨U, hsteps, .threw H.size, hrun, hend, ⟨.inr k, mem, ⟨H.size, ce, rfl, hce, by rw [hW.alike.findClass]; exact hoc.cls, by rw [hoc.vm]; rfl⟩, hp, ?_, (fun h => by cases h), fun _ q hq => hold' q hq, hsame.2.1, fun q hq _ => hold' q hq⟩, [], ⟨hW, hsame.mono hc.1 hc.2⟩, (fun q h => by cases h)⟩
  refine hP.kept (fun i x hx2 => ?_)
  have hlt : x.1 < s.heap.size := by
    rw [vs_w_get] at hx2
    cases hmi : mem[i]? with
    | none => rw [hmi] at hx2; simp at hx2
    | some y =>
      rw [hmi] at hx2
      simp only [Option.map_some, Option.some.injEq] at hx2
      subst hx2
      have := (List.getElem?_eq_some_iff.mp hmi).1
      show b + (0 + i) < s.heap.size
      omega
  rw [hold' _ hlt, hcl _ hlt]
end Throw
end
section
/-! an exception out of a callee, caught by the law's own helpers; their contracts -/
def vs_fd (e : Env) (s : State) (f : JFrame) (a : Addr) (h : Handler) (vm' : Vm) : Prop :=
  ∀ (Q : Handler → Pre) (E : CtlPost) (d : Bool) (acts : List Action), wp (findHandler f a) Q E e d acts s ↔ Q h d acts (s.setVm vm')
section Find
variable {Q : Handler → Pre} {E : CtlPost} {e : Env} {d : Bool} {acts : List Action} {s : State} {f : JFrame} {a : Addr}
theorem vs_go1 {x : ExceptionTableEntry} {t : List ExceptionTableEntry} {c : ClassId} {cell : Cell} (hx : covers x f.pc = true) (h0 : x.catchType ≠ 0)
    (hl : s.vm.ClassLinks e.platform f.method.cls x.catchType c) (hcell : s.heap[a]? = some cell) (hobj : ∀ k, cell.vm ≠ .statics k)
    (hk : ∃ k, s.vm.classes[cell.cls]? = some k) (hc : ∃ k, s.vm.classes[c]? = some k) :
    wp (findHandler.go f a (x :: t)) Q E e d acts s ↔ if s.vm.assignable cell.cls c = true then Q (.found x.handlerPc) d acts (s.setVm (s.vm.noted f.method.cls x.catchType (.cls c))) else wp (findHandler.go f a t) Q E e d acts (s.setVm (s.vm.noted f.method.cls x.catchType (.cls c))) := by
  simp only [covers] at hx
  obtain ⟨ha, ht⟩ := (resolveClass_links e.toSetting hl).op (op := VmOp.resolveClass f.method.cls x.catchType) rfl
  have hal : s.vm.Alike (s.vm.noted f.method.cls x.catchType (.cls c)) := (Vm.Alike.refl s.vm).noted _ _ _
  obtain ⟨k1, hk1⟩ := hk
  obtain ⟨k2, hk2⟩ := hc
  obtain ⟨k1', hk1', -⟩ := hal.2.2 _ _ hk1
  obtain ⟨k2', hk2', -⟩ := hal.2.2 _ _ hk2
  cases hfit : s.vm.assignable cell.cls c with
  | true =>
    have hfit' : (s.vm.noted f.method.cls x.catchType (.cls c)).assignable cell.cls c = true := by rw [hal.assignable]; exact hfit
    simp [findHandler.go, hx, h0, ha, ht, hcell, hobj, hk1', hk2', hfit', VmOp.dirties, VmOp.acts]
  | false =>
    have hfit' : (s.vm.noted f.method.cls x.catchType (.cls c)).assignable cell.cls c = false := by rw [hal.assignable]; exact hfit
    simp [findHandler.go, hx, h0, ha, ht, hcell, hobj, hk1', hk2', hfit', VmOp.dirties, VmOp.acts]
end Find
/-- one row of a table, seen from the start: it covers pc and names a class that 'thrown' can (v) or can't be assigned to -/
def vs_rw (pl : Platform) (s0 : State) (d : ClassId) (pc : Nat) (thrown : ClassId) (v : Bool) (y : ExceptionTableEntry) : Prop := covers y pc = true ∧ y.catchType ≠ 0 ∧ ∃ c, s0.vm.ClassLinks pl d y.catchType c ∧ s0.vm.assignable thrown c = v
theorem vs_goes {e : Env} {s0 : State} {f : JFrame} {a : Addr} {cell : Cell} (hobj : ∀ k, cell.vm ≠ .statics k) (hk0 : ∃ k, s0.vm.classes[cell.cls]? = some k) (x : ExceptionTableEntry) (rest : List ExceptionTableEntry) (hx : vs_rw e.platform s0 f.method.cls f.pc cell.cls true x) :
    ∀ (pre : List ExceptionTableEntry) (S : State), s0.WarmedH S.vm → S.heap[a]? = some cell → (∀ y ∈ pre, vs_rw e.platform s0 f.method.cls f.pc cell.cls false y) →
      ∃ vm', s0.WarmedH vm' ∧ ∀ (Q : Handler → Pre) (E : CtlPost) (d : Bool) (acts : List Action), wp (findHandler.go f a (pre ++ x :: rest)) Q E e d acts S ↔ Q (.found x.handlerPc) d acts (S.setVm vm') := by
  obtain ⟨k0, hk0⟩ := hk0
  intro pre
  induction pre with
  | nil =>
    intro S hW hcell _
    obtain ⟨k0', hk0', -⟩ := hW.alike.2.2 _ _ hk0
    obtain ⟨hcov, h0, c, hl, hfit⟩ := hx
    obtain ⟨dk, _, _, kt, hd, _, _, _, _, hkt, _, hopen⟩ := hl.here
    obtain ⟨kt', hkt', -⟩ := hW.alike.2.2 _ _ hkt
    refine ⟨_, hW.noted hd hopen (State.rightAt_cls hl), fun Q E d acts => ?_⟩
    rw [List.nil_append, vs_go1 hcov h0 (hW.classLinks hl) hcell hobj ⟨k0', hk0'⟩ ⟨kt', hkt'⟩, if_pos (by rw [hW.alike.assignable]; exact hfit)]
  | cons y ys ih =>
    intro S hW hcell hpass
    obtain ⟨k0', hk0', -⟩ := hW.alike.2.2 _ _ hk0
    obtain ⟨hcov, h0, c, hl, hno⟩ := hpass y List.mem_cons_self
    obtain ⟨dk, _, _, kt, hd, _, _, _, _, hkt, _, hopen⟩ := hl.here
    obtain ⟨kt', hkt', -⟩ := hW.alike.2.2 _ _ hkt
    obtain ⟨vm', hW', hq⟩ := ih (S.setVm (S.vm.noted f.method.cls y.catchType (.cls c))) (hW.noted hd hopen (State.rightAt_cls hl)) hcell (fun z hz => hpass z (List.mem_cons_of_mem _ hz))
    refine ⟨vm', hW', fun Q E d acts => ?_⟩
    rw [List.cons_append, vs_go1 hcov h0 (hW.classLinks hl) hcell hobj ⟨k0', hk0'⟩ ⟨kt', hkt'⟩, if_neg (by rw [hW.alike.assignable, hno]; decide)]
    exact hq Q E d acts
theorem vs_stepCaught {e : Env} {s : State} {a : Addr} {f : JFrame} {r : List Frame} {pc : Nat} {vm' : Vm} (hfind : vs_fd e s f a (.found pc) vm') :
    (stepThrowing e s a (.java f :: r)).Is ((s.setVm vm').setFrames (.java { f with pc := pc, stack := [.ref a] } :: r)) [] := by
  simp only [stepThrowing, searchFrame, vmDo]
  generalize hr : Sem.go _ e false [] s = res
  obtain ⟨as, rfl, ha⟩ := Sem.eq_ok_of hr (a := Handler.found pc) (s' := s.setVm vm') (acts' := []) (by simp [hfind _ _ _ _])
  exact ⟨rfl, ha⟩
theorem vs_caught {tb : Tables} {e : Env} {s target : State} {g : JFrame} {c : Code} {below : List Frame} {a : Addr} (h : At s g.method c below) {pc : Nat} {vm' : Vm}
    (hfind : vs_fd e ((s.setTop g).pushFrame (.throwing a)) g a (.found pc) vm') (hrest : Steps tb e below ((s.setVm vm').setTop { g with pc := pc, stack := [.ref a] }) target) :
    Steps tb e below ((s.setTop g).pushFrame (.throwing a)) target := by
  obtain ⟨hgo, hw⟩ := h.throwing a
  refine Steps.head hgo hw ?_
  rw [stepThread_throwing (frames_entered h.top _), (vs_stepCaught (s := (s.setTop g).pushFrame (.throwing a)) hfind).1]
  obtain ⟨g₀, hg⟩ := Option.isSome_iff_exists.mp h.top
  obtain ⟨r, hr⟩ := State.topJava?_eq_some.mp hg
  have hr' : (s.setVm vm').frames = .java g₀ :: r := hr
  have hsv : ∀ (u : State) (F G : List Frame), ((u.setFrames F).setVm vm').setFrames G = (u.setVm vm').setFrames G := by
    intro u F G
    have h1 : (u.setFrames F).setVm vm' = (u.setVm vm').setFrames F := rfl
    rw [h1, State.setFrames_setFrames]
  rw [State.setTop_of_frames _ hr'] at hrest
  rw [hr, List.tail_cons, State.pushFrame, hsv, State.setTop_of_frames _ hr, hsv]
  exact hrest
section Catch
variable {p : Program} {l : Launch} {e : Env} {R : Room} {s : State} {m : MethodId} {args : Array Value} {below : List Frame} {meth : Method} {c : Code} {b : Nat} {D : va_G} {aC : Nat → ClassId} {nL : Nat} {Q : State → Prop} {kc ks : Nat} {ck : Bool} {mem : List vs_C} {pc : Nat} {lv : List (Option Value)} {st : List Value} {own : String} {cc : ByteArray}
/-- the way through a callee, whichever way it ends -/
theorem vs_back {y : MethodName} {ws : List Cond} {rm : Room} {Pc : Array Value → State → Prop} {Qc : Array Value → State → Outcome → State → Prop} (hM : MetFree l y (headSpec ws rm) Pc (fun _ _ _ _ _ => True) (fun a st o t => Qc a st o t ∧ ∃ L, vs_Fr st t L rm.cells rm.slots ∧ ∀ q ∈ L, b ≤ q.base)) (hbl : FrameBlind Pc) {U : State} {Ls : List Loc}
    (X : Stand p l e R s m args below meth c U Ls kc ks) {mk : MethodId} {methY : Method} {cY : Code} {mL : Nat} (hn : U.methodNamed? y = some mk) (hmY : U.vm.method? mk = some methY) (hcY : methY.code = some cY) (hlY : cY.maxLocals = mL) {a : Array Value} (hini : (Cond.initialized y.cls).before a U = true) (hpre : (headSpec ws rm).pre.before a U = true) (hP : Pc a U)
    {g : JFrame} {ig : Instr} {len : Nat} (hg : g.method = m) (hsize : g.locals.size = c.maxLocals) (hdg : decode c.code g.pc = .ok (ig, len)) (hW : 2 * g.monitorRoom + (g.stack.map fun v => v.category).sum ≤ 8) (hfr : rm.frames + 1 ≤ R.frames) (hlo : 8 + (mL + 11) + rm.locals ≤ R.locals) (hcc : kc + rm.cells ≤ R.cells ∧ ks + rm.slots ≤ R.slots) :
    ∃ (o : Outcome) (t T' : State) (L : List Loc), Qc a (U.calling g mk a) o t ∧ Stand p l e R s m args below meth c T' (Ls ++ L) (kc + rm.cells) (ks + rm.slots) ∧ (∀ q ∈ L, b ≤ q.base) ∧ T'.heap = t.heap ∧ T'.vm = t.vm ∧
      (∀ v, o = .returned v → Steps p.tables e below (doInvoke e (U.setTop g) [] mk a).1 (T'.setTop { g with pc := g.pc + len, stack := v.toList ++ g.stack })) ∧
      (∀ x, o = .threw x → Steps p.tables e below (doInvoke e (U.setTop g) [] mk a).1 ((T'.setTop g).pushFrame (.throwing x))) := by
  obtain ⟨kY, hkY, -⟩ := className_of_methodNamed hn
  have hinitY : kY.init = .initialized := Cond.initialized_spec (findClass_of_methodNamed hn) hkY hini
  have h : At U g.method c below := by rw [hg]; exact X.here
  have happ : (headSpec ws rm).appliesLoose y e.platform (U.calling g mk a) = true :=
    Spec.appliesLoose_calling (g := g) h hdg hn hkY hinitY (X.room_calling (g := g) (R' := rm) hsize hmY hcY hfr (by rw [hlY]; omega) hcc.1 hcc.2) hpre
  obtain ⟨mid, hmid⟩ := h.above
  have hframes : (U.setTop g).frames = (.java g :: mid) ++ below := by rw [State.frames_setTop' g h.top, hmid]; rfl
  obtain ⟨o, s₂, hsteps, -, hend, hq0⟩ := Steps.callFree hM p X.admits X.cas X.clock (acts := []) hframes happ (hbl _ _ _ _ hP) trivial
  have hq1 : Qc a (U.calling g mk a) o s₂ ∧ ∃ L, vs_Fr (U.calling g mk a) s₂ L rm.cells rm.slots ∧ ∀ q ∈ L, b ≤ q.base := hq0
  obtain ⟨hq, L, ⟨hW₂, e2, q2, q3, q4, q5, q6⟩, hLb⟩ := hq1
  rw [State.frames_setTop' g h.top] at hend
  have e3 : s₂ = ({ (U.calling g mk a).setFrames s₂.frames with heap := s₂.heap, slotsUsed := s₂.slotsUsed } : State).setVm s₂.vm := by
    have : s₂ = ({ s₂ with vm := (U.calling g mk a).vm } : State).setVm s₂.vm := rfl
    rw [e2] at this
    exact this
  have hW' : U.WarmedH s₂.vm := hW₂
  obtain ⟨g₀, hg0⟩ := Option.isSome_iff_exists.mp h.top
  obtain ⟨r, hr⟩ := State.topJava?_eq_some.mp hg0
  have hr' : (({ U with heap := s₂.heap, slotsUsed := s₂.slotsUsed } : State).setVm s₂.vm).frames = .java g₀ :: r := hr
  have hsame : U.sameButNew ({ U with heap := s₂.heap, slotsUsed := s₂.slotsUsed } : State) L rm.cells rm.slots := by
    refine ⟨?_, q2, q3, q4, q5, q6⟩
    obtain ⟨t, ht, -⟩ := State.frames_cons hr
    show ({ U with heap := s₂.heap, slotsUsed := s₂.slotsUsed } : State) = { U.setFrames U.frames with heap := s₂.heap, slotsUsed := s₂.slotsUsed }
    rw [State.setFrames_self ht]
  have hm' : g.method = m := hg
  subst hg
  refine ⟨o, s₂, (({ U with heap := s₂.heap, slotsUsed := s₂.slotsUsed } : State).setVm s₂.vm), L, hq,
    ⟨X.admits, X.cas, X.clock, X.frames, X.room, X.hears, X.method, X.code, (X.here.setHeapUsed s₂.heap s₂.slotsUsed).setVm hW'.alike, X.tail, State.WarmedH.trans X.warmed hW', X.limits, X.bytes, X.same.trans (hsame.setVm s.vm)⟩, hLb, rfl, rfl, ?_, ?_⟩
  · intro v ho
    subst ho
    obtain ⟨c₂, i₂, len₂, hc₂, hd₂, hf₂⟩ := hend
    have hcc2 : c₂ = c := by
      have h1 : s₂.code? g.method = U.code? g.method := by
        rw [State.code?_eq, State.code?_eq, hW'.alike.method?]
      exact Option.some.inj (hc₂.symm.trans (h1.trans h.code))
    subst hcc2
    have hlen : len₂ = len := by rw [hdg] at hd₂; cases hd₂; rfl
    subst hlen
    have hs₂ : s₂ = (({ U with heap := s₂.heap, slotsUsed := s₂.slotsUsed } : State).setVm s₂.vm).setTop { g with pc := g.pc + len₂, stack := v.toList ++ g.stack } := by
      refine e3.trans ?_
      rw [hf₂, State.calling_eq h.top, State.setFrames_setFrames, State.setTop_of_frames _ hr', hr]
      rfl
    rw [← hs₂]
    exact hsteps
  · intro x ho
    subst ho
    have hf₂ : s₂.frames = .throwing x :: .java g :: U.frames.tail := hend
    have hs₂ : s₂ = ((({ U with heap := s₂.heap, slotsUsed := s₂.slotsUsed } : State).setVm s₂.vm).setTop g).pushFrame (.throwing x) := by
      refine e3.trans ?_
      rw [hf₂, State.calling_eq h.top, State.setFrames_setFrames, State.pushFrame, State.frames_setTop _ hr', State.setTop_of_frames _ hr', State.setFrames_setFrames, hr]
      rfl
    rw [← hs₂]
    exact hsteps
end Catch
end
section
theorem vs_M.ofW {l : Launch} {b : Nat} {D : va_G} {aC : Nat → ClassId} {tg pu : Bool} {y : MethodName} {cc : ByteArray} {mL : Nat} {rt : Option FieldType} {hs : List (Nat × Nat × Nat × Nat)} {rm : Room} {av : List Value} {mem : List vs_C} {post : (Option Value ⊕ Nat) → List vs_C → Prop} (hy : plainName y.cls = true) (hlen : (vs_e av).length ≤ mL)
    (body : ∀ p e s m args below meth c, vs_X p s m args meth c b D aC y.cls cc mL → meth.name = y.name → meth.sig.returnType = rt → c.exceptionTable.toList = hs.map (fun q => ⟨q.1, q.2.1, q.2.2.1, q.2.2.2⟩) → (tg = true → s.heap.size = b + mem.length) → vs_G p l e rm s m args below meth c b D aC mL (vs_E below args s b D aC tg pu post rm) 0 0 true mem 0 (vs_e0 mL av) []) : vs_M l b D aC tg pu y (.codeWith y cc mL rt hs) rm av mem post := by
  refine MetFree.of_bodyS (code := cc) (maxLocals := mL) (ret := rt) hy ?_ ?_
  · intro args s m h hn
    obtain ⟨m', meth, c, h0, h1, h2, h3, h4, -, h5, h6, -⟩ := Cond.codeWith_spec (atoms_spec (ws := Cond.codeWith y cc mL rt hs :: gT) h _ List.mem_cons_self)
    cases hn.symm.trans h0
    exact ⟨meth, c, h1, h2, h3, h4, h5, h6⟩
  · intro p e s m args below meth c s₁ B hml hP _
    obtain ⟨rfl, qP, qK, qb, qt, qZ, qN⟩ := hP
    have hts := atoms_spec (ws := Cond.codeWith y cc mL rt hs :: gT) B.pre
    have hh0 : s₁.heap = s.heap := by rw [B.state]; rfl
    have htab : c.exceptionTable.toList = hs.map (fun q => ⟨q.1, q.2.1, q.2.2.1, q.2.2.2⟩) := by
      obtain ⟨m', meth', c', h0, h1, h2, h3, h4, h7, h5, h6, -⟩ := Cond.codeWith_spec (hts _ List.mem_cons_self)
      cases B.named.symm.trans h0
      cases B.method.symm.trans h1
      cases (Stand.of_body B).code.symm.trans h2
      rw [← h7, List.map_map]
      simp [Function.comp_def]
    have hG := body p e s m _ below meth c ⟨B.exec, B.bytes, hml, findClass_of_methodNamed B.named, fun w h => hts w (List.mem_cons_of_mem _ h), qK, qb, B.notSynchronized, qZ, qN⟩ (name_of_methodNamed B.named B.method).1 B.returns htab qt
    have hW := hG s.heap [] _ qP va_S.rf (fun _ _ _ => rfl) (vs_entry (b := b) (nL := mL) (av := av) hlen)
    rw [List.map_nil, ← lg_entry_eq] at hW
    obtain ⟨t, a1, o, b1, b2, b3⟩ := hW s₁ hh0 (Stand.of_body B)
    exact ⟨t, o, a1, b1, b2, b3⟩
/-- a kind k thrown at pc comes to hpc -/
def vs_H (own : String) (tab : List ExceptionTableEntry) (pc k hpc : Nat) : Prop := ∃ (pre rest : List ExceptionTableEntry) (x : ExceptionTableEntry), tab = pre ++ x :: rest ∧ covers x pc = true ∧ x.handlerPc = hpc ∧ x.catchType ≠ 0 ∧ Cond.classLink own x.catchType (vs_n k) ∈ gT ∧ Cond.castable (vs_n k) (vs_n k) ∈ gN ∧ ∀ y ∈ pre, covers y pc = true ∧ y.catchType ≠ 0 ∧ ∃ nm, Cond.classLink own y.catchType nm ∈ gT ∧ ∀ U, vs_nC U → vs_nc (vs_n k) nm U
section Help
variable {p : Program} {l : Launch} {e : Env} {R : Room} {s : State} {m : MethodId} {args : Array Value} {below : List Frame} {meth : Method} {c : Code} {b : Nat} {D : va_G} {aC : Nat → ClassId} {nL : Nat} {Q : State → Prop} {kc ks : Nat} {ck : Bool} {mem : List vs_C} {pc : Nat} {lv : List (Option Value)} {st : List Value} {own : String} {cc : ByteArray}
theorem vs_callVT (C : vs_X p s m args meth c b D aC own cc nL) {idx n p0 ci mL : Nat} {y : MethodName} {bytes : ByteArray} {rt : Option FieldType} {rm : Room} {As fs : List Value} {pu : Bool} {post : (Option Value ⊕ Nat) → List vs_C → Prop} (hM : vs_M l b D aC false pu y (.code y bytes mL rt) rm (.ref p0 :: As) mem post) (hY : vs_Y y bytes mL rt n) (hL : Cond.methodLink own idx y ∈ gT) (hi : Cond.instanceMethod y ∈ gT) (hs : Cond.selects y.cls y y ∈ gT) (hd : decode cc pc = .ok (.invokevirtual idx, 3)) (hm : mem[p0]? = some (.inr (ci, fs))) (hci : (vwCl[ci]?).map (fun q => q.1) = some y.cls) (hn : As.length = n) (hw : (st.map fun v => v.category).sum ≤ 8) (hR : rm.frames + 1 ≤ R.frames ∧ 8 + (mL + 11) + rm.locals ≤ R.locals) (hf : kc + rm.cells ≤ R.cells ∧ ks + rm.slots ≤ R.slots)
    (hH : ∀ (k : Nat) (mem' : List vs_C), post (.inr k) mem' → ∃ hpc, vs_H own c.exceptionTable.toList pc k hpc ∧ ∀ x : Nat, vs_G p l e R s m args below meth c b D aC nL Q (kc + rm.cells) (ks + rm.slots) (ck && pu) mem' hpc lv [.retAddr x])
    (kk : ∀ (r : Option Value) (mem' : List vs_C), post (.inl r) mem' → vs_G p l e R s m args below meth c b D aC nL Q (kc + rm.cells) (ks + rm.slots) (ck && pu) mem' (pc + 3) lv (r.toList ++ st)) : vs_G p l e R s m args below meth c b D aC nL Q kc ks ck mem pc lv (As.reverse ++ .ref p0 :: st) := by
  intro H locs ls hP hS hk hl T hT X
  have hrest : ((st.map (vs_v b)).map fun v => v.category).sum ≤ 8 := by
    rw [List.map_map]
    simpa [Function.comp_def, vs_v_cat] using hw
  have hstack : (F0 m pc ls ((As.reverse ++ .ref p0 :: st).map (vs_v b))).stack = (As.map (vs_v b)).reverse ++ .ref (b + p0) :: st.map (vs_v b) := by
    show (As.reverse ++ .ref p0 :: st).map (vs_v b) = _
    rw [List.map_append, List.map_reverse]
    rfl
  have hy : y.cls ≠ "java/lang/invoke/MethodHandle" ∧ y.cls ≠ "java/lang/invoke/VarHandle" := ⟨hY.2.2.1, hY.2.2.2.1⟩
  have hpay := pay_in C.2.2.2.2.1 (gT_sub hY.1)
  obtain ⟨q, hq, hq1⟩ := Option.map_eq_some_iff.mp hci
  obtain ⟨cellB, hcB, hoB, hclB⟩ := va_recv C.2.2.2.2.2.1 hP hq (vs_w_at (b := b) (aC := aC) hm)
  rw [hq1] at hclB
  obtain ⟨mk, methM, hnamed, hmethM, hstM, habM⟩ := Cond.instanceMethod_spec (C.2.2.2.2.1 _ hi)
  obtain ⟨methM', cM, hmethM', -, -, -, -, -, -, hsigM⟩ := Cond.code_spec hnamed (C.2.2.2.2.1 _ hY.1)
  cases hmethM.symm.trans hmethM'
  obtain ⟨c2, r2, m2, q1, q2, q3, q4, kP, hkP, hkPi⟩ := Cond.selects_spec (C.2.2.2.2.1 _ hs)
  cases hclB.symm.trans q1
  cases (State.methodFound?_of_named hnamed hy).symm.trans q2
  cases hnamed.symm.trans q3
  have hselP : selectMethod e.platform s.vm cellB.cls mk = .method mk := by rw [Launch.admits_selectMethod X.admits]; exact q4
  have hlen : ∀ sig, parseMethodDescriptor y.desc = some sig → (As.map (vs_v b)).length = sig.parameters.length := by
    intro sig h
    have h2 := hY.2.2.2.2
    rw [h] at h2
    rw [List.length_map, hn]
    exact (Option.some.inj h2).symm
  obtain ⟨vm₁, X₁, hstep₁⟩ := X.invokevirtual C.1 C.2.2.2.1 (C.2.2.2.2.1 _ hL) hnamed hmethM hstM hkP hkPi hy (a := b + p0) (cell := cellB) (by rw [hT]; exact hcB)
    (fun z h => by rw [h] at hoB; cases hoB) hselP hmethM habM hkP hkPi (g := F0 m pc ls ((As.reverse ++ .ref p0 :: st).map (vs_v b))) rfl (argsL := As.map (vs_v b)) (rest := st.map (vs_v b)) (hlen _ hsigM) hstack (by rw [C.2.1]; exact hd)
  have hnU := X₁.named hnamed
  obtain ⟨methY, cY, hmY, hcY, -, hlY, -⟩ := Cond.code_spec hnU (hpay _ List.mem_cons_self (Value.ref (b + p0) :: As.map (vs_v b)).toArray (T.setVm vm₁) X₁.warmed)
  obtain ⟨o, t, T', L, hqq, X', hLb, e1, e2, hret, hthr⟩ := vs_back (b := b) hM vs_P_blind X₁ hnU hmY hcY hlY (a := (Value.ref (b + p0) :: As.map (vs_v b)).toArray) (hpay _ (List.mem_cons_of_mem _ hY.2.1) _ _ X₁.warmed) (atoms_intro fun w hw' => hpay w hw' _ _ X₁.warmed) (vs_pre (tg := false) (av := .ref p0 :: As) C hP hS (fun h => by cases h) _ hT X₁.warmed)
    (g := F0 m pc ls (st.map (vs_v b))) (ig := .invokevirtual idx) (len := 3) rfl (by rw [C.2.2.1]; exact hl.1) (by rw [C.2.1]; exact hd) (lv_room hrest) hR.1 hR.2 hf
  obtain ⟨r, mem', ho, hp, hP', -, hpu, hz, hkf⟩ := hqq
  have hz' : H.size ≤ t.heap.size := by rw [← hT]; exact hz
  have hkf' : ∀ q : Nat, q < H.size → ¬ b ≤ q → t.heap[q]? = H[q]? := by rw [← hT]; exact hkf
  have hpu' : pu = true → ∀ q : Nat, q < H.size → t.heap[q]? = H[q]? := by rw [← hT]; exact hpu
  have hS' : va_S (fun q => b ≤ q) s.heap T'.heap (locs ++ L) := ⟨Nat.le_trans hS.1 (by rw [e1]; exact hz'), fun q h1 h2 => by rw [e1, hkf' q (Nat.lt_of_lt_of_le h1 hS.1) h2]; exact hS.2.1 q h1 h2, fun q hq => by
    rcases List.mem_append.mp hq with h | h
    · exact hS.2.2 q h
    · exact hLb q h⟩
  have hck : (ck && pu) = true → ∀ q : Nat, q < s.heap.size → T'.heap[q]? = s.heap[q]? := fun h q hq => by
    rw [Bool.and_eq_true] at h
    rw [e1, hpu' h.2 q (Nat.lt_of_lt_of_le hq hS.1)]
    exact hk h.1 q hq
  cases r with
  | inl v =>
    obtain ⟨t2, a1, b1⟩ := kk v mem' hp T'.heap (locs ++ L) ls (by rw [e1]; exact hP') hS' hck hl T' rfl X'
    refine ⟨t2, hstep₁ _ (fun acts => ?_), b1⟩
    rw [doInvoke_state]
    refine (hret _ ho).trans ?_
    cases v <;> exact a1
  | inr k =>
    obtain ⟨x, cell, hox, hcx, hfc, hst⟩ := ho
    obtain ⟨hpc, ⟨pre, rest, row, htab, hcov, hhp, hct, hlk, hcast, hpre⟩, hg⟩ := hH k mem' hp
    have hpl : e.platform.magicAccessors = ({} : Platform).magicAccessors := by rw [X.admits.platform]
    have hfs : s.vm.findClass (vs_n k) = some cell.cls := by
      have h := hfc
      rw [← e2, X'.warmed.alike.findClass] at h
      exact h
    obtain ⟨ca, cb, h1, h2, hasg⟩ := Cond.castable_spec (va_Nw.use (A := args) rfl (C.2.2.2.2.2.2.2.2.2 _ hcast))
    cases hfs.symm.trans h1
    cases hfs.symm.trans h2
    obtain ⟨c', hc', hcl⟩ := Cond.classLink_spec C.2.2.2.1 (C.2.2.2.2.1 _ hlk) e.platform hpl
    cases hfs.symm.trans hc'
    obtain ⟨dk, _, _, kt, hd0, _, _, _, _, hkt, _, hopen⟩ := id hcl.here
    have hall : ∀ z ∈ pre, vs_rw e.platform s m.cls pc cell.cls false z := by
      intro z hz2
      obtain ⟨y1, y2, nm, y3, y4⟩ := hpre z hz2
      obtain ⟨cn, hcn, hcln⟩ := Cond.classLink_spec C.2.2.2.1 (C.2.2.2.2.1 _ y3) e.platform hpl
      exact ⟨y1, y2, cn, hcln, y4 s C.2.2.2.2.2.2.2.2.1.2.2 _ _ hfs hcn⟩
    obtain ⟨vm', hW', hfind⟩ := vs_goes (e := e) (s0 := s) (f := F0 m pc ls (st.map (vs_v b))) (a := x) (cell := cell) (VmData.ne_statics_of hst) ⟨kt, hkt⟩ row rest ⟨hcov, hct, _, hcl, hasg⟩ pre ((T'.setTop (F0 m pc ls (st.map (vs_v b)))).pushFrame (.throwing x)) X'.warmed (by rw [show ((T'.setTop (F0 m pc ls (st.map (vs_v b)))).pushFrame (.throwing x)).heap = T'.heap from throwing_heap _ _ _, e1]; exact hcx) hall
    have hfd : vs_fd e ((T'.setTop (F0 m pc ls (st.map (vs_v b)))).pushFrame (.throwing x)) (F0 m pc ls (st.map (vs_v b))) x (.found row.handlerPc) vm' := fun Q1 E1 d1 acts1 => by
      rw [W.findHandler_eq (meth := meth) (code := c) X'.method' X'.code, htab]
      exact hfind Q1 E1 d1 acts1
    obtain ⟨t2, a1, b1⟩ := hg x T'.heap (locs ++ L) ls (by rw [e1]; exact hP') hS' hck hl (T'.setVm vm') rfl (X'.noted hW')
    refine ⟨t2, hstep₁ _ (fun acts => ?_), b1⟩
    rw [doInvoke_state]
    refine (hthr x hox).trans (vs_caught X'.here hfd ?_)
    rw [hhp]
    exact a1
/-- a helper with a table of its own, called by the law: it catches all -/
theorem vs_callSW (C : vs_X p s m args meth c b D aC own cc nL) {idx n mL : Nat} {y : MethodName} {bytes : ByteArray} {rt : Option FieldType} {hs : List (Nat × Nat × Nat × Nat)} {rm : Room} {As : List Value} {pu : Bool} {post : (Option Value ⊕ Nat) → List vs_C → Prop} (hM : vs_M l b D aC false pu y (.codeWith y bytes mL rt hs) rm As mem post) (hno : ∀ k mem', ¬ post (.inr k) mem') (hcw : Cond.codeWith y bytes mL rt hs ∈ gT) (hini : Cond.initialized y.cls ∈ gT) (hyy : y.cls ≠ "java/lang/invoke/MethodHandle" ∧ y.cls ≠ "java/lang/invoke/VarHandle" ∧ (parseMethodDescriptor y.desc).map (fun d => d.parameters.length) = some n) (hL : Cond.methodLink own idx y ∈ gT) (hi : Cond.static y ∈ gT) (hd : decode cc pc = .ok (.invokestatic idx, 3)) (hn : As.length = n) (hw : (st.map fun v => v.category).sum ≤ 8) (hR : rm.frames + 1 ≤ R.frames ∧ 8 + (mL + 11) + rm.locals ≤ R.locals) (hf : kc + rm.cells ≤ R.cells ∧ ks + rm.slots ≤ R.slots)
    (kk : ∀ (r : Option Value) (mem' : List vs_C), post (.inl r) mem' → vs_G p l e R s m args below meth c b D aC nL Q (kc + rm.cells) (ks + rm.slots) (ck && pu) mem' (pc + 3) lv (r.toList ++ st)) : vs_G p l e R s m args below meth c b D aC nL Q kc ks ck mem pc lv (As.reverse ++ st) := by
  intro H locs ls hP hS hk hl T hT X
  have hrest : ((st.map (vs_v b)).map fun v => v.category).sum ≤ 8 := by
    rw [List.map_map]
    simpa [Function.comp_def, vs_v_cat] using hw
  have hstack : (F0 m pc ls ((As.reverse ++ st).map (vs_v b))).stack = (As.map (vs_v b)).reverse ++ st.map (vs_v b) := by
    show (As.reverse ++ st).map (vs_v b) = _
    rw [List.map_append, List.map_reverse]
  have hpay := pay_in C.2.2.2.2.1 (gT_sub hcw)
  obtain ⟨mk, methM, cM, hnamed, hmethM, hcM, -, -, -, -, -, hsigM⟩ := Cond.codeWith_spec (C.2.2.2.2.1 _ hcw)
  have hstatic : methM.isStatic = true := Cond.static_spec hnamed hmethM (C.2.2.2.2.1 _ hi)
  obtain ⟨kP, hkP, -⟩ := className_of_methodNamed hnamed
  have hinitP : kP.init = .initialized := Cond.initialized_spec (findClass_of_methodNamed hnamed) hkP (C.2.2.2.2.1 _ hini)
  have hlen : ∀ sig, parseMethodDescriptor y.desc = some sig → (As.map (vs_v b)).length = sig.parameters.length := by
    intro sig h
    have h2 := hyy.2.2
    rw [h] at h2
    rw [List.length_map, hn]
    exact (Option.some.inj h2).symm
  obtain ⟨vm₁, X₁, hstep₁⟩ := X.invokestatic C.1 C.2.2.2.1 (C.2.2.2.2.1 _ hL) hnamed hmethM hstatic hkP hinitP ⟨hyy.1, hyy.2.1⟩ (g := F0 m pc ls ((As.reverse ++ st).map (vs_v b))) rfl (argsL := As.map (vs_v b)) (rest := st.map (vs_v b)) (hlen _ hsigM) hstack (by rw [C.2.1]; exact hd)
  have hnU := X₁.named hnamed
  obtain ⟨mk', methY, cY, hnY, hmY, hcY, -, hlY, -⟩ := Cond.codeWith_spec (hpay _ List.mem_cons_self (As.map (vs_v b)).toArray (T.setVm vm₁) X₁.warmed)
  cases hnU.symm.trans hnY
  obtain ⟨o, t, T', L, hqq, X', hLb, e1, e2, hret, -⟩ := vs_back (b := b) hM vs_P_blind X₁ hnU hmY hcY hlY (a := (As.map (vs_v b)).toArray) (hpay _ (List.mem_cons_of_mem _ hini) _ _ X₁.warmed) (atoms_intro fun w hw' => hpay w hw' _ _ X₁.warmed) (vs_pre (tg := false) (av := As) C hP hS (fun h => by cases h) _ hT X₁.warmed)
    (g := F0 m pc ls (st.map (vs_v b))) (ig := .invokestatic idx) (len := 3) rfl (by rw [C.2.2.1]; exact hl.1) (by rw [C.2.1]; exact hd) (lv_room hrest) hR.1 hR.2 hf
  obtain ⟨r, mem', ho, hp, hP', -, hpu, hz, hkf⟩ := hqq
  have hz' : H.size ≤ t.heap.size := by rw [← hT]; exact hz
  have hkf' : ∀ q : Nat, q < H.size → ¬ b ≤ q → t.heap[q]? = H[q]? := by rw [← hT]; exact hkf
  have hpu' : pu = true → ∀ q : Nat, q < H.size → t.heap[q]? = H[q]? := by rw [← hT]; exact hpu
  have hS' : va_S (fun q => b ≤ q) s.heap T'.heap (locs ++ L) := ⟨Nat.le_trans hS.1 (by rw [e1]; exact hz'), fun q h1 h2 => by rw [e1, hkf' q (Nat.lt_of_lt_of_le h1 hS.1) h2]; exact hS.2.1 q h1 h2, fun q hq => by
    rcases List.mem_append.mp hq with h | h
    · exact hS.2.2 q h
    · exact hLb q h⟩
  have hck : (ck && pu) = true → ∀ q : Nat, q < s.heap.size → T'.heap[q]? = s.heap[q]? := fun h q hq => by
    rw [Bool.and_eq_true] at h
    rw [e1, hpu' h.2 q (Nat.lt_of_lt_of_le hq hS.1)]
    exact hk h.1 q hq
  cases r with
  | inr k => exact absurd hp (hno k mem')
  | inl v =>
    obtain ⟨t2, a1, b1⟩ := kk v mem' hp T'.heap (locs ++ L) ls (by rw [e1]; exact hP') hS' hck hl T' rfl X'
    refine ⟨t2, hstep₁ _ (fun acts => ?_), b1⟩
    rw [doInvoke_state]
    refine (hret _ ho).trans ?_
    cases v <;> exact a1
theorem vs_astore_nA (C : vs_X p s m args meth c b D aC own cc nL) {i : Fin 4} {x : Nat} (hd : decode cc pc = .ok (.astore_n i, 1)) (hn : (i : Nat) < nL) (k : vs_G p l e R s m args below meth c b D aC nL Q kc ks ck mem (pc + 1) (vs_s1 lv (i : Nat) (.retAddr x)) st) : vs_G p l e R s m args below meth c b D aC nL Q kc ks ck mem pc lv (.retAddr x :: st) := fun H locs ls hP hS hk hl => lv_astore_n C.1 C.2.1 hd rfl (vs_l_has hl) hn rfl (fun ls' hl' => k H locs ls' hP hS hk (vs_st1 (b := b) (v := .retAddr x) hl'))
theorem vs_astoreA (C : vs_X p s m args meth c b D aC own cc nL) {i : Nat} {x : Nat} (hd : decode cc pc = .ok (.astore i, 2)) (hn : i < nL) (k : vs_G p l e R s m args below meth c b D aC nL Q kc ks ck mem (pc + 2) (vs_s1 lv i (.retAddr x)) st) : vs_G p l e R s m args below meth c b D aC nL Q kc ks ck mem pc lv (.retAddr x :: st) := fun H locs ls hP hS hk hl => lv_astore C.1 C.2.1 hd (vs_l_has hl) hn rfl (fun ls' hl' => k H locs ls' hP hS hk (vs_st1 (b := b) (v := .retAddr x) hl'))
end Help
end
section
theorem nl_L_8 : vs_N "VeilSearchLaw" 8 7 10 [.null, .null, .null, .null, .null, .null, .long 0, .int 0, .int 0, .int 0] := ⟨RX, TX, tyX, rfl, inX, tyX_ok, w_21, w_22, w_1, by decide, fun _ => rfl⟩
theorem ml_L_71 : vs_L "VeilSearchLaw" 71 y_X_init := Or.inl w_23
theorem nl_X_9 : vs_N "VeilSearch" 9 0 5 [.null, .null, .null, .null, .int 0] := ⟨RD, TD, tyD, rfl, inD, tyD_ok, w_29, w_30, w_2, by decide, fun _ => rfl⟩
theorem ml_X_11 : vs_L "VeilSearch" 11 y_D_init := Or.inr ⟨"VeilSearch", w_31⟩
theorem fl_D_9 : vs_F "VeilSearch$Documents" 9 0 0 (.array .int) true := ⟨RD, TD, 5, tyD, rfl, inD, tyD_ok, nmD, by decide, rfl, rfl, rfl, Or.inl w_35⟩
theorem fp_D_9 : ∀ Cn T N, vwCl[0]? = some (Cn, T, N) → Cond.fieldLink "VeilSearch$Documents" 9 (T 0).1 (T 0).2.1 (T 0).2.2.1 ∈ gT := fun Cn T N h => by cases h; exact w_35
theorem fl_X_93 : vs_F "VeilSearch" 93 0 0 (.array .int) true := ⟨RD, TD, 5, tyD, rfl, inD, tyD_ok, nmD, by decide, rfl, rfl, rfl, Or.inr ⟨"VeilSearch", w_36⟩⟩
theorem fl_Q_51 : vs_F "VeilSearch$Query" 51 0 0 (.array .int) true := ⟨RD, TD, 5, tyD, rfl, inD, tyD_ok, nmD, by decide, rfl, rfl, rfl, Or.inr ⟨"VeilSearch", w_37⟩⟩
theorem fl_D_15 : vs_F "VeilSearch$Documents" 15 0 1 (.array .int) true := ⟨RD, TD, 5, tyD, rfl, inD, tyD_ok, nmD, by decide, rfl, rfl, rfl, Or.inl w_38⟩
theorem fp_D_15 : ∀ Cn T N, vwCl[0]? = some (Cn, T, N) → Cond.fieldLink "VeilSearch$Documents" 15 (T 1).1 (T 1).2.1 (T 1).2.2.1 ∈ gT := fun Cn T N h => by cases h; exact w_38
theorem fl_X_107 : vs_F "VeilSearch" 107 0 1 (.array .int) true := ⟨RD, TD, 5, tyD, rfl, inD, tyD_ok, nmD, by decide, rfl, rfl, rfl, Or.inr ⟨"VeilSearch", w_39⟩⟩
theorem fl_D_18 : vs_F "VeilSearch$Documents" 18 0 2 (.array .int) true := ⟨RD, TD, 5, tyD, rfl, inD, tyD_ok, nmD, by decide, rfl, rfl, rfl, Or.inl w_40⟩
theorem fp_D_18 : ∀ Cn T N, vwCl[0]? = some (Cn, T, N) → Cond.fieldLink "VeilSearch$Documents" 18 (T 2).1 (T 2).2.1 (T 2).2.2.1 ∈ gT := fun Cn T N h => by cases h; exact w_40
theorem fl_X_110 : vs_F "VeilSearch" 110 0 2 (.array .int) true := ⟨RD, TD, 5, tyD, rfl, inD, tyD_ok, nmD, by decide, rfl, rfl, rfl, Or.inr ⟨"VeilSearch", w_41⟩⟩
theorem fl_D_21 : vs_F "VeilSearch$Documents" 21 0 3 (.array .int) true := ⟨RD, TD, 5, tyD, rfl, inD, tyD_ok, nmD, by decide, rfl, rfl, rfl, Or.inl w_42⟩
theorem fp_D_21 : ∀ Cn T N, vwCl[0]? = some (Cn, T, N) → Cond.fieldLink "VeilSearch$Documents" 21 (T 3).1 (T 3).2.1 (T 3).2.2.1 ∈ gT := fun Cn T N h => by cases h; exact w_42
theorem fl_X_113 : vs_F "VeilSearch" 113 0 3 (.array .int) true := ⟨RD, TD, 5, tyD, rfl, inD, tyD_ok, nmD, by decide, rfl, rfl, rfl, Or.inr ⟨"VeilSearch", w_43⟩⟩
theorem fl_D_24 : vs_F "VeilSearch$Documents" 24 0 4 (.int) false := ⟨RD, TD, 5, tyD, rfl, inD, tyD_ok, nmD, by decide, rfl, rfl, rfl, Or.inl w_44⟩
theorem fl_X_96 : vs_F "VeilSearch" 96 0 4 (.int) false := ⟨RD, TD, 5, tyD, rfl, inD, tyD_ok, nmD, by decide, rfl, rfl, rfl, Or.inr ⟨"VeilSearch", w_45⟩⟩
theorem nl_X_16 : vs_N "VeilSearch" 16 1 6 [.null, .null, .null, .int 0, .int 0, .int 0] := ⟨RF, TF, tyF, rfl, inF, tyF_ok, w_58, w_59, w_3, by decide, fun _ => rfl⟩
theorem ml_X_18 : vs_L "VeilSearch" 18 y_F_init := Or.inr ⟨"VeilSearch", w_60⟩
theorem fl_F_9 : vs_F "VeilSearch$Filters" 9 1 0 (.array .int) true := ⟨RF, TF, 6, tyF, rfl, inF, tyF_ok, nmF, by decide, rfl, rfl, rfl, Or.inl w_64⟩
theorem fp_F_9 : ∀ Cn T N, vwCl[1]? = some (Cn, T, N) → Cond.fieldLink "VeilSearch$Filters" 9 (T 0).1 (T 0).2.1 (T 0).2.2.1 ∈ gT := fun Cn T N h => by cases h; exact w_64
theorem fl_F_15 : vs_F "VeilSearch$Filters" 15 1 1 (.array .int) true := ⟨RF, TF, 6, tyF, rfl, inF, tyF_ok, nmF, by decide, rfl, rfl, rfl, Or.inl w_65⟩
theorem fp_F_15 : ∀ Cn T N, vwCl[1]? = some (Cn, T, N) → Cond.fieldLink "VeilSearch$Filters" 15 (T 1).1 (T 1).2.1 (T 1).2.2.1 ∈ gT := fun Cn T N h => by cases h; exact w_65
theorem fl_F_18 : vs_F "VeilSearch$Filters" 18 1 2 (.array .long) true := ⟨RF, TF, 6, tyF, rfl, inF, tyF_ok, nmF, by decide, rfl, rfl, rfl, Or.inl w_66⟩
theorem fp_F_18 : ∀ Cn T N, vwCl[1]? = some (Cn, T, N) → Cond.fieldLink "VeilSearch$Filters" 18 (T 2).1 (T 2).2.1 (T 2).2.2.1 ∈ gT := fun Cn T N h => by cases h; exact w_66
theorem fl_F_22 : vs_F "VeilSearch$Filters" 22 1 3 (.int) false := ⟨RF, TF, 6, tyF, rfl, inF, tyF_ok, nmF, by decide, rfl, rfl, rfl, Or.inl w_67⟩
theorem fl_X_170 : vs_F "VeilSearch" 170 1 3 (.int) false := ⟨RF, TF, 6, tyF, rfl, inF, tyF_ok, nmF, by decide, rfl, rfl, rfl, Or.inr ⟨"VeilSearch", w_68⟩⟩
theorem fl_F_26 : vs_F "VeilSearch$Filters" 26 1 4 (.int) false := ⟨RF, TF, 6, tyF, rfl, inF, tyF_ok, nmF, by decide, rfl, rfl, rfl, Or.inl w_69⟩
theorem fl_X_225 : vs_F "VeilSearch" 225 1 4 (.int) false := ⟨RF, TF, 6, tyF, rfl, inF, tyF_ok, nmF, by decide, rfl, rfl, rfl, Or.inr ⟨"VeilSearch", w_70⟩⟩
theorem fl_F_29 : vs_F "VeilSearch$Filters" 29 1 5 (.int) false := ⟨RF, TF, 6, tyF, rfl, inF, tyF_ok, nmF, by decide, rfl, rfl, rfl, Or.inl w_71⟩
theorem fl_X_228 : vs_F "VeilSearch" 228 1 5 (.int) false := ⟨RF, TF, 6, tyF, rfl, inF, tyF_ok, nmF, by decide, rfl, rfl, rfl, Or.inr ⟨"VeilSearch", w_72⟩⟩
theorem nl_X_23 : vs_N "VeilSearch" 23 3 7 [.null, .null, .null, .null, .null, .int 0, .int 0] := ⟨RQ, TQ, tyQ, rfl, inQ, tyQ_ok, w_87, w_88, w_4, by decide, fun _ => rfl⟩
theorem ml_X_25 : vs_L "VeilSearch" 25 y_Q_init := Or.inr ⟨"VeilSearch", w_89⟩
theorem fl_Q_9 : vs_F "VeilSearch$Query" 9 3 0 (.array .int) true := ⟨RQ, TQ, 7, tyQ, rfl, inQ, tyQ_ok, nmQ, by decide, rfl, rfl, rfl, Or.inl w_93⟩
theorem fp_Q_9 : ∀ Cn T N, vwCl[3]? = some (Cn, T, N) → Cond.fieldLink "VeilSearch$Query" 9 (T 0).1 (T 0).2.1 (T 0).2.2.1 ∈ gT := fun Cn T N h => by cases h; exact w_93
theorem fl_Q_15 : vs_F "VeilSearch$Query" 15 3 1 (.array .int) true := ⟨RQ, TQ, 7, tyQ, rfl, inQ, tyQ_ok, nmQ, by decide, rfl, rfl, rfl, Or.inl w_94⟩
theorem fp_Q_15 : ∀ Cn T N, vwCl[3]? = some (Cn, T, N) → Cond.fieldLink "VeilSearch$Query" 15 (T 1).1 (T 1).2.1 (T 1).2.2.1 ∈ gT := fun Cn T N h => by cases h; exact w_94
theorem fl_Q_18 : vs_F "VeilSearch$Query" 18 3 2 (.array .int) true := ⟨RQ, TQ, 7, tyQ, rfl, inQ, tyQ_ok, nmQ, by decide, rfl, rfl, rfl, Or.inl w_95⟩
theorem fp_Q_18 : ∀ Cn T N, vwCl[3]? = some (Cn, T, N) → Cond.fieldLink "VeilSearch$Query" 18 (T 2).1 (T 2).2.1 (T 2).2.2.1 ∈ gT := fun Cn T N h => by cases h; exact w_95
theorem fl_Q_21 : vs_F "VeilSearch$Query" 21 3 3 (.array .float) true := ⟨RQ, TQ, 7, tyQ, rfl, inQ, tyQ_ok, nmQ, by decide, rfl, rfl, rfl, Or.inl w_96⟩
theorem fp_Q_21 : ∀ Cn T N, vwCl[3]? = some (Cn, T, N) → Cond.fieldLink "VeilSearch$Query" 21 (T 3).1 (T 3).2.1 (T 3).2.2.1 ∈ gT := fun Cn T N h => by cases h; exact w_96
theorem fl_Q_25 : vs_F "VeilSearch$Query" 25 3 4 (.array .boolean) true := ⟨RQ, TQ, 7, tyQ, rfl, inQ, tyQ_ok, nmQ, by decide, rfl, rfl, rfl, Or.inl w_97⟩
theorem fp_Q_25 : ∀ Cn T N, vwCl[3]? = some (Cn, T, N) → Cond.fieldLink "VeilSearch$Query" 25 (T 4).1 (T 4).2.1 (T 4).2.2.1 ∈ gT := fun Cn T N h => by cases h; exact w_97
theorem fl_Q_29 : vs_F "VeilSearch$Query" 29 3 5 (.boolean) false := ⟨RQ, TQ, 7, tyQ, rfl, inQ, tyQ_ok, nmQ, by decide, rfl, rfl, rfl, Or.inl w_98⟩
theorem fl_Q_33 : vs_F "VeilSearch$Query" 33 3 6 (.int) false := ⟨RQ, TQ, 7, tyQ, rfl, inQ, tyQ_ok, nmQ, by decide, rfl, rfl, rfl, Or.inl w_99⟩
theorem fl_X_176 : vs_F "VeilSearch" 176 3 6 (.int) false := ⟨RQ, TQ, 7, tyQ, rfl, inQ, tyQ_ok, nmQ, by decide, rfl, rfl, rfl, Or.inr ⟨"VeilSearch", w_100⟩⟩
theorem nl_X_30 : vs_N "VeilSearch" 30 2 4 [.null, .null, .int 0, .int 0] := ⟨RH, TH, tyH, rfl, inH, tyH_ok, w_118, w_119, w_5, by decide, fun _ => rfl⟩
theorem ml_X_32 : vs_L "VeilSearch" 32 y_H_init := Or.inr ⟨"VeilSearch", w_120⟩
theorem fl_H_9 : vs_F "VeilSearch$Hits" 9 2 0 (.array .int) true := ⟨RH, TH, 4, tyH, rfl, inH, tyH_ok, nmH, by decide, rfl, rfl, rfl, Or.inl w_124⟩
theorem fp_H_9 : ∀ Cn T N, vwCl[2]? = some (Cn, T, N) → Cond.fieldLink "VeilSearch$Hits" 9 (T 0).1 (T 0).2.1 (T 0).2.2.1 ∈ gT := fun Cn T N h => by cases h; exact w_124
theorem fl_X_207 : vs_F "VeilSearch" 207 2 0 (.array .int) true := ⟨RH, TH, 4, tyH, rfl, inH, tyH_ok, nmH, by decide, rfl, rfl, rfl, Or.inr ⟨"VeilSearch", w_125⟩⟩
theorem fl_H_15 : vs_F "VeilSearch$Hits" 15 2 1 (.array .float) true := ⟨RH, TH, 4, tyH, rfl, inH, tyH_ok, nmH, by decide, rfl, rfl, rfl, Or.inl w_126⟩
theorem fp_H_15 : ∀ Cn T N, vwCl[2]? = some (Cn, T, N) → Cond.fieldLink "VeilSearch$Hits" 15 (T 1).1 (T 1).2.1 (T 1).2.2.1 ∈ gT := fun Cn T N h => by cases h; exact w_126
theorem fl_X_209 : vs_F "VeilSearch" 209 2 1 (.array .float) true := ⟨RH, TH, 4, tyH, rfl, inH, tyH_ok, nmH, by decide, rfl, rfl, rfl, Or.inr ⟨"VeilSearch", w_127⟩⟩
theorem fl_H_19 : vs_F "VeilSearch$Hits" 19 2 2 (.int) false := ⟨RH, TH, 4, tyH, rfl, inH, tyH_ok, nmH, by decide, rfl, rfl, rfl, Or.inl w_128⟩
theorem fl_X_203 : vs_F "VeilSearch" 203 2 2 (.int) false := ⟨RH, TH, 4, tyH, rfl, inH, tyH_ok, nmH, by decide, rfl, rfl, rfl, Or.inr ⟨"VeilSearch", w_129⟩⟩
theorem fl_H_23 : vs_F "VeilSearch$Hits" 23 2 3 (.int) false := ⟨RH, TH, 4, tyH, rfl, inH, tyH_ok, nmH, by decide, rfl, rfl, rfl, Or.inl w_130⟩
theorem fl_X_260 : vs_F "VeilSearch" 260 2 3 (.int) false := ⟨RH, TH, 4, tyH, rfl, inH, tyH_ok, nmH, by decide, rfl, rfl, rfl, Or.inr ⟨"VeilSearch", w_131⟩⟩
theorem nl_X_37 : vs_N "VeilSearch" 37 6 3 [.null, .null, .long 0] := ⟨RV, TV, tyV, rfl, inV, tyV_ok, w_141, w_142, w_6, by decide, fun _ => rfl⟩
theorem ml_X_39 : vs_L "VeilSearch" 39 y_V_init := Or.inr ⟨"VeilSearch", w_143⟩
theorem nl_V_7 : vs_N "VeilSearch$View" 7 4 3 [.null, .null, .null] := ⟨RR, TR, tyR, rfl, inR, tyR_ok, w_147, w_148, w_7, by decide, fun _ => rfl⟩
theorem ml_V_9 : vs_L "VeilSearch$View" 9 y_R_init := Or.inr ⟨"VeilSearch", w_149⟩
theorem fl_R_9 : vs_F "VeilSearch$Rights" 9 4 0 (.array .int) true := ⟨RR, TR, 3, tyR, rfl, inR, tyR_ok, nmR, by decide, rfl, rfl, rfl, Or.inl w_153⟩
theorem fp_R_9 : ∀ Cn T N, vwCl[4]? = some (Cn, T, N) → Cond.fieldLink "VeilSearch$Rights" 9 (T 0).1 (T 0).2.1 (T 0).2.2.1 ∈ gT := fun Cn T N h => by cases h; exact w_153
theorem fl_R_15 : vs_F "VeilSearch$Rights" 15 4 1 (.array .int) true := ⟨RR, TR, 3, tyR, rfl, inR, tyR_ok, nmR, by decide, rfl, rfl, rfl, Or.inl w_154⟩
theorem fp_R_15 : ∀ Cn T N, vwCl[4]? = some (Cn, T, N) → Cond.fieldLink "VeilSearch$Rights" 15 (T 1).1 (T 1).2.1 (T 1).2.2.1 ∈ gT := fun Cn T N h => by cases h; exact w_154
theorem fl_X_78 : vs_F "VeilSearch" 78 4 1 (.array .int) true := ⟨RR, TR, 3, tyR, rfl, inR, tyR_ok, nmR, by decide, rfl, rfl, rfl, Or.inr ⟨"VeilSearch", w_155⟩⟩
theorem fl_R_18 : vs_F "VeilSearch$Rights" 18 4 2 (.array .int) true := ⟨RR, TR, 3, tyR, rfl, inR, tyR_ok, nmR, by decide, rfl, rfl, rfl, Or.inl w_156⟩
theorem fp_R_18 : ∀ Cn T N, vwCl[4]? = some (Cn, T, N) → Cond.fieldLink "VeilSearch$Rights" 18 (T 2).1 (T 2).2.1 (T 2).2.2.1 ∈ gT := fun Cn T N h => by cases h; exact w_156
theorem fl_X_82 : vs_F "VeilSearch" 82 4 2 (.array .int) true := ⟨RR, TR, 3, tyR, rfl, inR, tyR_ok, nmR, by decide, rfl, rfl, rfl, Or.inr ⟨"VeilSearch", w_157⟩⟩
theorem nl_V_16 : vs_N "VeilSearch$View" 16 5 3 [.null, .null, .int 0] := ⟨RS, TS, tyS, rfl, inS, tyS_ok, w_165, w_166, w_8, by decide, fun _ => rfl⟩
theorem ml_V_18 : vs_L "VeilSearch$View" 18 y_S_init := Or.inr ⟨"VeilSearch", w_167⟩
theorem fl_S_9 : vs_F "VeilSearch$Segments" 9 5 0 (.array .int) true := ⟨RS, TS, 3, tyS, rfl, inS, tyS_ok, nmS, by decide, rfl, rfl, rfl, Or.inl w_171⟩
theorem fp_S_9 : ∀ Cn T N, vwCl[5]? = some (Cn, T, N) → Cond.fieldLink "VeilSearch$Segments" 9 (T 0).1 (T 0).2.1 (T 0).2.2.1 ∈ gT := fun Cn T N h => by cases h; exact w_171
theorem fl_X_189 : vs_F "VeilSearch" 189 5 0 (.array .int) true := ⟨RS, TS, 3, tyS, rfl, inS, tyS_ok, nmS, by decide, rfl, rfl, rfl, Or.inr ⟨"VeilSearch", w_172⟩⟩
theorem fl_S_15 : vs_F "VeilSearch$Segments" 15 5 1 (.array .long) true := ⟨RS, TS, 3, tyS, rfl, inS, tyS_ok, nmS, by decide, rfl, rfl, rfl, Or.inl w_173⟩
theorem fp_S_15 : ∀ Cn T N, vwCl[5]? = some (Cn, T, N) → Cond.fieldLink "VeilSearch$Segments" 15 (T 1).1 (T 1).2.1 (T 1).2.2.1 ∈ gT := fun Cn T N h => by cases h; exact w_173
theorem fl_X_192 : vs_F "VeilSearch" 192 5 1 (.array .long) true := ⟨RS, TS, 3, tyS, rfl, inS, tyS_ok, nmS, by decide, rfl, rfl, rfl, Or.inr ⟨"VeilSearch", w_174⟩⟩
theorem fl_S_19 : vs_F "VeilSearch$Segments" 19 5 2 (.int) false := ⟨RS, TS, 3, tyS, rfl, inS, tyS_ok, nmS, by decide, rfl, rfl, rfl, Or.inl w_175⟩
theorem fl_X_139 : vs_F "VeilSearch" 139 5 2 (.int) false := ⟨RS, TS, 3, tyS, rfl, inS, tyS_ok, nmS, by decide, rfl, rfl, rfl, Or.inr ⟨"VeilSearch", w_176⟩⟩
theorem fl_V_10 : vs_F "VeilSearch$View" 10 6 0 (.object "VeilSearch$Rights") true := ⟨RV, TV, 3, tyV, rfl, inV, tyV_ok, nmV, by decide, rfl, rfl, rfl, Or.inl w_184⟩
theorem fp_V_10 : ∀ Cn T N, vwCl[6]? = some (Cn, T, N) → Cond.fieldLink "VeilSearch$View" 10 (T 0).1 (T 0).2.1 (T 0).2.2.1 ∈ gT := fun Cn T N h => by cases h; exact w_184
theorem fl_X_68 : vs_F "VeilSearch" 68 6 0 (.object "VeilSearch$Rights") true := ⟨RV, TV, 3, tyV, rfl, inV, tyV_ok, nmV, by decide, rfl, rfl, rfl, Or.inr ⟨"VeilSearch", w_185⟩⟩
theorem fl_V_19 : vs_F "VeilSearch$View" 19 6 1 (.object "VeilSearch$Segments") true := ⟨RV, TV, 3, tyV, rfl, inV, tyV_ok, nmV, by decide, rfl, rfl, rfl, Or.inl w_186⟩
theorem fp_V_19 : ∀ Cn T N, vwCl[6]? = some (Cn, T, N) → Cond.fieldLink "VeilSearch$View" 19 (T 1).1 (T 1).2.1 (T 1).2.2.1 ∈ gT := fun Cn T N h => by cases h; exact w_186
theorem fl_X_135 : vs_F "VeilSearch" 135 6 1 (.object "VeilSearch$Segments") true := ⟨RV, TV, 3, tyV, rfl, inV, tyV_ok, nmV, by decide, rfl, rfl, rfl, Or.inr ⟨"VeilSearch", w_187⟩⟩
theorem fl_V_23 : vs_F "VeilSearch$View" 23 6 2 (.long) false := ⟨RV, TV, 3, tyV, rfl, inV, tyV_ok, nmV, by decide, rfl, rfl, rfl, Or.inl w_188⟩
theorem fl_X_123 : vs_F "VeilSearch" 123 6 2 (.long) false := ⟨RV, TV, 3, tyV, rfl, inV, tyV_ok, nmV, by decide, rfl, rfl, rfl, Or.inr ⟨"VeilSearch", w_189⟩⟩
theorem fl_X_12 : vs_F "VeilSearch" 12 7 0 (.object "VeilSearch$Documents") true := ⟨RX, TX, 10, tyX, rfl, inX, tyX_ok, nmX, by decide, rfl, rfl, rfl, Or.inl w_197⟩
theorem fp_X_12 : ∀ Cn T N, vwCl[7]? = some (Cn, T, N) → Cond.fieldLink "VeilSearch" 12 (T 0).1 (T 0).2.1 (T 0).2.2.1 ∈ gT := fun Cn T N h => by cases h; exact w_197
theorem fl_X_19 : vs_F "VeilSearch" 19 7 1 (.object "VeilSearch$Filters") true := ⟨RX, TX, 10, tyX, rfl, inX, tyX_ok, nmX, by decide, rfl, rfl, rfl, Or.inl w_198⟩
theorem fp_X_19 : ∀ Cn T N, vwCl[7]? = some (Cn, T, N) → Cond.fieldLink "VeilSearch" 19 (T 1).1 (T 1).2.1 (T 1).2.2.1 ∈ gT := fun Cn T N h => by cases h; exact w_198
theorem fl_X_26 : vs_F "VeilSearch" 26 7 2 (.object "VeilSearch$Query") true := ⟨RX, TX, 10, tyX, rfl, inX, tyX_ok, nmX, by decide, rfl, rfl, rfl, Or.inl w_199⟩
theorem fp_X_26 : ∀ Cn T N, vwCl[7]? = some (Cn, T, N) → Cond.fieldLink "VeilSearch" 26 (T 2).1 (T 2).2.1 (T 2).2.2.1 ∈ gT := fun Cn T N h => by cases h; exact w_199
theorem fl_X_33 : vs_F "VeilSearch" 33 7 3 (.object "VeilSearch$Hits") true := ⟨RX, TX, 10, tyX, rfl, inX, tyX_ok, nmX, by decide, rfl, rfl, rfl, Or.inl w_200⟩
theorem fp_X_33 : ∀ Cn T N, vwCl[7]? = some (Cn, T, N) → Cond.fieldLink "VeilSearch" 33 (T 3).1 (T 3).2.1 (T 3).2.2.1 ∈ gT := fun Cn T N h => by cases h; exact w_200
theorem fl_X_40 : vs_F "VeilSearch" 40 7 4 (.object "VeilSearch$View") true := ⟨RX, TX, 10, tyX, rfl, inX, tyX_ok, nmX, by decide, rfl, rfl, rfl, Or.inl w_201⟩
theorem fp_X_40 : ∀ Cn T N, vwCl[7]? = some (Cn, T, N) → Cond.fieldLink "VeilSearch" 40 (T 4).1 (T 4).2.1 (T 4).2.2.1 ∈ gT := fun Cn T N h => by cases h; exact w_201
theorem fl_X_44 : vs_F "VeilSearch" 44 7 5 (.object "VeilSearch$View") true := ⟨RX, TX, 10, tyX, rfl, inX, tyX_ok, nmX, by decide, rfl, rfl, rfl, Or.inl w_202⟩
theorem fp_X_44 : ∀ Cn T N, vwCl[7]? = some (Cn, T, N) → Cond.fieldLink "VeilSearch" 44 (T 5).1 (T 5).2.1 (T 5).2.2.1 ∈ gT := fun Cn T N h => by cases h; exact w_202
theorem fl_X_47 : vs_F "VeilSearch" 47 7 6 (.long) false := ⟨RX, TX, 10, tyX, rfl, inX, tyX_ok, nmX, by decide, rfl, rfl, rfl, Or.inl w_203⟩
theorem fl_X_51 : vs_F "VeilSearch" 51 7 7 (.int) false := ⟨RX, TX, 10, tyX, rfl, inX, tyX_ok, nmX, by decide, rfl, rfl, rfl, Or.inl w_204⟩
theorem fl_X_55 : vs_F "VeilSearch" 55 7 8 (.int) false := ⟨RX, TX, 10, tyX, rfl, inX, tyX_ok, nmX, by decide, rfl, rfl, rfl, Or.inl w_205⟩
theorem fl_X_58 : vs_F "VeilSearch" 58 7 9 (.int) false := ⟨RX, TX, 10, tyX, rfl, inX, tyX_ok, nmX, by decide, rfl, rfl, rfl, Or.inl w_206⟩
theorem ml_L_114 : vs_L "VeilSearchLaw" 114 y_X_merge := Or.inl w_228
theorem ml_X_154 : vs_L "VeilSearch" 154 y_S_allIds := Or.inl w_232
theorem ml_X_150 : vs_L "VeilSearch" 150 y_X_appendSegment := Or.inl w_237
theorem ml_X_237 : vs_L "VeilSearch" 237 y_S_append := Or.inl w_241
theorem ml_X_144 : vs_L "VeilSearch" 144 y_J_bitCount := Or.inl w_245
theorem ml_L_118 : vs_L "VeilSearchLaw" 118 y_X_refresh := Or.inl w_251
theorem ml_X_158 : vs_L "VeilSearch" 158 y_R_sameAs := Or.inl w_255
theorem ml_R_21 : vs_L "VeilSearch$Rights" 21 y_R_sameRow := Or.inl w_259
theorem ml_X_162 : vs_L "VeilSearch" 162 y_V_takeOver := Or.inl w_262
theorem ml_V_33 : vs_L "VeilSearch$View" 33 y_R_takeOver := Or.inl w_266
theorem ml_V_37 : vs_L "VeilSearch$View" 37 y_S_takeOver := Or.inl w_273
theorem ml_X_166 : vs_L "VeilSearch" 166 y_F_dropAllBut := Or.inl w_278
theorem ml_F_40 : vs_L "VeilSearch$Filters" 40 y_S_hasNumber := Or.inl w_282
theorem ml_F_32 : vs_L "VeilSearch$Filters" 32 y_F_drop := Or.inl w_286
theorem ml_X_173 : vs_L "VeilSearch" 173 y_V_livingIds := Or.inl w_290
theorem ml_V_27 : vs_L "VeilSearch$View" 27 y_S_allIds := Or.inl w_294
theorem ml_L_126 : vs_L "VeilSearchLaw" 126 y_X_clear := Or.inl w_296
theorem ml_L_75 : vs_L "VeilSearchLaw" 75 y_L_member := Or.inl w_300
theorem ml_L_7 : vs_L "VeilSearchLaw" 7 y_X_member := Or.inl w_304
theorem ml_X_61 : vs_L "VeilSearch" 61 y_X_isBelow := Or.inl w_308
theorem ml_X_72 : vs_L "VeilSearch" 72 y_R_join := Or.inl w_376
theorem ml_L_84 : vs_L "VeilSearchLaw" 84 y_L_level := Or.inl w_380
theorem ml_L_15 : vs_L "VeilSearchLaw" 15 y_X_level := Or.inl w_383
theorem ml_L_90 : vs_L "VeilSearchLaw" 90 y_L_weigh := Or.inl w_387
theorem ml_L_19 : vs_L "VeilSearchLaw" 19 y_X_weigh := Or.inl w_390
theorem ml_X_85 : vs_L "VeilSearch" 85 y_X_isWeight := Or.inl w_394
theorem ml_X_89 : vs_L "VeilSearch" 89 y_X_codeOf := Or.inl w_399
theorem ml_X_99 : vs_L "VeilSearch" 99 y_D_codePlace := Or.inl w_404
theorem ml_D_28 : vs_L "VeilSearch$Documents" 28 y_D_valuePlace := Or.inl w_407
theorem ml_L_94 : vs_L "VeilSearchLaw" 94 y_L_put := Or.inl w_410
theorem ml_L_23 : vs_L "VeilSearchLaw" 23 y_X_put := Or.inl w_413
theorem ml_X_103 : vs_L "VeilSearch" 103 y_D_valuePlace := Or.inl w_417
theorem ml_L_98 : vs_L "VeilSearchLaw" 98 y_L_rule := Or.inl w_418
theorem ml_L_27 : vs_L "VeilSearchLaw" 27 y_X_rule := Or.inl w_421
theorem ml_L_102 : vs_L "VeilSearchLaw" 102 y_L_add := Or.inl w_425
theorem ml_L_31 : vs_L "VeilSearchLaw" 31 y_X_add := Or.inl w_429
theorem ml_X_119 : vs_L "VeilSearch" 119 y_D_finishDraft := Or.inl w_448
theorem ml_L_106 : vs_L "VeilSearchLaw" 106 y_L_remove := Or.inl w_452
theorem ml_L_37 : vs_L "VeilSearchLaw" 37 y_X_remove := Or.inl w_456
theorem ml_X_126 : vs_L "VeilSearch" 126 y_X_holds := Or.inl w_460
theorem ml_L_110 : vs_L "VeilSearchLaw" 110 y_L_flush := Or.inl w_478
theorem ml_L_43 : vs_L "VeilSearchLaw" 43 y_X_flush := Or.inl w_481
theorem ml_L_122 : vs_L "VeilSearchLaw" 122 y_L_clause := Or.inl w_485
theorem ml_L_47 : vs_L "VeilSearchLaw" 47 y_X_clause := Or.inl w_488
theorem ml_X_177 : vs_L "VeilSearch" 177 y_Q_insert := Or.inl w_492
theorem ml_Q_37 : vs_L "VeilSearch$Query" 37 y_Q_comesLater := Or.inl w_496
theorem ml_Q_41 : vs_L "VeilSearch$Query" 41 y_Q_move := Or.inl w_500
theorem ml_L_130 : vs_L "VeilSearchLaw" 130 y_L_search := Or.inl w_504
theorem ml_L_51 : vs_L "VeilSearchLaw" 51 y_X_search := Or.inl w_507
theorem ml_X_181 : vs_L "VeilSearch" 181 y_H_restart := Or.inl w_511
theorem ml_X_185 : vs_L "VeilSearch" 185 y_Q_openFor := Or.inl w_515
theorem ml_Q_45 : vs_L "VeilSearch$Query" 45 y_R_isOpen := Or.inl w_519
theorem ml_X_195 : vs_L "VeilSearch" 195 y_X_filterOf := Or.inl w_523
theorem ml_X_241 : vs_L "VeilSearch" 241 y_F_placeOf := Or.inl w_527
theorem ml_X_244 : vs_L "VeilSearch" 244 y_F_reuse := Or.inl w_531
theorem ml_F_36 : vs_L "VeilSearch$Filters" 36 y_F_append := Or.inl w_535
theorem ml_X_213 : vs_L "VeilSearch" 213 y_R_tokensOf := Or.inl w_539
theorem ml_X_248 : vs_L "VeilSearch" 248 y_D_readableOf := Or.inl w_543
theorem ml_D_32 : vs_L "VeilSearch$Documents" 32 y_X_holds := Or.inr ⟨"VeilSearch", w_547⟩
theorem ml_D_36 : vs_L "VeilSearch$Documents" 36 y_D_mayRead := Or.inl w_548
theorem ml_X_252 : vs_L "VeilSearch" 252 y_F_keepNew := Or.inl w_552
theorem ml_X_199 : vs_L "VeilSearch" 199 y_X_passThrough := Or.inl w_556
theorem ml_X_256 : vs_L "VeilSearch" 256 y_X_firstBlock := Or.inl w_560
theorem ml_X_263 : vs_L "VeilSearch" 263 y_Q_scoreOf := Or.inl w_563
theorem ml_Q_60 : vs_L "VeilSearch$Query" 60 y_D_greatestCode := Or.inl w_567
theorem ml_D_40 : vs_L "VeilSearch$Documents" 40 y_X_lowestId := Or.inr ⟨"VeilSearch", w_571⟩
theorem ml_D_44 : vs_L "VeilSearch$Documents" 44 y_D_codePlace := Or.inl w_574
theorem ml_X_267 : vs_L "VeilSearch" 267 y_H_lastScore := Or.inl w_579
theorem ml_X_271 : vs_L "VeilSearch" 271 y_X_lookAt := Or.inl w_583
theorem ml_X_274 : vs_L "VeilSearch" 274 y_X_lowestId := Or.inl w_587
theorem ml_X_277 : vs_L "VeilSearch" 277 y_Q_finds := Or.inl w_588
theorem ml_Q_56 : vs_L "VeilSearch$Query" 56 y_D_codePlace := Or.inl w_592
theorem ml_X_281 : vs_L "VeilSearch" 281 y_H_take := Or.inl w_593
theorem ml_H_26 : vs_L "VeilSearch$Hits" 26 y_H_lastScore := Or.inl w_597
theorem ml_L_133 : vs_L "VeilSearchLaw" 133 y_L_hit := Or.inl w_601
theorem ml_L_54 : vs_L "VeilSearchLaw" 54 y_X_hit := Or.inl w_605
theorem ml_L_136 : vs_L "VeilSearchLaw" 136 y_L_score := Or.inl w_624
theorem ml_L_59 : vs_L "VeilSearchLaw" 59 y_X_score := Or.inl w_627
theorem ml_L_140 : vs_L "VeilSearchLaw" 140 y_L_value := Or.inl w_631
theorem ml_L_63 : vs_L "VeilSearchLaw" 63 y_X_value := Or.inl w_635
theorem ml_X_216 : vs_L "VeilSearch" 216 y_D_mayRead := Or.inl w_639
theorem ml_X_219 : vs_L "VeilSearch" 219 y_R_isOpen := Or.inl w_640
theorem ml_L_143 : vs_L "VeilSearchLaw" 143 y_L_count := Or.inl w_656
theorem ml_L_68 : vs_L "VeilSearchLaw" 68 y_X_count := Or.inl w_659
theorem nl_L_72 : vs_N "VeilSearchLaw" 72 8 40 [.null, .null, .null, .null, .null, .null, .null, .null, .null, .null, .null, .null, .null, .null, .null, .null, .null, .null, .null, .null, .null, .null, .null, .null, .null, .null, .null, .int 0, .int 0, .int 0, .int 0, .int 0, .int 0, .int 0, .int 0, .int 0, .int 0, .int 0, .int 0, .int 0] := ⟨RM, TM, tyM, rfl, inM, tyM_ok, w_663, w_664, w_9, by decide, fun _ => rfl⟩
theorem ml_L_74 : vs_L "VeilSearchLaw" 74 y_M_init := Or.inl w_665
theorem fl_M_7 : vs_F "VeilSearchModel" 7 8 0 (.array .int) true := ⟨RM, TM, 40, tyM, rfl, inM, tyM_ok, nmM, by decide, rfl, rfl, rfl, Or.inl w_669⟩
theorem fp_M_7 : ∀ Cn T N, vwCl[8]? = some (Cn, T, N) → Cond.fieldLink "VeilSearchModel" 7 (T 0).1 (T 0).2.1 (T 0).2.2.1 ∈ gT := fun Cn T N h => by cases h; exact w_669
theorem fl_M_13 : vs_F "VeilSearchModel" 13 8 1 (.array .int) true := ⟨RM, TM, 40, tyM, rfl, inM, tyM_ok, nmM, by decide, rfl, rfl, rfl, Or.inl w_670⟩
theorem fp_M_13 : ∀ Cn T N, vwCl[8]? = some (Cn, T, N) → Cond.fieldLink "VeilSearchModel" 13 (T 1).1 (T 1).2.1 (T 1).2.2.1 ∈ gT := fun Cn T N h => by cases h; exact w_670
theorem fl_M_16 : vs_F "VeilSearchModel" 16 8 2 (.array .int) true := ⟨RM, TM, 40, tyM, rfl, inM, tyM_ok, nmM, by decide, rfl, rfl, rfl, Or.inl w_671⟩
theorem fp_M_16 : ∀ Cn T N, vwCl[8]? = some (Cn, T, N) → Cond.fieldLink "VeilSearchModel" 16 (T 2).1 (T 2).2.1 (T 2).2.2.1 ∈ gT := fun Cn T N h => by cases h; exact w_671
theorem fl_M_19 : vs_F "VeilSearchModel" 19 8 3 (.array .int) true := ⟨RM, TM, 40, tyM, rfl, inM, tyM_ok, nmM, by decide, rfl, rfl, rfl, Or.inl w_672⟩
theorem fp_M_19 : ∀ Cn T N, vwCl[8]? = some (Cn, T, N) → Cond.fieldLink "VeilSearchModel" 19 (T 3).1 (T 3).2.1 (T 3).2.2.1 ∈ gT := fun Cn T N h => by cases h; exact w_672
theorem fl_M_22 : vs_F "VeilSearchModel" 22 8 4 (.array .int) true := ⟨RM, TM, 40, tyM, rfl, inM, tyM_ok, nmM, by decide, rfl, rfl, rfl, Or.inl w_673⟩
theorem fp_M_22 : ∀ Cn T N, vwCl[8]? = some (Cn, T, N) → Cond.fieldLink "VeilSearchModel" 22 (T 4).1 (T 4).2.1 (T 4).2.2.1 ∈ gT := fun Cn T N h => by cases h; exact w_673
theorem fl_M_25 : vs_F "VeilSearchModel" 25 8 5 (.array .int) true := ⟨RM, TM, 40, tyM, rfl, inM, tyM_ok, nmM, by decide, rfl, rfl, rfl, Or.inl w_674⟩
theorem fp_M_25 : ∀ Cn T N, vwCl[8]? = some (Cn, T, N) → Cond.fieldLink "VeilSearchModel" 25 (T 5).1 (T 5).2.1 (T 5).2.2.1 ∈ gT := fun Cn T N h => by cases h; exact w_674
theorem fl_M_28 : vs_F "VeilSearchModel" 28 8 6 (.array .int) true := ⟨RM, TM, 40, tyM, rfl, inM, tyM_ok, nmM, by decide, rfl, rfl, rfl, Or.inl w_675⟩
theorem fp_M_28 : ∀ Cn T N, vwCl[8]? = some (Cn, T, N) → Cond.fieldLink "VeilSearchModel" 28 (T 6).1 (T 6).2.1 (T 6).2.2.1 ∈ gT := fun Cn T N h => by cases h; exact w_675
theorem fl_M_31 : vs_F "VeilSearchModel" 31 8 7 (.array .int) true := ⟨RM, TM, 40, tyM, rfl, inM, tyM_ok, nmM, by decide, rfl, rfl, rfl, Or.inl w_676⟩
theorem fp_M_31 : ∀ Cn T N, vwCl[8]? = some (Cn, T, N) → Cond.fieldLink "VeilSearchModel" 31 (T 7).1 (T 7).2.1 (T 7).2.2.1 ∈ gT := fun Cn T N h => by cases h; exact w_676
theorem fl_M_34 : vs_F "VeilSearchModel" 34 8 8 (.array .int) true := ⟨RM, TM, 40, tyM, rfl, inM, tyM_ok, nmM, by decide, rfl, rfl, rfl, Or.inl w_677⟩
theorem fp_M_34 : ∀ Cn T N, vwCl[8]? = some (Cn, T, N) → Cond.fieldLink "VeilSearchModel" 34 (T 8).1 (T 8).2.1 (T 8).2.2.1 ∈ gT := fun Cn T N h => by cases h; exact w_677
theorem fl_M_37 : vs_F "VeilSearchModel" 37 8 9 (.array .int) true := ⟨RM, TM, 40, tyM, rfl, inM, tyM_ok, nmM, by decide, rfl, rfl, rfl, Or.inl w_678⟩
theorem fp_M_37 : ∀ Cn T N, vwCl[8]? = some (Cn, T, N) → Cond.fieldLink "VeilSearchModel" 37 (T 9).1 (T 9).2.1 (T 9).2.2.1 ∈ gT := fun Cn T N h => by cases h; exact w_678
theorem fl_M_40 : vs_F "VeilSearchModel" 40 8 10 (.array .int) true := ⟨RM, TM, 40, tyM, rfl, inM, tyM_ok, nmM, by decide, rfl, rfl, rfl, Or.inl w_679⟩
theorem fp_M_40 : ∀ Cn T N, vwCl[8]? = some (Cn, T, N) → Cond.fieldLink "VeilSearchModel" 40 (T 10).1 (T 10).2.1 (T 10).2.2.1 ∈ gT := fun Cn T N h => by cases h; exact w_679
theorem fl_M_43 : vs_F "VeilSearchModel" 43 8 11 (.array .int) true := ⟨RM, TM, 40, tyM, rfl, inM, tyM_ok, nmM, by decide, rfl, rfl, rfl, Or.inl w_680⟩
theorem fp_M_43 : ∀ Cn T N, vwCl[8]? = some (Cn, T, N) → Cond.fieldLink "VeilSearchModel" 43 (T 11).1 (T 11).2.1 (T 11).2.2.1 ∈ gT := fun Cn T N h => by cases h; exact w_680
theorem fl_M_46 : vs_F "VeilSearchModel" 46 8 12 (.array .int) true := ⟨RM, TM, 40, tyM, rfl, inM, tyM_ok, nmM, by decide, rfl, rfl, rfl, Or.inl w_681⟩
theorem fp_M_46 : ∀ Cn T N, vwCl[8]? = some (Cn, T, N) → Cond.fieldLink "VeilSearchModel" 46 (T 12).1 (T 12).2.1 (T 12).2.2.1 ∈ gT := fun Cn T N h => by cases h; exact w_681
theorem fl_M_49 : vs_F "VeilSearchModel" 49 8 13 (.array .boolean) true := ⟨RM, TM, 40, tyM, rfl, inM, tyM_ok, nmM, by decide, rfl, rfl, rfl, Or.inl w_682⟩
theorem fp_M_49 : ∀ Cn T N, vwCl[8]? = some (Cn, T, N) → Cond.fieldLink "VeilSearchModel" 49 (T 13).1 (T 13).2.1 (T 13).2.2.1 ∈ gT := fun Cn T N h => by cases h; exact w_682
theorem fl_M_53 : vs_F "VeilSearchModel" 53 8 14 (.array .boolean) true := ⟨RM, TM, 40, tyM, rfl, inM, tyM_ok, nmM, by decide, rfl, rfl, rfl, Or.inl w_683⟩
theorem fp_M_53 : ∀ Cn T N, vwCl[8]? = some (Cn, T, N) → Cond.fieldLink "VeilSearchModel" 53 (T 14).1 (T 14).2.1 (T 14).2.2.1 ∈ gT := fun Cn T N h => by cases h; exact w_683
theorem fl_M_56 : vs_F "VeilSearchModel" 56 8 15 (.array .int) true := ⟨RM, TM, 40, tyM, rfl, inM, tyM_ok, nmM, by decide, rfl, rfl, rfl, Or.inl w_684⟩
theorem fp_M_56 : ∀ Cn T N, vwCl[8]? = some (Cn, T, N) → Cond.fieldLink "VeilSearchModel" 56 (T 15).1 (T 15).2.1 (T 15).2.2.1 ∈ gT := fun Cn T N h => by cases h; exact w_684
theorem fl_M_59 : vs_F "VeilSearchModel" 59 8 16 (.array .int) true := ⟨RM, TM, 40, tyM, rfl, inM, tyM_ok, nmM, by decide, rfl, rfl, rfl, Or.inl w_685⟩
theorem fp_M_59 : ∀ Cn T N, vwCl[8]? = some (Cn, T, N) → Cond.fieldLink "VeilSearchModel" 59 (T 16).1 (T 16).2.1 (T 16).2.2.1 ∈ gT := fun Cn T N h => by cases h; exact w_685
theorem fl_M_62 : vs_F "VeilSearchModel" 62 8 17 (.array .int) true := ⟨RM, TM, 40, tyM, rfl, inM, tyM_ok, nmM, by decide, rfl, rfl, rfl, Or.inl w_686⟩
theorem fp_M_62 : ∀ Cn T N, vwCl[8]? = some (Cn, T, N) → Cond.fieldLink "VeilSearchModel" 62 (T 17).1 (T 17).2.1 (T 17).2.2.1 ∈ gT := fun Cn T N h => by cases h; exact w_686
theorem fl_M_65 : vs_F "VeilSearchModel" 65 8 18 (.array .int) true := ⟨RM, TM, 40, tyM, rfl, inM, tyM_ok, nmM, by decide, rfl, rfl, rfl, Or.inl w_687⟩
theorem fp_M_65 : ∀ Cn T N, vwCl[8]? = some (Cn, T, N) → Cond.fieldLink "VeilSearchModel" 65 (T 18).1 (T 18).2.1 (T 18).2.2.1 ∈ gT := fun Cn T N h => by cases h; exact w_687
theorem fl_M_68 : vs_F "VeilSearchModel" 68 8 19 (.array .int) true := ⟨RM, TM, 40, tyM, rfl, inM, tyM_ok, nmM, by decide, rfl, rfl, rfl, Or.inl w_688⟩
theorem fp_M_68 : ∀ Cn T N, vwCl[8]? = some (Cn, T, N) → Cond.fieldLink "VeilSearchModel" 68 (T 19).1 (T 19).2.1 (T 19).2.2.1 ∈ gT := fun Cn T N h => by cases h; exact w_688
theorem fl_M_71 : vs_F "VeilSearchModel" 71 8 20 (.array .int) true := ⟨RM, TM, 40, tyM, rfl, inM, tyM_ok, nmM, by decide, rfl, rfl, rfl, Or.inl w_689⟩
theorem fp_M_71 : ∀ Cn T N, vwCl[8]? = some (Cn, T, N) → Cond.fieldLink "VeilSearchModel" 71 (T 20).1 (T 20).2.1 (T 20).2.2.1 ∈ gT := fun Cn T N h => by cases h; exact w_689
theorem fl_M_74 : vs_F "VeilSearchModel" 74 8 21 (.array .int) true := ⟨RM, TM, 40, tyM, rfl, inM, tyM_ok, nmM, by decide, rfl, rfl, rfl, Or.inl w_690⟩
theorem fp_M_74 : ∀ Cn T N, vwCl[8]? = some (Cn, T, N) → Cond.fieldLink "VeilSearchModel" 74 (T 21).1 (T 21).2.1 (T 21).2.2.1 ∈ gT := fun Cn T N h => by cases h; exact w_690
theorem fl_M_77 : vs_F "VeilSearchModel" 77 8 22 (.array .double) true := ⟨RM, TM, 40, tyM, rfl, inM, tyM_ok, nmM, by decide, rfl, rfl, rfl, Or.inl w_691⟩
theorem fp_M_77 : ∀ Cn T N, vwCl[8]? = some (Cn, T, N) → Cond.fieldLink "VeilSearchModel" 77 (T 22).1 (T 22).2.1 (T 22).2.2.1 ∈ gT := fun Cn T N h => by cases h; exact w_691
theorem fl_M_81 : vs_F "VeilSearchModel" 81 8 23 (.array .float) true := ⟨RM, TM, 40, tyM, rfl, inM, tyM_ok, nmM, by decide, rfl, rfl, rfl, Or.inl w_692⟩
theorem fp_M_81 : ∀ Cn T N, vwCl[8]? = some (Cn, T, N) → Cond.fieldLink "VeilSearchModel" 81 (T 23).1 (T 23).2.1 (T 23).2.2.1 ∈ gT := fun Cn T N h => by cases h; exact w_692
theorem fl_M_85 : vs_F "VeilSearchModel" 85 8 24 (.array .int) true := ⟨RM, TM, 40, tyM, rfl, inM, tyM_ok, nmM, by decide, rfl, rfl, rfl, Or.inl w_693⟩
theorem fp_M_85 : ∀ Cn T N, vwCl[8]? = some (Cn, T, N) → Cond.fieldLink "VeilSearchModel" 85 (T 24).1 (T 24).2.1 (T 24).2.2.1 ∈ gT := fun Cn T N h => by cases h; exact w_693
theorem fl_M_88 : vs_F "VeilSearchModel" 88 8 25 (.array .int) true := ⟨RM, TM, 40, tyM, rfl, inM, tyM_ok, nmM, by decide, rfl, rfl, rfl, Or.inl w_694⟩
theorem fp_M_88 : ∀ Cn T N, vwCl[8]? = some (Cn, T, N) → Cond.fieldLink "VeilSearchModel" 88 (T 25).1 (T 25).2.1 (T 25).2.2.1 ∈ gT := fun Cn T N h => by cases h; exact w_694
theorem fl_M_91 : vs_F "VeilSearchModel" 91 8 26 (.array .int) true := ⟨RM, TM, 40, tyM, rfl, inM, tyM_ok, nmM, by decide, rfl, rfl, rfl, Or.inl w_695⟩
theorem fp_M_91 : ∀ Cn T N, vwCl[8]? = some (Cn, T, N) → Cond.fieldLink "VeilSearchModel" 91 (T 26).1 (T 26).2.1 (T 26).2.2.1 ∈ gT := fun Cn T N h => by cases h; exact w_695
theorem fl_M_116 : vs_F "VeilSearchModel" 116 8 27 (.int) false := ⟨RM, TM, 40, tyM, rfl, inM, tyM_ok, nmM, by decide, rfl, rfl, rfl, Or.inl w_696⟩
theorem fl_M_119 : vs_F "VeilSearchModel" 119 8 28 (.int) false := ⟨RM, TM, 40, tyM, rfl, inM, tyM_ok, nmM, by decide, rfl, rfl, rfl, Or.inl w_697⟩
theorem fl_M_128 : vs_F "VeilSearchModel" 128 8 29 (.int) false := ⟨RM, TM, 40, tyM, rfl, inM, tyM_ok, nmM, by decide, rfl, rfl, rfl, Or.inl w_698⟩
theorem fl_M_125 : vs_F "VeilSearchModel" 125 8 30 (.int) false := ⟨RM, TM, 40, tyM, rfl, inM, tyM_ok, nmM, by decide, rfl, rfl, rfl, Or.inl w_699⟩
theorem fl_M_146 : vs_F "VeilSearchModel" 146 8 31 (.int) false := ⟨RM, TM, 40, tyM, rfl, inM, tyM_ok, nmM, by decide, rfl, rfl, rfl, Or.inl w_700⟩
theorem fl_M_157 : vs_F "VeilSearchModel" 157 8 32 (.int) false := ⟨RM, TM, 40, tyM, rfl, inM, tyM_ok, nmM, by decide, rfl, rfl, rfl, Or.inl w_701⟩
theorem fl_M_169 : vs_F "VeilSearchModel" 169 8 33 (.int) false := ⟨RM, TM, 40, tyM, rfl, inM, tyM_ok, nmM, by decide, rfl, rfl, rfl, Or.inl w_702⟩
theorem fl_M_178 : vs_F "VeilSearchModel" 178 8 34 (.int) false := ⟨RM, TM, 40, tyM, rfl, inM, tyM_ok, nmM, by decide, rfl, rfl, rfl, Or.inl w_703⟩
theorem fl_M_131 : vs_F "VeilSearchModel" 131 8 35 (.int) false := ⟨RM, TM, 40, tyM, rfl, inM, tyM_ok, nmM, by decide, rfl, rfl, rfl, Or.inl w_704⟩
theorem fl_M_166 : vs_F "VeilSearchModel" 166 8 36 (.int) false := ⟨RM, TM, 40, tyM, rfl, inM, tyM_ok, nmM, by decide, rfl, rfl, rfl, Or.inl w_705⟩
theorem fl_M_163 : vs_F "VeilSearchModel" 163 8 37 (.int) false := ⟨RM, TM, 40, tyM, rfl, inM, tyM_ok, nmM, by decide, rfl, rfl, rfl, Or.inl w_706⟩
theorem fl_M_160 : vs_F "VeilSearchModel" 160 8 38 (.int) false := ⟨RM, TM, 40, tyM, rfl, inM, tyM_ok, nmM, by decide, rfl, rfl, rfl, Or.inl w_707⟩
theorem fl_M_94 : vs_F "VeilSearchModel" 94 8 39 (.int) false := ⟨RM, TM, 40, tyM, rfl, inM, tyM_ok, nmM, by decide, rfl, rfl, rfl, Or.inl w_708⟩
theorem ml_L_81 : vs_L "VeilSearchLaw" 81 y_M_thrown := Or.inl w_791
theorem ml_L_80 : vs_L "VeilSearchLaw" 80 y_M_member := Or.inl w_795
theorem ml_M_98 : vs_L "VeilSearchModel" 98 y_M_in := Or.inl w_799
theorem ml_L_87 : vs_L "VeilSearchLaw" 87 y_M_level := Or.inl w_802
theorem ml_M_102 : vs_L "VeilSearchModel" 102 y_M_fail := Or.inl w_806
theorem ml_L_93 : vs_L "VeilSearchLaw" 93 y_M_weigh := Or.inl w_810
theorem ml_M_110 : vs_L "VeilSearchModel" 110 y_M_isWeight := Or.inl w_814
theorem ml_L_97 : vs_L "VeilSearchLaw" 97 y_M_put := Or.inl w_821
theorem ml_L_101 : vs_L "VeilSearchLaw" 101 y_M_rule := Or.inl w_825
theorem ml_L_105 : vs_L "VeilSearchLaw" 105 y_M_add := Or.inl w_829
theorem ml_L_109 : vs_L "VeilSearchLaw" 109 y_M_remove := Or.inl w_833
theorem ml_L_113 : vs_L "VeilSearchLaw" 113 y_M_flush := Or.inl w_837
theorem ml_M_122 : vs_L "VeilSearchModel" 122 y_M_sizeOf := Or.inl w_841
theorem ml_L_117 : vs_L "VeilSearchLaw" 117 y_M_merge := Or.inl w_845
theorem ml_L_121 : vs_L "VeilSearchLaw" 121 y_M_refresh := Or.inl w_849
theorem ml_M_134 : vs_L "VeilSearchModel" 134 y_M_isOther := Or.inl w_853
theorem ml_M_138 : vs_L "VeilSearchModel" 138 y_M_isShown := Or.inl w_857
theorem ml_M_142 : vs_L "VeilSearchModel" 142 y_M_drop := Or.inl w_861
theorem ml_L_125 : vs_L "VeilSearchLaw" 125 y_M_clause := Or.inl w_865
theorem ml_L_129 : vs_L "VeilSearchLaw" 129 y_M_clear := Or.inl w_869
theorem ml_L_132 : vs_L "VeilSearchLaw" 132 y_M_search := Or.inl w_873
theorem ml_M_189 : vs_L "VeilSearchModel" 189 y_M_arrange := Or.inl w_877
theorem ml_M_192 : vs_L "VeilSearchModel" 192 y_M_useFilter := Or.inl w_881
theorem ml_M_196 : vs_L "VeilSearchModel" 196 y_M_isLeft := Or.inl w_885
theorem ml_M_199 : vs_L "VeilSearchModel" 199 y_M_behindBlock := Or.inl w_889
theorem ml_M_181 : vs_L "VeilSearchModel" 181 y_M_scoreOf := Or.inl w_893
theorem ml_M_153 : vs_L "VeilSearchModel" 153 y_M_isOpen := Or.inl w_897
theorem ml_M_203 : vs_L "VeilSearchModel" 203 y_M_lookAt := Or.inl w_901
theorem ml_M_172 : vs_L "VeilSearchModel" 172 y_M_isFound := Or.inl w_905
theorem ml_M_175 : vs_L "VeilSearchModel" 175 y_M_mayRead := Or.inl w_909
theorem ml_M_149 : vs_L "VeilSearchModel" 149 y_M_tokens := Or.inl w_913
theorem ml_M_185 : vs_L "VeilSearchModel" 185 y_M_enter := Or.inl w_917
theorem ml_L_135 : vs_L "VeilSearchLaw" 135 y_M_hit := Or.inl w_921
theorem ml_L_139 : vs_L "VeilSearchLaw" 139 y_M_score := Or.inl w_925
theorem ml_L_142 : vs_L "VeilSearchLaw" 142 y_M_value := Or.inl w_929
theorem ml_L_145 : vs_L "VeilSearchLaw" 145 y_M_count := Or.inl w_933
theorem yk_X_init : vs_Y y_X_init c_X_init 1 (Option.none : Option Jvm.ClassFile.FieldType) 0 := ⟨w_25, w_1, by decide, by decide, by decide +kernel⟩
theorem im_X_init : Cond.instanceMethod y_X_init ∈ gT := w_24
theorem yk_D_init : vs_Y y_D_init c_D_init 1 (Option.none : Option Jvm.ClassFile.FieldType) 0 := ⟨w_33, w_2, by decide, by decide, by decide +kernel⟩
theorem im_D_init : Cond.instanceMethod y_D_init ∈ gT := w_32
theorem yk_F_init : vs_Y y_F_init c_F_init 1 (Option.none : Option Jvm.ClassFile.FieldType) 0 := ⟨w_62, w_3, by decide, by decide, by decide +kernel⟩
theorem im_F_init : Cond.instanceMethod y_F_init ∈ gT := w_61
theorem yk_Q_init : vs_Y y_Q_init c_Q_init 1 (Option.none : Option Jvm.ClassFile.FieldType) 0 := ⟨w_91, w_4, by decide, by decide, by decide +kernel⟩
theorem im_Q_init : Cond.instanceMethod y_Q_init ∈ gT := w_90
theorem yk_H_init : vs_Y y_H_init c_H_init 1 (Option.none : Option Jvm.ClassFile.FieldType) 0 := ⟨w_122, w_5, by decide, by decide, by decide +kernel⟩
theorem im_H_init : Cond.instanceMethod y_H_init ∈ gT := w_121
theorem yk_V_init : vs_Y y_V_init c_V_init 1 (Option.none : Option Jvm.ClassFile.FieldType) 0 := ⟨w_145, w_6, by decide, by decide, by decide +kernel⟩
theorem im_V_init : Cond.instanceMethod y_V_init ∈ gT := w_144
theorem yk_R_init : vs_Y y_R_init c_R_init 1 (Option.none : Option Jvm.ClassFile.FieldType) 0 := ⟨w_151, w_7, by decide, by decide, by decide +kernel⟩
theorem im_R_init : Cond.instanceMethod y_R_init ∈ gT := w_150
theorem yk_S_init : vs_Y y_S_init c_S_init 1 (Option.none : Option Jvm.ClassFile.FieldType) 0 := ⟨w_169, w_8, by decide, by decide, by decide +kernel⟩
theorem im_S_init : Cond.instanceMethod y_S_init ∈ gT := w_168
theorem yk_X_merge : vs_Y y_X_merge c_X_merge 5 (Option.some Jvm.ClassFile.FieldType.int) 0 := ⟨w_231, w_1, by decide, by decide, by decide +kernel⟩
theorem im_X_merge : Cond.instanceMethod y_X_merge ∈ gT := w_229
theorem se_X_merge : Cond.selects y_X_merge.cls y_X_merge y_X_merge ∈ gT := w_230
theorem yk_S_allIds : vs_Y y_S_allIds c_S_allIds 4 (Option.some Jvm.ClassFile.FieldType.long) 0 := ⟨w_235, w_8, by decide, by decide, by decide +kernel⟩
theorem im_S_allIds : Cond.instanceMethod y_S_allIds ∈ gT := w_233
theorem se_S_allIds : Cond.selects y_S_allIds.cls y_S_allIds y_S_allIds ∈ gT := w_234
theorem yk_X_appendSegment : vs_Y y_X_appendSegment c_X_appendSegment 3 (Option.none : Option Jvm.ClassFile.FieldType) 1 := ⟨w_240, w_1, by decide, by decide, by decide +kernel⟩
theorem im_X_appendSegment : Cond.instanceMethod y_X_appendSegment ∈ gT := w_239
theorem se_X_appendSegment : Cond.selects y_X_appendSegment.cls y_X_appendSegment y_X_appendSegment ∈ gT := ws_0
theorem yk_S_append : vs_Y y_S_append c_S_append 4 (Option.none : Option Jvm.ClassFile.FieldType) 2 := ⟨w_244, w_8, by decide, by decide, by decide +kernel⟩
theorem im_S_append : Cond.instanceMethod y_S_append ∈ gT := w_242
theorem se_S_append : Cond.selects y_S_append.cls y_S_append y_S_append ∈ gT := w_243
theorem yk_J_bitCount : vs_Y y_J_bitCount c_J_bitCount 2 (Option.some Jvm.ClassFile.FieldType.int) 1 := ⟨w_247, w_16, by decide, by decide, by decide +kernel⟩
theorem st_J_bitCount : Cond.static y_J_bitCount ∈ gT := w_246
theorem yk_X_refresh : vs_Y y_X_refresh c_X_refresh 2 (Option.some Jvm.ClassFile.FieldType.int) 0 := ⟨w_254, w_1, by decide, by decide, by decide +kernel⟩
theorem im_X_refresh : Cond.instanceMethod y_X_refresh ∈ gT := w_252
theorem se_X_refresh : Cond.selects y_X_refresh.cls y_X_refresh y_X_refresh ∈ gT := w_253
theorem yk_R_sameAs : vs_Y y_R_sameAs c_R_sameAs 2 (Option.some Jvm.ClassFile.FieldType.boolean) 1 := ⟨w_258, w_7, by decide, by decide, by decide +kernel⟩
theorem im_R_sameAs : Cond.instanceMethod y_R_sameAs ∈ gT := w_256
theorem se_R_sameAs : Cond.selects y_R_sameAs.cls y_R_sameAs y_R_sameAs ∈ gT := w_257
theorem yk_R_sameRow : vs_Y y_R_sameRow c_R_sameRow 3 (Option.some Jvm.ClassFile.FieldType.boolean) 2 := ⟨w_261, w_7, by decide, by decide, by decide +kernel⟩
theorem st_R_sameRow : Cond.static y_R_sameRow ∈ gT := w_260
theorem yk_V_takeOver : vs_Y y_V_takeOver c_V_takeOver 2 (Option.none : Option Jvm.ClassFile.FieldType) 1 := ⟨w_265, w_6, by decide, by decide, by decide +kernel⟩
theorem im_V_takeOver : Cond.instanceMethod y_V_takeOver ∈ gT := w_263
theorem se_V_takeOver : Cond.selects y_V_takeOver.cls y_V_takeOver y_V_takeOver ∈ gT := w_264
theorem yk_R_takeOver : vs_Y y_R_takeOver c_R_takeOver 2 (Option.none : Option Jvm.ClassFile.FieldType) 1 := ⟨w_269, w_7, by decide, by decide, by decide +kernel⟩
theorem im_R_takeOver : Cond.instanceMethod y_R_takeOver ∈ gT := w_267
theorem se_R_takeOver : Cond.selects y_R_takeOver.cls y_R_takeOver y_R_takeOver ∈ gT := w_268
theorem yk_S_takeOver : vs_Y y_S_takeOver c_S_takeOver 2 (Option.none : Option Jvm.ClassFile.FieldType) 1 := ⟨w_276, w_8, by decide, by decide, by decide +kernel⟩
theorem im_S_takeOver : Cond.instanceMethod y_S_takeOver ∈ gT := w_274
theorem se_S_takeOver : Cond.selects y_S_takeOver.cls y_S_takeOver y_S_takeOver ∈ gT := w_275
theorem yk_F_dropAllBut : vs_Y y_F_dropAllBut c_F_dropAllBut 3 (Option.none : Option Jvm.ClassFile.FieldType) 1 := ⟨w_281, w_3, by decide, by decide, by decide +kernel⟩
theorem im_F_dropAllBut : Cond.instanceMethod y_F_dropAllBut ∈ gT := w_279
theorem se_F_dropAllBut : Cond.selects y_F_dropAllBut.cls y_F_dropAllBut y_F_dropAllBut ∈ gT := w_280
theorem yk_S_hasNumber : vs_Y y_S_hasNumber c_S_hasNumber 3 (Option.some Jvm.ClassFile.FieldType.boolean) 1 := ⟨w_285, w_8, by decide, by decide, by decide +kernel⟩
theorem im_S_hasNumber : Cond.instanceMethod y_S_hasNumber ∈ gT := w_283
theorem se_S_hasNumber : Cond.selects y_S_hasNumber.cls y_S_hasNumber y_S_hasNumber ∈ gT := w_284
theorem yk_F_drop : vs_Y y_F_drop c_F_drop 3 (Option.none : Option Jvm.ClassFile.FieldType) 1 := ⟨w_289, w_3, by decide, by decide, by decide +kernel⟩
theorem im_F_drop : Cond.instanceMethod y_F_drop ∈ gT := w_288
theorem se_F_drop : Cond.selects y_F_drop.cls y_F_drop y_F_drop ∈ gT := ws_1
theorem yk_V_livingIds : vs_Y y_V_livingIds c_V_livingIds 1 (Option.some Jvm.ClassFile.FieldType.long) 0 := ⟨w_293, w_6, by decide, by decide, by decide +kernel⟩
theorem im_V_livingIds : Cond.instanceMethod y_V_livingIds ∈ gT := w_291
theorem se_V_livingIds : Cond.selects y_V_livingIds.cls y_V_livingIds y_V_livingIds ∈ gT := w_292
theorem yk_X_clear : vs_Y y_X_clear c_X_clear 2 (Option.some Jvm.ClassFile.FieldType.int) 0 := ⟨w_299, w_1, by decide, by decide, by decide +kernel⟩
theorem im_X_clear : Cond.instanceMethod y_X_clear ∈ gT := w_297
theorem se_X_clear : Cond.selects y_X_clear.cls y_X_clear y_X_clear ∈ gT := w_298
theorem st_L_member : Cond.static y_L_member ∈ gT := w_301
theorem yk_X_member : vs_Y y_X_member c_X_member 4 (Option.some Jvm.ClassFile.FieldType.boolean) 3 := ⟨w_307, w_1, by decide, by decide, by decide +kernel⟩
theorem im_X_member : Cond.instanceMethod y_X_member ∈ gT := w_305
theorem se_X_member : Cond.selects y_X_member.cls y_X_member y_X_member ∈ gT := w_306
theorem yk_X_isBelow : vs_Y y_X_isBelow c_X_isBelow 2 (Option.some Jvm.ClassFile.FieldType.boolean) 2 := ⟨w_310, w_1, by decide, by decide, by decide +kernel⟩
theorem st_X_isBelow : Cond.static y_X_isBelow ∈ gT := w_309
theorem yk_R_join : vs_Y y_R_join c_R_join 5 (Option.some Jvm.ClassFile.FieldType.boolean) 3 := ⟨w_379, w_7, by decide, by decide, by decide +kernel⟩
theorem im_R_join : Cond.instanceMethod y_R_join ∈ gT := w_377
theorem se_R_join : Cond.selects y_R_join.cls y_R_join y_R_join ∈ gT := w_378
theorem st_L_level : Cond.static y_L_level ∈ gT := w_381
theorem yk_X_level : vs_Y y_X_level c_X_level 6 (Option.some Jvm.ClassFile.FieldType.int) 3 := ⟨w_386, w_1, by decide, by decide, by decide +kernel⟩
theorem im_X_level : Cond.instanceMethod y_X_level ∈ gT := w_384
theorem se_X_level : Cond.selects y_X_level.cls y_X_level y_X_level ∈ gT := w_385
theorem st_L_weigh : Cond.static y_L_weigh ∈ gT := w_388
theorem yk_X_weigh : vs_Y y_X_weigh c_X_weigh 6 (Option.some Jvm.ClassFile.FieldType.int) 3 := ⟨w_393, w_1, by decide, by decide, by decide +kernel⟩
theorem im_X_weigh : Cond.instanceMethod y_X_weigh ∈ gT := w_391
theorem se_X_weigh : Cond.selects y_X_weigh.cls y_X_weigh y_X_weigh ∈ gT := w_392
theorem yk_X_isWeight : vs_Y y_X_isWeight c_X_isWeight 2 (Option.some Jvm.ClassFile.FieldType.boolean) 1 := ⟨w_396, w_1, by decide, by decide, by decide +kernel⟩
theorem st_X_isWeight : Cond.static y_X_isWeight ∈ gT := w_395
theorem yk_X_codeOf : vs_Y y_X_codeOf c_X_codeOf 3 (Option.some Jvm.ClassFile.FieldType.int) 1 := ⟨w_401, w_1, by decide, by decide, by decide +kernel⟩
theorem st_X_codeOf : Cond.static y_X_codeOf ∈ gT := w_400
theorem yk_D_codePlace : vs_Y y_D_codePlace c_D_codePlace 3 (Option.some Jvm.ClassFile.FieldType.int) 3 := ⟨w_406, w_2, by decide, by decide, by decide +kernel⟩
theorem st_D_codePlace : Cond.static y_D_codePlace ∈ gT := w_405
theorem yk_D_valuePlace : vs_Y y_D_valuePlace c_D_valuePlace 2 (Option.some Jvm.ClassFile.FieldType.int) 2 := ⟨w_409, w_2, by decide, by decide, by decide +kernel⟩
theorem st_D_valuePlace : Cond.static y_D_valuePlace ∈ gT := w_408
theorem st_L_put : Cond.static y_L_put ∈ gT := w_411
theorem yk_X_put : vs_Y y_X_put c_X_put 5 (Option.some Jvm.ClassFile.FieldType.int) 2 := ⟨w_416, w_1, by decide, by decide, by decide +kernel⟩
theorem im_X_put : Cond.instanceMethod y_X_put ∈ gT := w_414
theorem se_X_put : Cond.selects y_X_put.cls y_X_put y_X_put ∈ gT := w_415
theorem st_L_rule : Cond.static y_L_rule ∈ gT := w_419
theorem yk_X_rule : vs_Y y_X_rule c_X_rule 5 (Option.some Jvm.ClassFile.FieldType.boolean) 2 := ⟨w_424, w_1, by decide, by decide, by decide +kernel⟩
theorem im_X_rule : Cond.instanceMethod y_X_rule ∈ gT := w_422
theorem se_X_rule : Cond.selects y_X_rule.cls y_X_rule y_X_rule ∈ gT := w_423
theorem st_L_add : Cond.static y_L_add ∈ gT := w_426
theorem yk_X_add : vs_Y y_X_add c_X_add 3 (Option.some Jvm.ClassFile.FieldType.int) 1 := ⟨w_432, w_1, by decide, by decide, by decide +kernel⟩
theorem im_X_add : Cond.instanceMethod y_X_add ∈ gT := w_430
theorem se_X_add : Cond.selects y_X_add.cls y_X_add y_X_add ∈ gT := w_431
theorem yk_D_finishDraft : vs_Y y_D_finishDraft c_D_finishDraft 3 (Option.some Jvm.ClassFile.FieldType.int) 1 := ⟨w_451, w_2, by decide, by decide, by decide +kernel⟩
theorem im_D_finishDraft : Cond.instanceMethod y_D_finishDraft ∈ gT := w_449
theorem se_D_finishDraft : Cond.selects y_D_finishDraft.cls y_D_finishDraft y_D_finishDraft ∈ gT := w_450
theorem st_L_remove : Cond.static y_L_remove ∈ gT := w_453
theorem yk_X_remove : vs_Y y_X_remove c_X_remove 2 (Option.none : Option Jvm.ClassFile.FieldType) 1 := ⟨w_459, w_1, by decide, by decide, by decide +kernel⟩
theorem im_X_remove : Cond.instanceMethod y_X_remove ∈ gT := w_457
theorem se_X_remove : Cond.selects y_X_remove.cls y_X_remove y_X_remove ∈ gT := w_458
theorem yk_X_holds : vs_Y y_X_holds c_X_holds 3 (Option.some Jvm.ClassFile.FieldType.boolean) 2 := ⟨w_462, w_1, by decide, by decide, by decide +kernel⟩
theorem st_X_holds : Cond.static y_X_holds ∈ gT := w_461
theorem st_L_flush : Cond.static y_L_flush ∈ gT := w_479
theorem yk_X_flush : vs_Y y_X_flush c_X_flush 2 (Option.some Jvm.ClassFile.FieldType.int) 0 := ⟨w_484, w_1, by decide, by decide, by decide +kernel⟩
theorem im_X_flush : Cond.instanceMethod y_X_flush ∈ gT := w_482
theorem se_X_flush : Cond.selects y_X_flush.cls y_X_flush y_X_flush ∈ gT := w_483
theorem st_L_clause : Cond.static y_L_clause ∈ gT := w_486
theorem yk_X_clause : vs_Y y_X_clause c_X_clause 6 (Option.some Jvm.ClassFile.FieldType.int) 4 := ⟨w_491, w_1, by decide, by decide, by decide +kernel⟩
theorem im_X_clause : Cond.instanceMethod y_X_clause ∈ gT := w_489
theorem se_X_clause : Cond.selects y_X_clause.cls y_X_clause y_X_clause ∈ gT := w_490
theorem yk_Q_insert : vs_Y y_Q_insert c_Q_insert 6 (Option.none : Option Jvm.ClassFile.FieldType) 4 := ⟨w_495, w_4, by decide, by decide, by decide +kernel⟩
theorem im_Q_insert : Cond.instanceMethod y_Q_insert ∈ gT := w_493
theorem se_Q_insert : Cond.selects y_Q_insert.cls y_Q_insert y_Q_insert ∈ gT := w_494
theorem yk_Q_comesLater : vs_Y y_Q_comesLater c_Q_comesLater 4 (Option.some Jvm.ClassFile.FieldType.boolean) 3 := ⟨w_499, w_4, by decide, by decide, by decide +kernel⟩
theorem im_Q_comesLater : Cond.instanceMethod y_Q_comesLater ∈ gT := w_498
theorem se_Q_comesLater : Cond.selects y_Q_comesLater.cls y_Q_comesLater y_Q_comesLater ∈ gT := ws_3
theorem yk_Q_move : vs_Y y_Q_move c_Q_move 3 (Option.none : Option Jvm.ClassFile.FieldType) 2 := ⟨w_503, w_4, by decide, by decide, by decide +kernel⟩
theorem im_Q_move : Cond.instanceMethod y_Q_move ∈ gT := w_502
theorem se_Q_move : Cond.selects y_Q_move.cls y_Q_move y_Q_move ∈ gT := ws_4
theorem st_L_search : Cond.static y_L_search ∈ gT := w_505
theorem yk_X_search : vs_Y y_X_search c_X_search 8 (Option.some Jvm.ClassFile.FieldType.int) 2 := ⟨w_510, w_1, by decide, by decide, by decide +kernel⟩
theorem im_X_search : Cond.instanceMethod y_X_search ∈ gT := w_508
theorem se_X_search : Cond.selects y_X_search.cls y_X_search y_X_search ∈ gT := w_509
theorem yk_H_restart : vs_Y y_H_restart c_H_restart 2 (Option.none : Option Jvm.ClassFile.FieldType) 1 := ⟨w_514, w_5, by decide, by decide, by decide +kernel⟩
theorem im_H_restart : Cond.instanceMethod y_H_restart ∈ gT := w_512
theorem se_H_restart : Cond.selects y_H_restart.cls y_H_restart y_H_restart ∈ gT := w_513
theorem yk_Q_openFor : vs_Y y_Q_openFor c_Q_openFor 4 (Option.none : Option Jvm.ClassFile.FieldType) 2 := ⟨w_518, w_4, by decide, by decide, by decide +kernel⟩
theorem im_Q_openFor : Cond.instanceMethod y_Q_openFor ∈ gT := w_516
theorem se_Q_openFor : Cond.selects y_Q_openFor.cls y_Q_openFor y_Q_openFor ∈ gT := w_517
theorem yk_R_isOpen : vs_Y y_R_isOpen c_R_isOpen 3 (Option.some Jvm.ClassFile.FieldType.boolean) 2 := ⟨w_522, w_7, by decide, by decide, by decide +kernel⟩
theorem im_R_isOpen : Cond.instanceMethod y_R_isOpen ∈ gT := w_520
theorem se_R_isOpen : Cond.selects y_R_isOpen.cls y_R_isOpen y_R_isOpen ∈ gT := w_521
theorem yk_X_filterOf : vs_Y y_X_filterOf c_X_filterOf 8 (Option.some Jvm.ClassFile.FieldType.long) 3 := ⟨w_526, w_1, by decide, by decide, by decide +kernel⟩
theorem im_X_filterOf : Cond.instanceMethod y_X_filterOf ∈ gT := w_525
theorem se_X_filterOf : Cond.selects y_X_filterOf.cls y_X_filterOf y_X_filterOf ∈ gT := ws_5
theorem yk_F_placeOf : vs_Y y_F_placeOf c_F_placeOf 4 (Option.some Jvm.ClassFile.FieldType.int) 2 := ⟨w_530, w_3, by decide, by decide, by decide +kernel⟩
theorem im_F_placeOf : Cond.instanceMethod y_F_placeOf ∈ gT := w_528
theorem se_F_placeOf : Cond.selects y_F_placeOf.cls y_F_placeOf y_F_placeOf ∈ gT := w_529
theorem yk_F_reuse : vs_Y y_F_reuse c_F_reuse 6 (Option.some Jvm.ClassFile.FieldType.long) 1 := ⟨w_534, w_3, by decide, by decide, by decide +kernel⟩
theorem im_F_reuse : Cond.instanceMethod y_F_reuse ∈ gT := w_532
theorem se_F_reuse : Cond.selects y_F_reuse.cls y_F_reuse y_F_reuse ∈ gT := w_533
theorem yk_F_append : vs_Y y_F_append c_F_append 5 (Option.none : Option Jvm.ClassFile.FieldType) 3 := ⟨w_538, w_3, by decide, by decide, by decide +kernel⟩
theorem im_F_append : Cond.instanceMethod y_F_append ∈ gT := w_537
theorem se_F_append : Cond.selects y_F_append.cls y_F_append y_F_append ∈ gT := ws_6
theorem yk_R_tokensOf : vs_Y y_R_tokensOf c_R_tokensOf 5 (Option.some Jvm.ClassFile.FieldType.int) 1 := ⟨w_542, w_7, by decide, by decide, by decide +kernel⟩
theorem im_R_tokensOf : Cond.instanceMethod y_R_tokensOf ∈ gT := w_540
theorem se_R_tokensOf : Cond.selects y_R_tokensOf.cls y_R_tokensOf y_R_tokensOf ∈ gT := w_541
theorem yk_D_readableOf : vs_Y y_D_readableOf c_D_readableOf 7 (Option.some Jvm.ClassFile.FieldType.long) 2 := ⟨w_546, w_2, by decide, by decide, by decide +kernel⟩
theorem im_D_readableOf : Cond.instanceMethod y_D_readableOf ∈ gT := w_544
theorem se_D_readableOf : Cond.selects y_D_readableOf.cls y_D_readableOf y_D_readableOf ∈ gT := w_545
theorem yk_D_mayRead : vs_Y y_D_mayRead c_D_mayRead 3 (Option.some Jvm.ClassFile.FieldType.boolean) 2 := ⟨w_551, w_2, by decide, by decide, by decide +kernel⟩
theorem im_D_mayRead : Cond.instanceMethod y_D_mayRead ∈ gT := w_549
theorem se_D_mayRead : Cond.selects y_D_mayRead.cls y_D_mayRead y_D_mayRead ∈ gT := w_550
theorem yk_F_keepNew : vs_Y y_F_keepNew c_F_keepNew 5 (Option.none : Option Jvm.ClassFile.FieldType) 3 := ⟨w_555, w_3, by decide, by decide, by decide +kernel⟩
theorem im_F_keepNew : Cond.instanceMethod y_F_keepNew ∈ gT := w_553
theorem se_F_keepNew : Cond.selects y_F_keepNew.cls y_F_keepNew y_F_keepNew ∈ gT := w_554
theorem yk_X_passThrough : vs_Y y_X_passThrough c_X_passThrough 10 (Option.none : Option Jvm.ClassFile.FieldType) 2 := ⟨w_559, w_1, by decide, by decide, by decide +kernel⟩
theorem im_X_passThrough : Cond.instanceMethod y_X_passThrough ∈ gT := w_558
theorem se_X_passThrough : Cond.selects y_X_passThrough.cls y_X_passThrough y_X_passThrough ∈ gT := ws_7
theorem yk_X_firstBlock : vs_Y y_X_firstBlock c_X_firstBlock 5 (Option.some Jvm.ClassFile.FieldType.long) 1 := ⟨w_562, w_1, by decide, by decide, by decide +kernel⟩
theorem st_X_firstBlock : Cond.static y_X_firstBlock ∈ gT := w_561
theorem yk_Q_scoreOf : vs_Y y_Q_scoreOf c_Q_scoreOf 7 (Option.some Jvm.ClassFile.FieldType.float) 2 := ⟨w_566, w_4, by decide, by decide, by decide +kernel⟩
theorem im_Q_scoreOf : Cond.instanceMethod y_Q_scoreOf ∈ gT := w_564
theorem se_Q_scoreOf : Cond.selects y_Q_scoreOf.cls y_Q_scoreOf y_Q_scoreOf ∈ gT := w_565
theorem yk_D_greatestCode : vs_Y y_D_greatestCode c_D_greatestCode 9 (Option.some Jvm.ClassFile.FieldType.int) 3 := ⟨w_570, w_2, by decide, by decide, by decide +kernel⟩
theorem im_D_greatestCode : Cond.instanceMethod y_D_greatestCode ∈ gT := w_568
theorem se_D_greatestCode : Cond.selects y_D_greatestCode.cls y_D_greatestCode y_D_greatestCode ∈ gT := w_569
theorem yk_X_lowestId : vs_Y y_X_lowestId c_X_lowestId 2 (Option.some Jvm.ClassFile.FieldType.int) 1 := ⟨w_573, w_1, by decide, by decide, by decide +kernel⟩
theorem st_X_lowestId : Cond.static y_X_lowestId ∈ gT := w_572
theorem yk_H_lastScore : vs_Y y_H_lastScore c_H_lastScore 1 (Option.some Jvm.ClassFile.FieldType.float) 0 := ⟨w_582, w_5, by decide, by decide, by decide +kernel⟩
theorem im_H_lastScore : Cond.instanceMethod y_H_lastScore ∈ gT := w_580
theorem se_H_lastScore : Cond.selects y_H_lastScore.cls y_H_lastScore y_H_lastScore ∈ gT := w_581
theorem yk_X_lookAt : vs_Y y_X_lookAt c_X_lookAt 7 (Option.none : Option Jvm.ClassFile.FieldType) 1 := ⟨w_586, w_1, by decide, by decide, by decide +kernel⟩
theorem im_X_lookAt : Cond.instanceMethod y_X_lookAt ∈ gT := w_585
theorem se_X_lookAt : Cond.selects y_X_lookAt.cls y_X_lookAt y_X_lookAt ∈ gT := ws_8
theorem yk_Q_finds : vs_Y y_Q_finds c_Q_finds 6 (Option.some Jvm.ClassFile.FieldType.boolean) 2 := ⟨w_591, w_4, by decide, by decide, by decide +kernel⟩
theorem im_Q_finds : Cond.instanceMethod y_Q_finds ∈ gT := w_589
theorem se_Q_finds : Cond.selects y_Q_finds.cls y_Q_finds y_Q_finds ∈ gT := w_590
theorem yk_H_take : vs_Y y_H_take c_H_take 4 (Option.none : Option Jvm.ClassFile.FieldType) 2 := ⟨w_596, w_5, by decide, by decide, by decide +kernel⟩
theorem im_H_take : Cond.instanceMethod y_H_take ∈ gT := w_594
theorem se_H_take : Cond.selects y_H_take.cls y_H_take y_H_take ∈ gT := w_595
theorem st_L_hit : Cond.static y_L_hit ∈ gT := w_602
theorem yk_X_hit : vs_Y y_X_hit c_X_hit 2 (Option.some Jvm.ClassFile.FieldType.int) 1 := ⟨w_608, w_1, by decide, by decide, by decide +kernel⟩
theorem im_X_hit : Cond.instanceMethod y_X_hit ∈ gT := w_606
theorem se_X_hit : Cond.selects y_X_hit.cls y_X_hit y_X_hit ∈ gT := w_607
theorem st_L_score : Cond.static y_L_score ∈ gT := w_625
theorem yk_X_score : vs_Y y_X_score c_X_score 2 (Option.some Jvm.ClassFile.FieldType.double) 1 := ⟨w_630, w_1, by decide, by decide, by decide +kernel⟩
theorem im_X_score : Cond.instanceMethod y_X_score ∈ gT := w_628
theorem se_X_score : Cond.selects y_X_score.cls y_X_score y_X_score ∈ gT := w_629
theorem st_L_value : Cond.static y_L_value ∈ gT := w_632
theorem yk_X_value : vs_Y y_X_value c_X_value 4 (Option.some Jvm.ClassFile.FieldType.int) 3 := ⟨w_638, w_1, by decide, by decide, by decide +kernel⟩
theorem im_X_value : Cond.instanceMethod y_X_value ∈ gT := w_636
theorem se_X_value : Cond.selects y_X_value.cls y_X_value y_X_value ∈ gT := w_637
theorem st_L_count : Cond.static y_L_count ∈ gT := w_657
theorem yk_X_count : vs_Y y_X_count c_X_count 2 (Option.some Jvm.ClassFile.FieldType.int) 1 := ⟨w_662, w_1, by decide, by decide, by decide +kernel⟩
theorem im_X_count : Cond.instanceMethod y_X_count ∈ gT := w_660
theorem se_X_count : Cond.selects y_X_count.cls y_X_count y_X_count ∈ gT := w_661
theorem yk_M_init : vs_Y y_M_init c_M_init 1 (Option.none : Option Jvm.ClassFile.FieldType) 0 := ⟨w_667, w_9, by decide, by decide, by decide +kernel⟩
theorem im_M_init : Cond.instanceMethod y_M_init ∈ gT := w_666
theorem yk_M_thrown : vs_Y y_M_thrown c_M_thrown 1 (Option.some Jvm.ClassFile.FieldType.int) 0 := ⟨w_794, w_9, by decide, by decide, by decide +kernel⟩
theorem im_M_thrown : Cond.instanceMethod y_M_thrown ∈ gT := w_792
theorem se_M_thrown : Cond.selects y_M_thrown.cls y_M_thrown y_M_thrown ∈ gT := w_793
theorem yk_M_member : vs_Y y_M_member c_M_member 6 (Option.some Jvm.ClassFile.FieldType.boolean) 3 := ⟨w_798, w_9, by decide, by decide, by decide +kernel⟩
theorem im_M_member : Cond.instanceMethod y_M_member ∈ gT := w_796
theorem se_M_member : Cond.selects y_M_member.cls y_M_member y_M_member ∈ gT := w_797
theorem yk_M_in : vs_Y y_M_in c_M_in 3 (Option.some Jvm.ClassFile.FieldType.boolean) 3 := ⟨w_801, w_9, by decide, by decide, by decide +kernel⟩
theorem st_M_in : Cond.static y_M_in ∈ gT := w_800
theorem yk_M_level : vs_Y y_M_level c_M_level 5 (Option.some Jvm.ClassFile.FieldType.int) 3 := ⟨w_805, w_9, by decide, by decide, by decide +kernel⟩
theorem im_M_level : Cond.instanceMethod y_M_level ∈ gT := w_803
theorem se_M_level : Cond.selects y_M_level.cls y_M_level y_M_level ∈ gT := w_804
theorem yk_M_fail : vs_Y y_M_fail c_M_fail 2 (Option.some Jvm.ClassFile.FieldType.int) 1 := ⟨w_809, w_9, by decide, by decide, by decide +kernel⟩
theorem im_M_fail : Cond.instanceMethod y_M_fail ∈ gT := w_808
theorem se_M_fail : Cond.selects y_M_fail.cls y_M_fail y_M_fail ∈ gT := ws_9
theorem yk_M_weigh : vs_Y y_M_weigh c_M_weigh 6 (Option.some Jvm.ClassFile.FieldType.int) 3 := ⟨w_813, w_9, by decide, by decide, by decide +kernel⟩
theorem im_M_weigh : Cond.instanceMethod y_M_weigh ∈ gT := w_811
theorem se_M_weigh : Cond.selects y_M_weigh.cls y_M_weigh y_M_weigh ∈ gT := w_812
theorem yk_M_isWeight : vs_Y y_M_isWeight c_M_isWeight 2 (Option.some Jvm.ClassFile.FieldType.boolean) 1 := ⟨w_816, w_9, by decide, by decide, by decide +kernel⟩
theorem st_M_isWeight : Cond.static y_M_isWeight ∈ gT := w_815
theorem yk_M_put : vs_Y y_M_put c_M_put 4 (Option.some Jvm.ClassFile.FieldType.int) 2 := ⟨w_824, w_9, by decide, by decide, by decide +kernel⟩
theorem im_M_put : Cond.instanceMethod y_M_put ∈ gT := w_822
theorem se_M_put : Cond.selects y_M_put.cls y_M_put y_M_put ∈ gT := w_823
theorem yk_M_rule : vs_Y y_M_rule c_M_rule 5 (Option.some Jvm.ClassFile.FieldType.boolean) 2 := ⟨w_828, w_9, by decide, by decide, by decide +kernel⟩
theorem im_M_rule : Cond.instanceMethod y_M_rule ∈ gT := w_826
theorem se_M_rule : Cond.selects y_M_rule.cls y_M_rule y_M_rule ∈ gT := w_827
theorem yk_M_add : vs_Y y_M_add c_M_add 4 (Option.some Jvm.ClassFile.FieldType.int) 1 := ⟨w_832, w_9, by decide, by decide, by decide +kernel⟩
theorem im_M_add : Cond.instanceMethod y_M_add ∈ gT := w_830
theorem se_M_add : Cond.selects y_M_add.cls y_M_add y_M_add ∈ gT := w_831
theorem yk_M_remove : vs_Y y_M_remove c_M_remove 2 (Option.none : Option Jvm.ClassFile.FieldType) 1 := ⟨w_836, w_9, by decide, by decide, by decide +kernel⟩
theorem im_M_remove : Cond.instanceMethod y_M_remove ∈ gT := w_834
theorem se_M_remove : Cond.selects y_M_remove.cls y_M_remove y_M_remove ∈ gT := w_835
theorem yk_M_flush : vs_Y y_M_flush c_M_flush 3 (Option.some Jvm.ClassFile.FieldType.int) 0 := ⟨w_840, w_9, by decide, by decide, by decide +kernel⟩
theorem im_M_flush : Cond.instanceMethod y_M_flush ∈ gT := w_838
theorem se_M_flush : Cond.selects y_M_flush.cls y_M_flush y_M_flush ∈ gT := w_839
theorem yk_M_sizeOf : vs_Y y_M_sizeOf c_M_sizeOf 4 (Option.some Jvm.ClassFile.FieldType.int) 1 := ⟨w_844, w_9, by decide, by decide, by decide +kernel⟩
theorem im_M_sizeOf : Cond.instanceMethod y_M_sizeOf ∈ gT := w_843
theorem se_M_sizeOf : Cond.selects y_M_sizeOf.cls y_M_sizeOf y_M_sizeOf ∈ gT := ws_10
theorem yk_M_merge : vs_Y y_M_merge c_M_merge 4 (Option.some Jvm.ClassFile.FieldType.int) 0 := ⟨w_848, w_9, by decide, by decide, by decide +kernel⟩
theorem im_M_merge : Cond.instanceMethod y_M_merge ∈ gT := w_846
theorem se_M_merge : Cond.selects y_M_merge.cls y_M_merge y_M_merge ∈ gT := w_847
theorem yk_M_refresh : vs_Y y_M_refresh c_M_refresh 5 (Option.some Jvm.ClassFile.FieldType.int) 0 := ⟨w_852, w_9, by decide, by decide, by decide +kernel⟩
theorem im_M_refresh : Cond.instanceMethod y_M_refresh ∈ gT := w_850
theorem se_M_refresh : Cond.selects y_M_refresh.cls y_M_refresh y_M_refresh ∈ gT := w_851
theorem yk_M_isOther : vs_Y y_M_isOther c_M_isOther 2 (Option.some Jvm.ClassFile.FieldType.boolean) 0 := ⟨w_856, w_9, by decide, by decide, by decide +kernel⟩
theorem im_M_isOther : Cond.instanceMethod y_M_isOther ∈ gT := w_855
theorem se_M_isOther : Cond.selects y_M_isOther.cls y_M_isOther y_M_isOther ∈ gT := ws_11
theorem yk_M_isShown : vs_Y y_M_isShown c_M_isShown 3 (Option.some Jvm.ClassFile.FieldType.boolean) 1 := ⟨w_860, w_9, by decide, by decide, by decide +kernel⟩
theorem im_M_isShown : Cond.instanceMethod y_M_isShown ∈ gT := w_859
theorem se_M_isShown : Cond.selects y_M_isShown.cls y_M_isShown y_M_isShown ∈ gT := ws_12
theorem yk_M_drop : vs_Y y_M_drop c_M_drop 3 (Option.none : Option Jvm.ClassFile.FieldType) 1 := ⟨w_864, w_9, by decide, by decide, by decide +kernel⟩
theorem im_M_drop : Cond.instanceMethod y_M_drop ∈ gT := w_863
theorem se_M_drop : Cond.selects y_M_drop.cls y_M_drop y_M_drop ∈ gT := ws_13
theorem yk_M_clause : vs_Y y_M_clause c_M_clause 6 (Option.some Jvm.ClassFile.FieldType.int) 4 := ⟨w_868, w_9, by decide, by decide, by decide +kernel⟩
theorem im_M_clause : Cond.instanceMethod y_M_clause ∈ gT := w_866
theorem se_M_clause : Cond.selects y_M_clause.cls y_M_clause y_M_clause ∈ gT := w_867
theorem yk_M_clear : vs_Y y_M_clear c_M_clear 2 (Option.some Jvm.ClassFile.FieldType.int) 0 := ⟨w_872, w_9, by decide, by decide, by decide +kernel⟩
theorem im_M_clear : Cond.instanceMethod y_M_clear ∈ gT := w_870
theorem se_M_clear : Cond.selects y_M_clear.cls y_M_clear y_M_clear ∈ gT := w_871
theorem yk_M_search : vs_Y y_M_search c_M_search 9 (Option.some Jvm.ClassFile.FieldType.int) 2 := ⟨w_876, w_9, by decide, by decide, by decide +kernel⟩
theorem im_M_search : Cond.instanceMethod y_M_search ∈ gT := w_874
theorem se_M_search : Cond.selects y_M_search.cls y_M_search y_M_search ∈ gT := w_875
theorem yk_M_arrange : vs_Y y_M_arrange c_M_arrange 3 (Option.none : Option Jvm.ClassFile.FieldType) 0 := ⟨w_880, w_9, by decide, by decide, by decide +kernel⟩
theorem im_M_arrange : Cond.instanceMethod y_M_arrange ∈ gT := w_879
theorem se_M_arrange : Cond.selects y_M_arrange.cls y_M_arrange y_M_arrange ∈ gT := ws_14
theorem yk_M_useFilter : vs_Y y_M_useFilter c_M_useFilter 5 (Option.none : Option Jvm.ClassFile.FieldType) 2 := ⟨w_884, w_9, by decide, by decide, by decide +kernel⟩
theorem im_M_useFilter : Cond.instanceMethod y_M_useFilter ∈ gT := w_883
theorem se_M_useFilter : Cond.selects y_M_useFilter.cls y_M_useFilter y_M_useFilter ∈ gT := ws_15
theorem yk_M_isLeft : vs_Y y_M_isLeft c_M_isLeft 4 (Option.some Jvm.ClassFile.FieldType.boolean) 2 := ⟨w_888, w_9, by decide, by decide, by decide +kernel⟩
theorem im_M_isLeft : Cond.instanceMethod y_M_isLeft ∈ gT := w_887
theorem se_M_isLeft : Cond.selects y_M_isLeft.cls y_M_isLeft y_M_isLeft ∈ gT := ws_16
theorem yk_M_behindBlock : vs_Y y_M_behindBlock c_M_behindBlock 5 (Option.some Jvm.ClassFile.FieldType.int) 2 := ⟨w_892, w_9, by decide, by decide, by decide +kernel⟩
theorem im_M_behindBlock : Cond.instanceMethod y_M_behindBlock ∈ gT := w_891
theorem se_M_behindBlock : Cond.selects y_M_behindBlock.cls y_M_behindBlock y_M_behindBlock ∈ gT := ws_17
theorem yk_M_scoreOf : vs_Y y_M_scoreOf c_M_scoreOf 12 (Option.some Jvm.ClassFile.FieldType.float) 4 := ⟨w_896, w_9, by decide, by decide, by decide +kernel⟩
theorem im_M_scoreOf : Cond.instanceMethod y_M_scoreOf ∈ gT := w_895
theorem se_M_scoreOf : Cond.selects y_M_scoreOf.cls y_M_scoreOf y_M_scoreOf ∈ gT := ws_18
theorem yk_M_isOpen : vs_Y y_M_isOpen c_M_isOpen 3 (Option.some Jvm.ClassFile.FieldType.boolean) 2 := ⟨w_900, w_9, by decide, by decide, by decide +kernel⟩
theorem im_M_isOpen : Cond.instanceMethod y_M_isOpen ∈ gT := w_899
theorem se_M_isOpen : Cond.selects y_M_isOpen.cls y_M_isOpen y_M_isOpen ∈ gT := ws_19
theorem yk_M_lookAt : vs_Y y_M_lookAt c_M_lookAt 8 (Option.none : Option Jvm.ClassFile.FieldType) 5 := ⟨w_904, w_9, by decide, by decide, by decide +kernel⟩
theorem im_M_lookAt : Cond.instanceMethod y_M_lookAt ∈ gT := w_903
theorem se_M_lookAt : Cond.selects y_M_lookAt.cls y_M_lookAt y_M_lookAt ∈ gT := ws_20
theorem yk_M_isFound : vs_Y y_M_isFound c_M_isFound 7 (Option.some Jvm.ClassFile.FieldType.boolean) 2 := ⟨w_908, w_9, by decide, by decide, by decide +kernel⟩
theorem im_M_isFound : Cond.instanceMethod y_M_isFound ∈ gT := w_907
theorem se_M_isFound : Cond.selects y_M_isFound.cls y_M_isFound y_M_isFound ∈ gT := ws_21
theorem yk_M_mayRead : vs_Y y_M_mayRead c_M_mayRead 7 (Option.some Jvm.ClassFile.FieldType.boolean) 2 := ⟨w_912, w_9, by decide, by decide, by decide +kernel⟩
theorem im_M_mayRead : Cond.instanceMethod y_M_mayRead ∈ gT := w_911
theorem se_M_mayRead : Cond.selects y_M_mayRead.cls y_M_mayRead y_M_mayRead ∈ gT := ws_22
theorem yk_M_tokens : vs_Y y_M_tokens c_M_tokens 6 (Option.some Jvm.ClassFile.FieldType.int) 2 := ⟨w_916, w_9, by decide, by decide, by decide +kernel⟩
theorem im_M_tokens : Cond.instanceMethod y_M_tokens ∈ gT := w_915
theorem se_M_tokens : Cond.selects y_M_tokens.cls y_M_tokens y_M_tokens ∈ gT := ws_23
theorem yk_M_enter : vs_Y y_M_enter c_M_enter 5 (Option.none : Option Jvm.ClassFile.FieldType) 3 := ⟨w_920, w_9, by decide, by decide, by decide +kernel⟩
theorem im_M_enter : Cond.instanceMethod y_M_enter ∈ gT := w_919
theorem se_M_enter : Cond.selects y_M_enter.cls y_M_enter y_M_enter ∈ gT := ws_24
theorem yk_M_hit : vs_Y y_M_hit c_M_hit 2 (Option.some Jvm.ClassFile.FieldType.int) 1 := ⟨w_924, w_9, by decide, by decide, by decide +kernel⟩
theorem im_M_hit : Cond.instanceMethod y_M_hit ∈ gT := w_922
theorem se_M_hit : Cond.selects y_M_hit.cls y_M_hit y_M_hit ∈ gT := w_923
theorem yk_M_score : vs_Y y_M_score c_M_score 2 (Option.some Jvm.ClassFile.FieldType.double) 1 := ⟨w_928, w_9, by decide, by decide, by decide +kernel⟩
theorem im_M_score : Cond.instanceMethod y_M_score ∈ gT := w_926
theorem se_M_score : Cond.selects y_M_score.cls y_M_score y_M_score ∈ gT := w_927
theorem yk_M_value : vs_Y y_M_value c_M_value 6 (Option.some Jvm.ClassFile.FieldType.int) 3 := ⟨w_932, w_9, by decide, by decide, by decide +kernel⟩
theorem im_M_value : Cond.instanceMethod y_M_value ∈ gT := w_930
theorem se_M_value : Cond.selects y_M_value.cls y_M_value y_M_value ∈ gT := w_931
theorem yk_M_count : vs_Y y_M_count c_M_count 2 (Option.some Jvm.ClassFile.FieldType.int) 1 := ⟨w_936, w_9, by decide, by decide, by decide +kernel⟩
theorem im_M_count : Cond.instanceMethod y_M_count ∈ gT := w_934
theorem se_M_count : Cond.selects y_M_count.cls y_M_count y_M_count ∈ gT := w_935
set_option maxRecDepth 100000 in
theorem tx_0 : vs_T "VeilSearch" 65 67 0 := ⟨by decide +kernel, by decide, w_311, w_312, w_13⟩
set_option maxRecDepth 100000 in
theorem tx_1 : vs_T "VeilSearch" 116 118 1 := ⟨by decide +kernel, by decide, w_433, w_434, w_14⟩
set_option maxRecDepth 100000 in
theorem tx_2 : vs_T "VeilSearch" 130 132 2 := ⟨by decide +kernel, by decide, w_463, w_464, w_15⟩
set_option maxRecDepth 100000 in
theorem tx_3 : vs_T "VeilSearch" 204 206 3 := ⟨by decide +kernel, by decide, w_609, w_610, w_19⟩
set_option maxRecDepth 100000 in
theorem tx_4 : vs_T "VeilSearch" 222 224 4 := ⟨by decide +kernel, by decide, w_641, w_642, w_20⟩
end
section
/-- the memory: int (and boolean) arrays, long, float, double arrays by position; int and long fields by position and place -/
abbrev vs_S : Type := (Nat → Nat → Int32) × (Nat → Nat → Int64) × (Nat → Nat → UInt32) × (Nat → Nat → UInt64) × (Nat → Nat → Int32) × (Nat → Nat → Int64)
/- positions: x 0, x.documents 1, x.documents.codes 2, x.documents.values 3, x.documents.allowed 4, x.documents.denied 5, x.documents.ids 1/4, x.filters 6, x.filters.segments 7, x.filters.users 8, x.filters.readable 9, x.filters.kept 6/3, x.filters.made 6/4, x.filters.reused 6/5, x.query 10, x.query.sorts 11, x.query.terms 12, x.query.fields 13, x.query.weights 14, x.query.open 15, x.query.veiledMust 10/5, x.query.size 10/6, x.hits 16, x.hits.ids 17, x.hits.scores 18, x.hits.size 16/2, x.hits.most 16/3, x.now 19, x.now.rights 20, x.now.rights.groupsOf 21, x.now.rights.levels 22, x.now.rights.clearances 23, x.now.segments 24, x.now.segments.numbers 25, x.now.segments.ids 26, x.now.segments.size 24/2, x.now.removed 19/2, x.seen 27, x.seen.rights 28, x.seen.rights.groupsOf 29, x.seen.rights.levels 30, x.seen.rights.clearances 31, x.seen.segments 32, x.seen.segments.numbers 33, x.seen.segments.ids 34, x.seen.segments.size 32/2, x.seen.removed 27/2, x.buffer 0/6, x.segmentsMade 0/7, x.blocksLooked 0/8, x.documentsFound 0/9, m 35, m.members 36, m.levels 37, m.clearances 38, m.oldMembers 39, m.oldLevels 40, m.oldClearances 41, m.value 42, m.code 43, m.allows 44, m.denies 45, m.parent 46, m.segment 47, m.seen 48, m.removed 49, m.seenRemoved 50, m.segments 51, m.shown 52, m.sort 53, m.term 54, m.field 55, m.order 56, m.hits 57, m.weight 58, m.scores 59, m.filterOf 60, m.filterFor 61, m.filterAt 62, m.ids 35/27, m.segmentMany 35/28, m.shownMany 35/29, m.serial 35/30, m.clauses 35/31, m.found 35/32, m.looked 35/33, m.matched 35/34, m.filters 35/35, m.made 35/36, m.reused 35/37, m.clock 35/38, m.thrown 35/39, out 63, outD 64 -/
def vs_mem (S : vs_S) : List vs_C := [
  .inr (7, [.ref 1, .ref 6, .ref 10, .ref 16, .ref 19, .ref 27, .long (S.2.2.2.2.2 0 6), .int (S.2.2.2.2.1 0 7), .int (S.2.2.2.2.1 0 8), .int (S.2.2.2.2.1 0 9)]),
  .inr (0, [.ref 2, .ref 3, .ref 4, .ref 5, .int (S.2.2.2.2.1 1 4)]),
  .inl (0, 984, .inl (S.1 2)),
  .inl (0, 123, .inl (S.1 3)),
  .inl (0, 41, .inl (S.1 4)),
  .inl (0, 41, .inl (S.1 5)),
  .inr (1, [.ref 7, .ref 8, .ref 9, .int (S.2.2.2.2.1 6 3), .int (S.2.2.2.2.1 6 4), .int (S.2.2.2.2.1 6 5)]),
  .inl (0, 5, .inl (S.1 7)),
  .inl (0, 5, .inl (S.1 8)),
  .inl (1, 5, .inr (.inl (S.2.1 9))),
  .inr (3, [.ref 11, .ref 12, .ref 13, .ref 14, .ref 15, .int (S.2.2.2.2.1 10 5), .int (S.2.2.2.2.1 10 6)]),
  .inl (0, 6, .inl (S.1 11)),
  .inl (0, 6, .inl (S.1 12)),
  .inl (0, 6, .inl (S.1 13)),
  .inl (2, 6, .inr (.inr (.inl (S.2.2.1 14)))),
  .inl (3, 6, .inl (S.1 15)),
  .inr (2, [.ref 17, .ref 18, .int (S.2.2.2.2.1 16 2), .int (S.2.2.2.2.1 16 3)]),
  .inl (0, 8, .inl (S.1 17)),
  .inl (2, 8, .inr (.inr (.inl (S.2.2.1 18)))),
  .inr (6, [.ref 20, .ref 24, .long (S.2.2.2.2.2 19 2)]),
  .inr (4, [.ref 21, .ref 22, .ref 23]),
  .inl (0, 16, .inl (S.1 21)),
  .inl (0, 3, .inl (S.1 22)),
  .inl (0, 8, .inl (S.1 23)),
  .inr (5, [.ref 25, .ref 26, .int (S.2.2.2.2.1 24 2)]),
  .inl (0, 6, .inl (S.1 25)),
  .inl (1, 6, .inr (.inl (S.2.1 26))),
  .inr (6, [.ref 28, .ref 32, .long (S.2.2.2.2.2 27 2)]),
  .inr (4, [.ref 29, .ref 30, .ref 31]),
  .inl (0, 16, .inl (S.1 29)),
  .inl (0, 3, .inl (S.1 30)),
  .inl (0, 8, .inl (S.1 31)),
  .inr (5, [.ref 33, .ref 34, .int (S.2.2.2.2.1 32 2)]),
  .inl (0, 6, .inl (S.1 33)),
  .inl (1, 6, .inr (.inl (S.2.1 34))),
  .inr (8, [.ref 36, .ref 37, .ref 38, .ref 39, .ref 40, .ref 41, .ref 42, .ref 43, .ref 44, .ref 45, .ref 46, .ref 47, .ref 48, .ref 49, .ref 50, .ref 51, .ref 52, .ref 53, .ref 54, .ref 55, .ref 56, .ref 57, .ref 58, .ref 59, .ref 60, .ref 61, .ref 62, .int (S.2.2.2.2.1 35 27), .int (S.2.2.2.2.1 35 28), .int (S.2.2.2.2.1 35 29), .int (S.2.2.2.2.1 35 30), .int (S.2.2.2.2.1 35 31), .int (S.2.2.2.2.1 35 32), .int (S.2.2.2.2.1 35 33), .int (S.2.2.2.2.1 35 34), .int (S.2.2.2.2.1 35 35), .int (S.2.2.2.2.1 35 36), .int (S.2.2.2.2.1 35 37), .int (S.2.2.2.2.1 35 38), .int (S.2.2.2.2.1 35 39)]),
  .inl (0, 16, .inl (S.1 36)),
  .inl (0, 3, .inl (S.1 37)),
  .inl (0, 8, .inl (S.1 38)),
  .inl (0, 16, .inl (S.1 39)),
  .inl (0, 3, .inl (S.1 40)),
  .inl (0, 8, .inl (S.1 41)),
  .inl (0, 123, .inl (S.1 42)),
  .inl (0, 984, .inl (S.1 43)),
  .inl (0, 41, .inl (S.1 44)),
  .inl (0, 41, .inl (S.1 45)),
  .inl (0, 41, .inl (S.1 46)),
  .inl (0, 40, .inl (S.1 47)),
  .inl (0, 40, .inl (S.1 48)),
  .inl (3, 40, .inl (S.1 49)),
  .inl (3, 40, .inl (S.1 50)),
  .inl (0, 6, .inl (S.1 51)),
  .inl (0, 6, .inl (S.1 52)),
  .inl (0, 6, .inl (S.1 53)),
  .inl (0, 6, .inl (S.1 54)),
  .inl (0, 6, .inl (S.1 55)),
  .inl (0, 6, .inl (S.1 56)),
  .inl (0, 9, .inl (S.1 57)),
  .inl (4, 6, .inr (.inr (.inr (.inl (S.2.2.2.1 58))))),
  .inl (2, 9, .inr (.inr (.inl (S.2.2.1 59)))),
  .inl (0, 5, .inl (S.1 60)),
  .inl (0, 5, .inl (S.1 61)),
  .inl (0, 5, .inl (S.1 62)),
  .inl (1, 1, .inr (.inl (S.2.1 63))),
  .inl (4, 1, .inr (.inr (.inr (.inl (S.2.2.2.1 64)))))]
def vs_uI (S : vs_S) (p : Nat) (f : Nat → Int32) : vs_S := (va_up S.1 p f, S.2)
def vs_uL (S : vs_S) (p : Nat) (f : Nat → Int64) : vs_S := (S.1, va_up S.2.1 p f, S.2.2)
def vs_uF (S : vs_S) (p : Nat) (f : Nat → UInt32) : vs_S := (S.1, S.2.1, va_up S.2.2.1 p f, S.2.2.2)
def vs_uD (S : vs_S) (p : Nat) (f : Nat → UInt64) : vs_S := (S.1, S.2.1, S.2.2.1, va_up S.2.2.2.1 p f, S.2.2.2.2)
def vs_ui (S : vs_S) (p k : Nat) (v : Int32) : vs_S := (S.1, S.2.1, S.2.2.1, S.2.2.2.1, va_up S.2.2.2.2.1 p (va_up (S.2.2.2.2.1 p) k v), S.2.2.2.2.2)
def vs_ul (S : vs_S) (p k : Nat) (v : Int64) : vs_S := (S.1, S.2.1, S.2.2.1, S.2.2.2.1, S.2.2.2.2.1, va_up S.2.2.2.2.2 p (va_up (S.2.2.2.2.2 p) k v))
section NRows
variable {p : Program} {l : Launch} {e : Env} {R : Room} {s : State} {m : MethodId} {args : Array Value} {below : List Frame} {meth : Method} {c : Code} {b : Nat} {D : va_G} {aC : Nat → ClassId} {nL : Nat} {Q : State → Prop} {kc ks : Nat} {ck : Bool} {mem : List vs_C} {pc : Nat} {lv : List (Option Value)} {st : List Value} {own : String} {cc : ByteArray}
theorem vs_ialdN (C : vs_X p s m args meth c b D aC own cc nL) {p0 n i : Nat} {f : Nat → Int32} {j : Int32} (hd : decode cc pc = .ok (.iaload, 1)) (hm : mem[p0]? = some (.inl (0, n, .inl f))) (hj : j = nI i) (hi : i < n) (hn : n < 2 ^ 31) (kk : vs_G p l e R s m args below meth c b D aC nL Q kc ks ck mem (pc + 1) lv (.int (f i) :: st)) : vs_G p l e R s m args below meth c b D aC nL Q kc ks ck mem pc lv (.int j :: .ref p0 :: st) := by
  subst hj
  refine vs_iald C hd hm (vp_in_nI hi hn) ?_
  rw [nI_clamp (Nat.lt_trans hi hn)]
  exact kk
theorem vs_iastN (C : vs_X p s m args meth c b D aC own cc nL) {p0 n i : Nat} {f : Nat → Int32} {j : Int32} {x : Int32} (hd : decode cc pc = .ok (.iastore, 1)) (hm : mem[p0]? = some (.inl (0, n, .inl f))) (hj : j = nI i) (hi : i < n) (hn : n < 2 ^ 31) (kk : vs_G p l e R s m args below meth c b D aC nL Q kc ks false (mem.set p0 (.inl (0, n, .inl (upd f i x)))) (pc + 1) lv st) : vs_G p l e R s m args below meth c b D aC nL Q kc ks ck mem pc lv (.int x :: .int j :: .ref p0 :: st) := by
  subst hj
  refine vs_iast C hd hm (vp_in_nI hi hn) ?_
  rw [nI_clamp (Nat.lt_trans hi hn)]
  exact kk
theorem vs_laldN (C : vs_X p s m args meth c b D aC own cc nL) {p0 n i : Nat} {f : Nat → Int64} {j : Int32} (hd : decode cc pc = .ok (.laload, 1)) (hm : mem[p0]? = some (.inl (1, n, .inr (.inl f)))) (hj : j = nI i) (hi : i < n) (hn : n < 2 ^ 31) (kk : vs_G p l e R s m args below meth c b D aC nL Q kc ks ck mem (pc + 1) lv (.long (f i) :: st)) : vs_G p l e R s m args below meth c b D aC nL Q kc ks ck mem pc lv (.int j :: .ref p0 :: st) := by
  subst hj
  refine vs_lald C hd hm (vp_in_nI hi hn) ?_
  rw [nI_clamp (Nat.lt_trans hi hn)]
  exact kk
theorem vs_lastN (C : vs_X p s m args meth c b D aC own cc nL) {p0 n i : Nat} {f : Nat → Int64} {j : Int32} {x : Int64} (hd : decode cc pc = .ok (.lastore, 1)) (hm : mem[p0]? = some (.inl (1, n, .inr (.inl f)))) (hj : j = nI i) (hi : i < n) (hn : n < 2 ^ 31) (kk : vs_G p l e R s m args below meth c b D aC nL Q kc ks false (mem.set p0 (.inl (1, n, .inr (.inl (vp_updL f i x))))) (pc + 1) lv st) : vs_G p l e R s m args below meth c b D aC nL Q kc ks ck mem pc lv (.long x :: .int j :: .ref p0 :: st) := by
  subst hj
  refine vs_last C hd hm (vp_in_nI hi hn) ?_
  rw [nI_clamp (Nat.lt_trans hi hn)]
  exact kk
theorem vs_faldN (C : vs_X p s m args meth c b D aC own cc nL) {p0 n i : Nat} {f : Nat → UInt32} {j : Int32} (hd : decode cc pc = .ok (.faload, 1)) (hm : mem[p0]? = some (.inl (2, n, .inr (.inr (.inl f))))) (hj : j = nI i) (hi : i < n) (hn : n < 2 ^ 31) (kk : vs_G p l e R s m args below meth c b D aC nL Q kc ks ck mem (pc + 1) lv (.float (f i) :: st)) : vs_G p l e R s m args below meth c b D aC nL Q kc ks ck mem pc lv (.int j :: .ref p0 :: st) := by
  subst hj
  refine vs_fald C hd hm (vp_in_nI hi hn) ?_
  rw [nI_clamp (Nat.lt_trans hi hn)]
  exact kk
theorem vs_fastN (C : vs_X p s m args meth c b D aC own cc nL) {p0 n i : Nat} {f : Nat → UInt32} {j : Int32} {x : UInt32} (hd : decode cc pc = .ok (.fastore, 1)) (hm : mem[p0]? = some (.inl (2, n, .inr (.inr (.inl f))))) (hj : j = nI i) (hi : i < n) (hn : n < 2 ^ 31) (kk : vs_G p l e R s m args below meth c b D aC nL Q kc ks false (mem.set p0 (.inl (2, n, .inr (.inr (.inl (vf_upd f i x)))))) (pc + 1) lv st) : vs_G p l e R s m args below meth c b D aC nL Q kc ks ck mem pc lv (.float x :: .int j :: .ref p0 :: st) := by
  subst hj
  refine vs_fast C hd hm (vp_in_nI hi hn) ?_
  rw [nI_clamp (Nat.lt_trans hi hn)]
  exact kk
theorem vs_zaldN (C : vs_X p s m args meth c b D aC own cc nL) {p0 n i : Nat} {f : Nat → Int32} {j : Int32} (hd : decode cc pc = .ok (.baload, 1)) (hm : mem[p0]? = some (.inl (3, n, .inl f))) (hj : j = nI i) (hi : i < n) (hn : n < 2 ^ 31) (kk : vs_G p l e R s m args below meth c b D aC nL Q kc ks ck mem (pc + 1) lv (.int (f i) :: st)) : vs_G p l e R s m args below meth c b D aC nL Q kc ks ck mem pc lv (.int j :: .ref p0 :: st) := by
  subst hj
  refine vs_zald C hd hm (vp_in_nI hi hn) ?_
  rw [nI_clamp (Nat.lt_trans hi hn)]
  exact kk
theorem vs_zastN (C : vs_X p s m args meth c b D aC own cc nL) {p0 n i : Nat} {f : Nat → Int32} {j : Int32} {x : Int32} (hd : decode cc pc = .ok (.bastore, 1)) (hm : mem[p0]? = some (.inl (3, n, .inl f))) (hj : j = nI i) (hi : i < n) (hn : n < 2 ^ 31) (kk : vs_G p l e R s m args below meth c b D aC nL Q kc ks false (mem.set p0 (.inl (3, n, .inl (upd f i (vp_nar .boolean x))))) (pc + 1) lv st) : vs_G p l e R s m args below meth c b D aC nL Q kc ks ck mem pc lv (.int x :: .int j :: .ref p0 :: st) := by
  subst hj
  refine vs_zast C hd hm (vp_in_nI hi hn) ?_
  rw [nI_clamp (Nat.lt_trans hi hn)]
  exact kk
theorem vs_daldN (C : vs_X p s m args meth c b D aC own cc nL) {p0 n i : Nat} {f : Nat → UInt64} {j : Int32} (hd : decode cc pc = .ok (.daload, 1)) (hm : mem[p0]? = some (.inl (4, n, .inr (.inr (.inr (.inl f)))))) (hj : j = nI i) (hi : i < n) (hn : n < 2 ^ 31) (kk : vs_G p l e R s m args below meth c b D aC nL Q kc ks ck mem (pc + 1) lv (.double (f i) :: st)) : vs_G p l e R s m args below meth c b D aC nL Q kc ks ck mem pc lv (.int j :: .ref p0 :: st) := by
  subst hj
  refine vs_dald C hd hm (vp_in_nI hi hn) ?_
  rw [nI_clamp (Nat.lt_trans hi hn)]
  exact kk
theorem vs_dastN (C : vs_X p s m args meth c b D aC own cc nL) {p0 n i : Nat} {f : Nat → UInt64} {j : Int32} {x : UInt64} (hd : decode cc pc = .ok (.dastore, 1)) (hm : mem[p0]? = some (.inl (4, n, .inr (.inr (.inr (.inl f)))))) (hj : j = nI i) (hi : i < n) (hn : n < 2 ^ 31) (kk : vs_G p l e R s m args below meth c b D aC nL Q kc ks false (mem.set p0 (.inl (4, n, .inr (.inr (.inr (.inl (vf_upd f i x))))))) (pc + 1) lv st) : vs_G p l e R s m args below meth c b D aC nL Q kc ks ck mem pc lv (.double x :: .int j :: .ref p0 :: st) := by
  subst hj
  refine vs_dast C hd hm (vp_in_nI hi hn) ?_
  rw [nI_clamp (Nat.lt_trans hi hn)]
  exact kk
end NRows
end
section
/-! rows on bits, shifts and unsigned numbers, to paste: each family out of a closed proof of our own, whole with what it rests on; each by itself clean at Lean in its own claim (generation 39, form 5). Take a family whole -/
/-! ===== Int32 by its bits: bt x i ===== -/
def bt (x : Int32) (i : Nat) : Bool := x.toBitVec.getLsbD i
theorem b_ext {x y : Int32} (h : ∀ i, i < 32 → bt x i = bt y i) : x = y := Int32.toBitVec_inj.mp (BitVec.eq_of_getLsbD_eq (fun i hi => h i hi))
theorem b_or (x y : Int32) (i : Nat) : bt (x ||| y) i = (bt x i || bt y i) := by unfold bt; rw [Int32.toBitVec_or, BitVec.getLsbD_or]
theorem b_and (x y : Int32) (i : Nat) : bt (x &&& y) i = (bt x i && bt y i) := by unfold bt; rw [Int32.toBitVec_and, BitVec.getLsbD_and]
theorem b_xor (x y : Int32) (i : Nat) : bt (x ^^^ y) i = (bt x i ^^ bt y i) := by unfold bt; rw [Int32.toBitVec_xor, BitVec.getLsbD_xor]
theorem b_big {x : Int32} {i : Nat} (h : 32 ≤ i) : bt x i = false := BitVec.getLsbD_of_ge _ _ h
theorem b_255 (i : Nat) : bt 255 i = decide (i < 8) := by
  rcases Nat.lt_or_ge i 32 with h | h
  · exact (by decide +kernel : ∀ i, i < 32 → bt 255 i = decide (i < 8)) i h
  · rw [b_big h, decide_eq_false (by omega)]
theorem b_65535 (i : Nat) : bt 65535 i = decide (i < 16) := by
  rcases Nat.lt_or_ge i 32 with h | h
  · exact (by decide +kernel : ∀ i, i < 32 → bt 65535 i = decide (i < 16)) i h
  · rw [b_big h, decide_eq_false (by omega)]
theorem b_m1 : ∀ i, i < 32 → bt (-1) i = true := by decide +kernel
theorem b_0 (i : Nat) : bt 0 i = false := BitVec.getLsbD_zero
theorem s_l : ∀ n, n < 32 → ((nI n &&& 31).toBitVec.smod 32).toNat = n := by decide +kernel
theorem s_u : ∀ n, n < 32 → (((nI n).toUInt32 &&& Int32.toUInt32 31).toBitVec % 32).toNat = n := by decide +kernel
theorem b_shl (n : Nat) (hn : n < 32) (x : Int32) {i : Nat} (hi : i < 32) : bt (x <<< (nI n &&& 31)) i = (decide (n ≤ i) && bt x (i - n)) := by
  unfold bt
  rw [Int32.toBitVec_shiftLeft]
  show (x.toBitVec <<< ((nI n &&& 31).toBitVec.smod 32).toNat).getLsbD i = _
  rw [s_l n hn, BitVec.getLsbD_shiftLeft]
  rcases Nat.lt_or_ge i n with h | h
  · simp [h, Nat.not_le.mpr h]
  · simp [hi, h, Nat.not_lt.mpr h]
theorem b_ushr (n : Nat) (hn : n < 32) (x : Int32) (i : Nat) : bt ((x.toUInt32 >>> ((nI n).toUInt32 &&& Int32.toUInt32 31)).toInt32) i = bt x (n + i) := by
  show (x.toUInt32 >>> ((nI n).toUInt32 &&& Int32.toUInt32 31)).toBitVec.getLsbD i = x.toUInt32.toBitVec.getLsbD (n + i)
  rw [UInt32.toBitVec_shiftRight]
  show (x.toUInt32.toBitVec >>> (((nI n).toUInt32 &&& Int32.toUInt32 31).toBitVec % 32).toNat).getLsbD i = _
  rw [s_u n hn, BitVec.getLsbD_ushiftRight]
theorem b_sshr (n : Nat) (hn : n < 32) (x : Int32) {i : Nat} (hi : i < 32) : bt (x >>> (nI n &&& 31)) i = if n + i < 32 then bt x (n + i) else bt x 31 := by
  unfold bt
  rw [Int32.toBitVec_shiftRight]
  show (x.toBitVec.sshiftRight ((nI n &&& 31).toBitVec.smod 32).toNat).getLsbD i = _
  rw [s_l n hn, BitVec.getLsbD_sshiftRight, BitVec.msb_eq_getLsbD_last]
  simp [hi]
theorem b_shl8 (x : Int32) {i : Nat} (hi : i < 32) : bt (x <<< ((8 : Int32) &&& 31)) i = (decide (8 ≤ i) && bt x (i - 8)) := b_shl 8 (by omega) x hi
theorem b_shl16 (x : Int32) {i : Nat} (hi : i < 32) : bt (x <<< ((16 : Int32) &&& 31)) i = (decide (16 ≤ i) && bt x (i - 16)) := b_shl 16 (by omega) x hi
theorem b_shl24 (x : Int32) {i : Nat} (hi : i < 32) : bt (x <<< ((24 : Int32) &&& 31)) i = (decide (24 ≤ i) && bt x (i - 24)) := b_shl 24 (by omega) x hi
theorem b_sshr8 (x : Int32) {i : Nat} (hi : i < 32) : bt (x >>> ((8 : Int32) &&& 31)) i = if 8 + i < 32 then bt x (8 + i) else bt x 31 := b_sshr 8 (by omega) x hi
/-! ===== nI under and, xor, >>>, one bit, 65535 ===== -/
theorem nx_and (a b : Nat) : nI a &&& nI b = nI (a &&& b) := by
  apply Int32.toBitVec_inj.1
  show BitVec.ofNat 32 a &&& BitVec.ofNat 32 b = BitVec.ofNat 32 (a &&& b)
  apply BitVec.eq_of_getLsbD_eq
  intro i hi
  simp [hi]
theorem nx_xor (a b : Nat) : nI a ^^^ nI b = nI (a ^^^ b) := by
  apply Int32.toBitVec_inj.1
  show BitVec.ofNat 32 a ^^^ BitVec.ofNat 32 b = BitVec.ofNat 32 (a ^^^ b)
  apply BitVec.eq_of_getLsbD_eq
  intro i hi
  simp [hi]
theorem nx_cnt : ∀ j : Fin 32, (UInt32.ofNat j.val &&& Int32.toUInt32 31).toNat % 32 = j.val := by decide +kernel
theorem nx_ush {k j : Nat} (hk : k < 65536) (hj : j < 32) : ((nI k).toUInt32 >>> ((nI j).toUInt32 &&& Int32.toUInt32 31)).toInt32 = nI (k >>> j) := by
  have hs : k >>> j ≤ k := by
    rw [Nat.shiftRight_eq_div_pow]
    exact Nat.div_le_self _ _
  have e2 : UInt32.ofNat k >>> (UInt32.ofNat j &&& Int32.toUInt32 31) = UInt32.ofNat (k >>> j) := by
    apply UInt32.toNat_inj.1
    have h1 : (UInt32.ofNat k).toNat = k := Nat.mod_eq_of_lt (by omega)
    have h2 : (UInt32.ofNat (k >>> j)).toNat = k >>> j := Nat.mod_eq_of_lt (by omega)
    rw [UInt32.toNat_shiftRight, nx_cnt ⟨j, hj⟩, h1, h2]
  show (UInt32.ofNat k >>> (UInt32.ofNat j &&& Int32.toUInt32 31)).toInt32 = _
  rw [e2]
  rfl
theorem nx_bit {k j : Nat} (hk : k < 65536) (hj : j < 16) : (((nI k).toUInt32 >>> ((nI j).toUInt32 &&& Int32.toUInt32 31)).toInt32 &&& 1) = 0 ↔ k.testBit j = false := by
  rw [nx_ush hk (by omega)]
  show nI (k >>> j) &&& nI 1 = 0 ↔ _
  rw [nx_and, Nat.and_one_is_mod, ← nI_0, nI_eq (by omega) (by omega), Nat.testBit_eq_decide_div_mod_eq, Nat.shiftRight_eq_div_pow, decide_eq_false_iff_not]
  generalize k / 2 ^ j = z
  omega
theorem nx_mod (k : Nat) : nI k &&& 65535 = nI (k % 65536) := by
  show nI k &&& nI 65535 = _
  rw [nx_and, show (65535 : Nat) = 2 ^ 16 - 1 from rfl, Nat.and_two_pow_sub_one_eq_mod]
theorem nx_m16 {k : Nat} (h : k < 65536) : nI k &&& 65535 = nI k := by rw [nx_mod, Nat.mod_eq_of_lt h]
theorem nx_mask (x : Int32) : ∃ k, k < 65536 ∧ x &&& 65535 = nI k := by
  have e : x = nI x.toBitVec.toNat := by
    apply Int32.toBitVec_inj.1
    show x.toBitVec = BitVec.ofNat 32 x.toBitVec.toNat
    simp
  refine ⟨x.toBitVec.toNat % 65536, Nat.mod_lt _ (by omega), ?_⟩
  rw [← nx_mod, ← e]
/-! ===== Int32 as a set of bits: test, set ===== -/
def nf_M (m : Int32) : Nat := 4294967296 - m.toBitVec.toNat
theorem nf_sh : ∀ l, l < 32 → ((1 : Int32) <<< (nI l &&& 31)).toBitVec = BitVec.twoPow 32 l := by decide +kernel
theorem nf_sl : ∀ l, l < 32 → (((nI l).toUInt32 &&& Int32.toUInt32 31).toBitVec % 32).toNat = l := by decide +kernel
theorem nf_tp : ∀ l, l < 32 → BitVec.twoPow 32 l ≠ 0#32 := by decide +kernel
theorem nf_bit (m : Int32) (l : Nat) (hl : l < 32) : ((m.toUInt32 >>> ((nI l).toUInt32 &&& Int32.toUInt32 31)).toInt32 &&& 1) = 0 ↔ (m &&& ((1 : Int32) <<< (nI l &&& 31))) = 0 := by
  have e : ((m.toUInt32 >>> ((nI l).toUInt32 &&& Int32.toUInt32 31)).toInt32).toBitVec = m.toBitVec >>> l := by
    show m.toBitVec >>> (((nI l).toUInt32 &&& Int32.toUInt32 31).toBitVec % 32) = m.toBitVec >>> l
    rw [BitVec.ushiftRight_eq', nf_sl l hl]
  rw [← Int32.toBitVec_inj, ← Int32.toBitVec_inj, Int32.toBitVec_and, Int32.toBitVec_and, nf_sh l hl, e, BitVec.and_twoPow]
  show (m.toBitVec >>> l &&& 1#32) = 0#32 ↔ _ = 0#32
  rw [BitVec.and_one_eq_setWidth_ofBool_getLsbD, BitVec.getLsbD_ushiftRight, Nat.add_zero]
  cases hb : m.toBitVec.getLsbD l
  · exact ⟨fun _ => by simp, fun _ => by decide⟩
  · exact ⟨fun z => absurd z (by decide), fun z => absurd ((if_pos rfl).symm.trans z) (nf_tp l hl)⟩
theorem nf_gr (m k : Int32) (h : m &&& k = 0) (hk : k ≠ 0) : nf_M (m ||| k) < nf_M m := by
  have hm := m.toBitVec.isLt
  have hm' := (m ||| k).toBitVec.isLt
  have h1 : m.toBitVec.toNat ≤ (m ||| k).toBitVec.toNat := by
    rw [Int32.toBitVec_or, BitVec.toNat_or]
    exact Nat.left_le_or
  have h2 : m.toBitVec.toNat ≠ (m ||| k).toBitVec.toNat := by
    intro e
    have e2 : m = m ||| k := Int32.toBitVec_inj.mp (BitVec.eq_of_toNat_eq e)
    apply hk
    apply Int32.toBitVec_inj.mp
    show k.toBitVec = 0#32
    apply BitVec.eq_of_getLsbD_eq
    intro i hi
    have a : m.toBitVec.getLsbD i = (m.toBitVec.getLsbD i || k.toBitVec.getLsbD i) := by rw [← BitVec.getLsbD_or, ← Int32.toBitVec_or, ← e2]
    have b : (m.toBitVec.getLsbD i && k.toBitVec.getLsbD i) = false := by
      rw [← BitVec.getLsbD_and, ← Int32.toBitVec_and, h]
      exact BitVec.getLsbD_zero
    rw [BitVec.getLsbD_zero]
    revert a b
    cases m.toBitVec.getLsbD i <;> cases k.toBitVec.getLsbD i <;> simp
  unfold nf_M
  omega
/-! ===== a byte read unsigned ===== -/
theorem bp_b (x : Int32) : x.toInt8.toInt32 &&& 255 = x &&& 255 := by
  apply Int32.toBitVec_inj.mp
  rw [Int32.toBitVec_and, Int32.toBitVec_and, Int8.toBitVec_toInt32, Int32.toBitVec_toInt8]
  apply BitVec.eq_of_getLsbD_eq
  intro i hi
  rw [BitVec.getLsbD_and, BitVec.getLsbD_and]
  have hm : ∀ i < 32, 8 ≤ i → (255 : Int32).toBitVec.getLsbD i = false := by decide
  rcases Nat.lt_or_ge i 8 with z | z
  · rw [BitVec.getLsbD_signExtend, BitVec.getLsbD_signExtend, if_pos z, if_pos hi]
    simp only [z, hi, decide_true, Bool.true_and]
  · rw [hm i hi z]; simp
/-! ===== the char cast and 65535 ===== -/
/-! ===== Int64 as a set of bits: test, set, clear ===== -/
theorem ts_nf {x : Bool} (h : ¬ x = false) : x = true := by cases x <;> first | rfl | exact absurd rfl h
theorem ts_nt {x : Bool} (h : ¬ x = true) : x = false := by cases x <;> first | rfl | exact absurd rfl h
theorem ts_bit {w : Int64} {s : UInt64} {j : Nat} (hj : j < 64) (hs : s.toNat = j) : ((w.toUInt64 >>> s).toInt64 &&& 1) = 0 ↔ w.toBitVec.getLsbD j = false := by
  have e : (w.toUInt64 >>> s).toInt64.toBitVec = w.toBitVec >>> j := by
    apply BitVec.eq_of_toNat_eq
    show (w.toUInt64 >>> s).toNat = _
    rw [UInt64.toNat_shiftRight, hs, Nat.mod_eq_of_lt hj, BitVec.toNat_ushiftRight]
    rfl
  rw [← Int64.toBitVec_inj, Int64.toBitVec_and, e]
  show w.toBitVec >>> j &&& 1#64 = 0#64 ↔ _
  constructor
  · intro h
    have t := congrArg (fun x => x.getLsbD 0) h
    simpa using t
  · intro h
    apply BitVec.eq_of_getLsbD_eq
    intro i hi
    cases i with
    | zero => simp [h]
    | succ i => simp
theorem ts_or {w m : Int64} {j : Nat} (hj : j < 64) (hm : m.toBitVec = BitVec.twoPow 64 j) : (w ||| m) = w ↔ w.toBitVec.getLsbD j = true := by
  rw [← Int64.toBitVec_inj, Int64.toBitVec_or, hm]
  constructor
  · intro h
    have t := congrArg (fun x => x.getLsbD j) h
    simp only [BitVec.getLsbD_or, BitVec.getLsbD_twoPow] at t
    simpa [hj] using t.symm
  · intro h
    apply BitVec.eq_of_getLsbD_eq
    intro i hi
    rw [BitVec.getLsbD_or, BitVec.getLsbD_twoPow]
    by_cases e : j = i
    · subst e; rw [h, Bool.true_or]
    · simp [e]
theorem ts_and {w m : Int64} {j : Nat} (hj : j < 64) (hm : m.toBitVec = BitVec.twoPow 64 j) : (w &&& (m ^^^ (-1))) = w ↔ w.toBitVec.getLsbD j = false := by
  have ha : (-1 : Int64).toBitVec = BitVec.allOnes 64 := by decide
  rw [← Int64.toBitVec_inj, Int64.toBitVec_and, Int64.toBitVec_xor, hm, ha]
  constructor
  · intro h
    have t := congrArg (fun x => x.getLsbD j) h
    simp only [BitVec.getLsbD_and, BitVec.getLsbD_xor, BitVec.getLsbD_twoPow, BitVec.getLsbD_allOnes] at t
    simpa [hj] using t.symm
  · intro h
    apply BitVec.eq_of_getLsbD_eq
    intro i hi
    rw [BitVec.getLsbD_and, BitVec.getLsbD_xor, BitVec.getLsbD_twoPow, BitVec.getLsbD_allOnes]
    by_cases e : j = i
    · subst e; rw [h, Bool.false_and]
    · simp [e, hi]
/-! ===== lN n to 2^64: shifts, and, or, masks, one bit ===== -/
theorem wb_tb (n : Nat) : (lN n).toBitVec = BitVec.ofNat 64 n := rfl
theorem wb_inj {a b : Int64} (h : a.toBitVec = b.toBitVec) : a = b := Int64.toBitVec_inj.mp h
theorem wb_tn {n : Nat} (h : n < 2 ^ 64) : (lN n).toBitVec.toNat = n := by rw [wb_tb, BitVec.toNat_ofNat, Nat.mod_eq_of_lt h]
theorem wb_of (x : Int64) : ∃ n, n < 2 ^ 64 ∧ x = lN n := ⟨x.toBitVec.toNat, x.toBitVec.isLt, wb_inj (by rw [wb_tb]; simp)⟩
theorem wb_of32 (x : Int32) : ∃ n, n < 2 ^ 32 ∧ x = nI n := ⟨x.toBitVec.toNat, x.toBitVec.isLt, Int32.toBitVec_inj.mp (by show _ = BitVec.ofNat 32 _; simp)⟩
theorem wb_c : ∀ k, k < 64 → ((nI k).toInt64 &&& 63) = lN k := by decide +kernel
theorem wb_cu : ∀ k, k < 64 → ((nI k).toInt64.toUInt64 &&& Int64.toUInt64 63) = UInt64.ofNat k := by decide +kernel
theorem wb_sm : ∀ k, k < 64 → (BitVec.ofNat 64 k).smod 64 = BitVec.ofNat 64 k := by decide +kernel
theorem wb_pw {a b : Nat} (h : a ≤ b) : 2 ^ b = 2 ^ a * 2 ^ (b - a) := by rw [← Nat.pow_add]; congr 1; omega
theorem wb_lt2 {a b : Nat} (h : a < b) : 2 ^ a < 2 ^ b := Nat.pow_lt_pow_right (by decide) h
theorem wb_mod (n : Nat) : lN n = lN (n % 2 ^ 64) := wb_inj (by rw [wb_tb, wb_tb]; apply BitVec.eq_of_toNat_eq; rw [BitVec.toNat_ofNat, BitVec.toNat_ofNat, Nat.mod_mod])
theorem wb_shr {n k : Nat} (hn : n < 2 ^ 64) (hk : k < 64) : ((lN n).toUInt64 >>> ((nI k).toInt64.toUInt64 &&& Int64.toUInt64 63)).toInt64 = lN (n / 2 ^ k) := by
  rw [wb_cu k hk]
  apply wb_inj
  apply BitVec.eq_of_toNat_eq
  show ((lN n).toUInt64 >>> UInt64.ofNat k).toNat = (BitVec.ofNat 64 _).toNat
  have h1 : (UInt64.ofNat k).toNat = k := by
    show (BitVec.ofNat 64 k).toNat = k
    rw [BitVec.toNat_ofNat, Nat.mod_eq_of_lt (by omega)]
  have h2 : (lN n).toUInt64.toNat = n := wb_tn hn
  rw [UInt64.toNat_shiftRight, h1, h2, Nat.mod_eq_of_lt hk, Nat.shiftRight_eq_div_pow, BitVec.toNat_ofNat, Nat.mod_eq_of_lt (Nat.lt_of_le_of_lt (Nat.div_le_self _ _) hn)]
theorem wb_shl (n : Nat) {k : Nat} (hk : k < 64) : lN n <<< ((nI k).toInt64 &&& 63) = lN (n * 2 ^ k) := by
  rw [wb_c k hk]
  apply wb_inj
  rw [Int64.toBitVec_shiftLeft, wb_tb, wb_tb, wb_tb, wb_sm k hk]
  apply BitVec.eq_of_toNat_eq
  rw [BitVec.shiftLeft_eq', BitVec.toNat_shiftLeft, BitVec.toNat_ofNat, BitVec.toNat_ofNat, BitVec.toNat_ofNat, Nat.mod_eq_of_lt (show k < 2 ^ 64 by omega), Nat.shiftLeft_eq, Nat.mul_mod, Nat.mod_mod, ← Nat.mul_mod]
theorem wb_and {a b : Nat} (ha : a < 2 ^ 64) (hb : b < 2 ^ 64) : lN a &&& lN b = lN (a &&& b) := by
  apply wb_inj
  rw [Int64.toBitVec_and, wb_tb, wb_tb, wb_tb]
  apply BitVec.eq_of_toNat_eq
  rw [BitVec.toNat_and, BitVec.toNat_ofNat, BitVec.toNat_ofNat, BitVec.toNat_ofNat, Nat.mod_eq_of_lt ha, Nat.mod_eq_of_lt hb, Nat.mod_eq_of_lt (Nat.and_lt_two_pow _ hb)]
theorem wb_or {a b : Nat} (ha : a < 2 ^ 64) (hb : b < 2 ^ 64) : lN a ||| lN b = lN (a ||| b) := by
  apply wb_inj
  rw [Int64.toBitVec_or, wb_tb, wb_tb, wb_tb]
  apply BitVec.eq_of_toNat_eq
  rw [BitVec.toNat_or, BitVec.toNat_ofNat, BitVec.toNat_ofNat, BitVec.toNat_ofNat, Nat.mod_eq_of_lt ha, Nat.mod_eq_of_lt hb, Nat.mod_eq_of_lt (Nat.or_lt_two_pow ha hb)]
theorem wb_mask {n k : Nat} (hn : n < 2 ^ 64) (hk : k < 64) : lN n &&& lN (2 ^ k - 1) = lN (n % 2 ^ k) := by
  rw [wb_and hn (by have := wb_lt2 hk; omega), Nat.and_two_pow_sub_one_eq_mod]
theorem wb_a1 {n : Nat} (hn : n < 2 ^ 64) : lN n &&& 1 = lN (n % 2) := wb_mask (k := 1) hn (by decide)
theorem wb_bit {n k : Nat} (hn : n < 2 ^ 64) (hk : k < 64) : ((lN n).toUInt64 >>> ((nI k).toInt64.toUInt64 &&& Int64.toUInt64 63)).toInt64 &&& 1 = lN (n / 2 ^ k % 2) := by
  rw [wb_shr hn hk, wb_a1 (Nat.lt_of_le_of_lt (Nat.div_le_self _ _) hn)]
theorem wb_xor {q k : Nat} (hk : k < 63) (h : 2 ^ k ≤ q) (h2 : q < 2 ^ (k + 1)) : lN q ^^^ lN (2 ^ k) = lN (q - 2 ^ k) := by
  obtain ⟨r, rfl⟩ : ∃ r, q = 2 ^ k + r := ⟨q - 2 ^ k, by omega⟩
  have hr : r < 2 ^ k := by rw [Nat.pow_succ] at h2; omega
  have hx : (2 ^ k + r) ^^^ 2 ^ k = r := by
    apply Nat.eq_of_testBit_eq
    intro i
    rw [Nat.testBit_xor, Nat.testBit_two_pow]
    rcases Nat.lt_trichotomy i k with h | h | h
    · rw [Nat.testBit_two_pow_add_gt h]
      simp [show ¬ k = i by omega]
    · subst h
      rw [Nat.testBit_two_pow_add_eq]
      simp
    · have a1 : 2 ^ (k + 1) ≤ 2 ^ i := Nat.pow_le_pow_right (by decide) h
      rw [Nat.testBit_lt_two_pow (show 2 ^ k + r < 2 ^ i by omega), Nat.testBit_lt_two_pow (show r < 2 ^ i by omega)]
      simp [show ¬ k = i by omega]
  have b1 := wb_lt2 (show k + 1 < 64 by omega)
  have b2 := wb_lt2 (show k < 64 by omega)
  apply wb_inj
  rw [Int64.toBitVec_xor, wb_tb, wb_tb, wb_tb]
  apply BitVec.eq_of_toNat_eq
  rw [BitVec.toNat_xor, BitVec.toNat_ofNat, BitVec.toNat_ofNat, BitVec.toNat_ofNat, Nat.mod_eq_of_lt (by omega : 2 ^ k + r < 2 ^ 64), Nat.mod_eq_of_lt b2, hx, Nat.add_sub_cancel_left, Nat.mod_eq_of_lt (by omega)]
/-! ===== lN: masks, 'or' of parts that don't overlap is a sum ===== -/
theorem u_tn {n : Nat} (h : n < 2 ^ 64) : (UInt64.ofNat n).toNat = n := Nat.mod_eq_of_lt h
theorem g_and {a b c : Nat} (ha : a < 2 ^ 64) (hb : b < 2 ^ 64) (hc : a &&& b = c) : lN a &&& lN b = lN c := by
  subst hc
  have h : UInt64.ofNat a &&& UInt64.ofNat b = UInt64.ofNat (a &&& b) := UInt64.toNat_inj.mp (by rw [UInt64.toNat_and, u_tn ha, u_tn hb, u_tn (Nat.and_lt_two_pow a hb)])
  have h2 := congrArg UInt64.toInt64 h
  exact h2
theorem g_and1 {a : Nat} (ha : a < 2 ^ 64) : lN a &&& 1 = lN (a % 2) := g_and (b := 1) ha (by decide) (Nat.and_two_pow_sub_one_eq_mod a 1)
theorem g_mask {a s p : Nat} (hp : 2 ^ s = p) (hs : s < 64) (ha : a < 2 ^ 64) : lN a &&& lN (p - 1) = lN (a % p) := by
  subst hp
  have := Nat.pow_lt_pow_right (show 1 < 2 by decide) hs
  exact g_and ha (by omega) (Nat.and_two_pow_sub_one_eq_mod a s)
theorem g_or {k p a b : Nat} (hp : 2 ^ k = p) (ha : a < p) (h : b * p + a < 2 ^ 64) : lN (b * p) ||| lN a = lN (b * p + a) := by
  subst hp
  have h1 : b * 2 ^ k ||| a = b * 2 ^ k + a := by rw [← Nat.shiftLeft_eq, Nat.shiftLeft_add_eq_or_of_lt ha]
  have h3 : UInt64.ofNat (b * 2 ^ k) ||| UInt64.ofNat a = UInt64.ofNat (b * 2 ^ k + a) := UInt64.toNat_inj.mp (by rw [UInt64.toNat_or, u_tn (by omega), u_tn (by omega), u_tn h, h1])
  have h2 := congrArg UInt64.toInt64 h3
  exact h2
theorem g_or' {k p a b : Nat} (hp : 2 ^ k = p) (ha : a < p) (h : a + b * p < 2 ^ 64) : lN a ||| lN (b * p) = lN (a + b * p) := by
  rw [Int64.or_comm, g_or hp ha (by omega), Nat.add_comm]
theorem g_ushr {a k p : Nat} {y : UInt64} (hy : y = UInt64.ofNat k) (hk : k < 64) (hp : 2 ^ k = p) (ha : a < 2 ^ 64) : ((lN a).toUInt64 >>> y).toInt64 = lN (a / p) := by
  subst hy hp
  have h : UInt64.ofNat a >>> UInt64.ofNat k = UInt64.ofNat (a / 2 ^ k) := UInt64.toNat_inj.mp (by rw [UInt64.toNat_shiftRight, u_tn ha, u_tn (by omega), u_tn (Nat.lt_of_le_of_lt (Nat.div_le_self _ _) ha), Nat.mod_eq_of_lt hk, Nat.shiftRight_eq_div_pow])
  have h2 := congrArg UInt64.toInt64 h
  exact h2
theorem g_shl {a k p : Nat} {y : Int64} (hy : y.toBitVec.smod 64 = BitVec.ofNat 64 k) (hk : k < 64) (hp : 2 ^ k = p) (ha : a < 2 ^ 64) : lN a <<< y = lN (a * p) := by
  subst hp
  apply Int64.toBitVec_inj.mp
  rw [Int64.toBitVec_shiftLeft, hy]
  apply BitVec.eq_of_toNat_eq
  have hb : (lN a).toBitVec.toNat = a := Nat.mod_eq_of_lt ha
  have hk' : (BitVec.ofNat 64 k).toNat = k := Nat.mod_eq_of_lt (by omega)
  have h : ((lN a).toBitVec <<< BitVec.ofNat 64 k).toNat = (a * 2 ^ k) % 2 ^ 64 := by simp only [BitVec.shiftLeft_eq', BitVec.toNat_shiftLeft, hb, hk', Nat.shiftLeft_eq]
  exact h
/-! ===== lN to 2^62 under >> and >>> ===== -/
theorem pf_lI {a : Nat} (h : a < 2 ^ 63) : (lN a).toInt = (a : Int) := lg_ofNat_toInt h
theorem pf_shr {a d : Nat} {D : Int64} (hD : (D.toBitVec.smod 64).toNat = d) (h : a < 2 ^ 62) : lN a >>> D = lN (a / 2 ^ d) := by
  have hd : a / 2 ^ d ≤ a := Nat.div_le_self _ _
  apply Int64.toInt_inj.mp
  have e : (lN a >>> D).toInt = (lN a).toInt >>> d := by
    rw [← hD]
    exact BitVec.toInt_sshiftRight ..
  rw [e, Int.shiftRight_eq_div_pow, pf_lI (by omega), pf_lI (by omega)]
  rfl
theorem pf_ushr {a d : Nat} {D : UInt64} (hD : D.toNat % 64 = d) (h : a < 2 ^ 62) : ((lN a).toUInt64 >>> D).toInt64 = lN (a / 2 ^ d) := by
  have hd : a / 2 ^ d ≤ a := Nat.div_le_self _ _
  have e : (lN a).toUInt64 >>> D = UInt64.ofNat (a / 2 ^ d) := UInt64.toNat_inj.mp (by
    rw [UInt64.toNat_shiftRight, hD, Nat.shiftRight_eq_div_pow, UInt64.toNat_ofNat']
    show (UInt64.ofNat a).toNat / 2 ^ d = _
    rw [UInt64.toNat_ofNat', Nat.mod_eq_of_lt (by omega), Nat.mod_eq_of_lt (by omega)])
  rw [e]
  rfl
theorem pf_andw (x : Int64) : ∃ m, m < 2 ^ 32 ∧ x &&& 4294967295 = lN m := ⟨x.toBitVec.toNat % 2 ^ 32, Nat.mod_lt _ (by decide), Int64.toBitVec_inj.mp (BitVec.eq_of_toNat_eq (by
  show (x.toBitVec &&& 4294967295#64).toNat = (BitVec.ofNat 64 (x.toBitVec.toNat % 2 ^ 32)).toNat
  rw [BitVec.toNat_and, show (4294967295#64).toNat = 2 ^ 32 - 1 from by decide, Nat.and_two_pow_sub_one_eq_mod, BitVec.toNat_ofNat]
  omega))⟩
/-! ===== Int64 as an unsigned number: uN x ===== -/
def uN (x : Int64) : Nat := x.toUInt64.toNat
theorem uN_lt (x : Int64) : uN x < 18446744073709551616 := x.toUInt64.toNat_lt
theorem uN_inj {x y : Int64} (h : uN x = uN y) : x = y := congrArg UInt64.toInt64 (UInt64.toNat_inj.mp h)
theorem uN_add (x y : Int64) : uN (x + y) = (uN x + uN y) % 18446744073709551616 := by
  show (x.toUInt64 + y.toUInt64).toNat = _
  exact UInt64.toNat_add _ _
theorem uN_mul (x y : Int64) : uN (x * y) = (uN x * uN y) % 18446744073709551616 := by
  show (x.toUInt64 * y.toUInt64).toNat = _
  exact UInt64.toNat_mul _ _
theorem uN_shl (x : Int64) : uN (x <<< ((1 : Int32).toInt64 &&& 63)) = (2 * uN x) % 18446744073709551616 := by
  have h : (((1 : Int32).toInt64 &&& 63).toBitVec.smod 64).toNat = 1 := by decide
  show (x.toBitVec <<< (((1 : Int32).toInt64 &&& 63).toBitVec.smod 64).toNat).toNat = _
  rw [h, BitVec.toNat_shiftLeft, Nat.shiftLeft_eq, Nat.mul_comm]
  rfl
theorem uN_shr (x : Int64) (s : UInt64) : uN (x.toUInt64 >>> s).toInt64 = uN x / 2 ^ (s.toNat % 64) := by
  show (x.toUInt64 >>> s).toNat = _
  rw [UInt64.toNat_shiftRight, Nat.shiftRight_eq_div_pow]
  rfl
theorem uN_s32 (x : Int64) : uN (x.toUInt64 >>> ((32 : Int32).toInt64.toUInt64 &&& Int64.toUInt64 63)).toInt64 = uN x / 4294967296 := by
  have h : ((32 : Int32).toInt64.toUInt64 &&& Int64.toUInt64 63).toNat % 64 = 32 := by decide
  rw [uN_shr, h]
theorem uN_s63 (x : Int64) : uN (x.toUInt64 >>> ((63 : Int32).toInt64.toUInt64 &&& Int64.toUInt64 63)).toInt64 = uN x / 9223372036854775808 := by
  have h : ((63 : Int32).toInt64.toUInt64 &&& Int64.toUInt64 63).toNat % 64 = 63 := by decide
  rw [uN_shr, h]
theorem uN_lo (x : Int64) : uN (x &&& 4294967295) = uN x % 4294967296 := by
  show (x.toUInt64 &&& Int64.toUInt64 4294967295).toNat = _
  rw [UInt64.toNat_and]
  exact Nat.and_two_pow_sub_one_eq_mod _ 32
theorem uN_bit (x : Int64) : (x &&& 1) = 0 ↔ uN x % 2 = 0 := by
  have h : uN (x &&& 1) = uN x % 2 := by
    show (x.toUInt64 &&& Int64.toUInt64 1).toNat = _
    rw [UInt64.toNat_and]
    exact Nat.and_two_pow_sub_one_eq_mod _ 1
  rw [← h]
  exact ⟨fun z => by rw [z]; rfl, fun z => uN_inj (z.trans rfl)⟩
theorem uN_or {x y : Int64} (hy : uN y < 2) : uN ((x <<< ((1 : Int32).toInt64 &&& 63)) ||| y) = (2 * uN x) % 18446744073709551616 + uN y := by
  have h1 : uN ((x <<< ((1 : Int32).toInt64 &&& 63)) ||| y) = uN (x <<< ((1 : Int32).toInt64 &&& 63)) ||| uN y := UInt64.toNat_or _ _
  have h2 : (2 * uN x) % 18446744073709551616 = 2 ^ 1 * (uN x % 9223372036854775808) := by omega
  rw [h1, uN_shl, h2]
  exact (Nat.two_pow_add_eq_or_of_lt (i := 1) hy _).symm
theorem nat_xor {a : Nat} (h : a < 18446744073709551616) : a ^^^ 2 ^ 63 = (a + 9223372036854775808) % 18446744073709551616 := by
  have h1 : (a ^^^ 2 ^ 63) % 2 ^ 63 = a % 2 ^ 63 := by rw [Nat.xor_mod_two_pow, Nat.mod_self, Nat.xor_zero]
  have h2 : (a ^^^ 2 ^ 63) / 2 ^ 63 = (a / 2 ^ 63) ^^^ 1 := by rw [Nat.xor_div_two_pow, Nat.div_self (Nat.two_pow_pos 63)]
  have h3 : a / 2 ^ 63 = 0 ∨ a / 2 ^ 63 = 1 := by omega
  generalize a ^^^ 2 ^ 63 = t at h1 h2
  rcases h3 with h3 | h3
  · rw [h3] at h2
    have h2 : t / 2 ^ 63 = 1 := h2
    omega
  · rw [h3] at h2
    have h2 : t / 2 ^ 63 = 0 := h2
    omega
theorem uN_xor (x : Int64) : uN (x ^^^ (-9223372036854775808)) = (uN x + 9223372036854775808) % 18446744073709551616 := by
  rw [← nat_xor (uN_lt x)]
  exact UInt64.toNat_xor _ _
theorem uN_int (x : Int64) : x.toInt = if 2 * uN x < 18446744073709551616 then (uN x : Int) else (uN x : Int) - 18446744073709551616 := BitVec.toInt_eq_toNat_cond _
theorem uN_le (x y : Int64) : (x ^^^ (-9223372036854775808)) ≤ (y ^^^ (-9223372036854775808)) ↔ uN x ≤ uN y := by
  have hx := uN_lt x
  have hy := uN_lt y
  rw [Int64.le_iff_toInt_le, uN_int, uN_int, uN_xor, uN_xor]
  omega
theorem uN_sk (x : Int64) {k : Nat} (hk : k < 64) : uN (x.toUInt64 >>> ((nI k).toInt64.toUInt64 &&& Int64.toUInt64 63)).toInt64 = uN x / 2 ^ k := by
  have h : ((nI k).toInt64.toUInt64 &&& Int64.toUInt64 63).toNat % 64 = k := by
    rw [nI_l (by omega), UInt64.toNat_and]
    have e : (lN k).toUInt64.toNat = k % 2 ^ 64 := rfl
    have e2 : (Int64.toUInt64 63).toNat = 2 ^ 6 - 1 := by decide
    rw [e, e2, Nat.and_two_pow_sub_one_eq_mod]
    omega
  rw [uN_shr, h]
/-! ===== unsigned comparison by xor with the least ===== -/
theorem lN_bv (n : Nat) : (lN n).toBitVec = BitVec.ofNat 64 n := rfl
theorem lN_nat {n : Nat} (h : n < 2 ^ 64) : (lN n).toBitVec.toNat = n := by rw [lN_bv, BitVec.toNat_ofNat]; exact Nat.mod_eq_of_lt h
theorem lN_xor (a b : Nat) : lN a ^^^ lN b = lN (a ^^^ b) := by
  apply Int64.toBitVec_inj.mp; rw [Int64.toBitVec_xor, lN_bv, lN_bv, lN_bv]; apply BitVec.eq_of_getLsbD_eq; intro i hi; simp [BitVec.getLsbD_ofNat, Nat.testBit_xor, hi]
theorem lN_ti {m : Nat} (h : m < 2 ^ 64) : (lN m).toInt = if m < 2 ^ 63 then (m : Int) else (m : Int) - 2 ^ 64 := by
  have c := BitVec.toInt_eq_toNat_cond (lN m).toBitVec
  rw [lN_nat h] at c
  show (lN m).toBitVec.toInt = _
  rw [c]
  split <;> split <;> omega
theorem xor63 {x : Nat} (h : x < 2 ^ 63) : x ^^^ 2 ^ 63 = 2 ^ 63 + x := by
  apply Nat.eq_of_testBit_eq
  intro i
  rw [Nat.testBit_xor, Nat.testBit_two_pow]
  rcases Nat.lt_trichotomy i 63 with z | z | z
  · rw [Nat.testBit_two_pow_add_gt z, decide_eq_false (by omega)]; simp
  · subst z; rw [Nat.testBit_two_pow_add_eq]; simp
  · have hp : 2 ^ 64 ≤ 2 ^ i := Nat.pow_le_pow_right (by decide) z
    rw [Nat.testBit_lt_two_pow (show x < 2 ^ i by omega), Nat.testBit_lt_two_pow (show 2 ^ 63 + x < 2 ^ i by omega), decide_eq_false (by omega)]; rfl
theorem xorS {a : Nat} (h : a < 2 ^ 64) : (lN a ^^^ (-9223372036854775808)).toInt = (a : Int) - 2 ^ 63 := by
  rw [show (-9223372036854775808 : Int64) = lN (2 ^ 63) from by decide +kernel, lN_xor]
  rcases Nat.lt_or_ge a (2 ^ 63) with z | z
  · rw [xor63 z, lN_ti (by omega), if_neg (by omega)]; omega
  · obtain ⟨x, rfl⟩ : ∃ x, a = 2 ^ 63 + x := ⟨a - 2 ^ 63, by omega⟩
    rw [← xor63 (by omega), Nat.xor_assoc, Nat.xor_self, Nat.xor_zero, lN_ti (by omega), if_pos (by omega), xor63 (by omega)]; omega
theorem ultL {a b : Nat} (ha : a < 2 ^ 64) (hb : b < 2 ^ 64) : ((lN b ^^^ (-9223372036854775808)) ≤ (lN a ^^^ (-9223372036854775808))) ↔ b ≤ a := by
  rw [Int64.le_iff_toInt_le, xorS ha, xorS hb]; omega
/-! ===== Int64 masks of n low bits ===== -/
theorem cr_bits (W U M : BitVec 64) : ((W &&& U) &&& (U &&& (M ^^^ BitVec.allOnes 64))) = 0#64 ↔ (W &&& U) &&& M = W &&& U := by
  constructor
  · intro h
    apply BitVec.eq_of_getLsbD_eq
    intro i hi
    have e := congrArg (fun x => BitVec.getLsbD x i) h
    simp only [BitVec.getLsbD_and, BitVec.getLsbD_xor, BitVec.getLsbD_allOnes, BitVec.getLsbD_zero, hi, decide_true] at e ⊢
    revert e
    cases W.getLsbD i <;> cases U.getLsbD i <;> cases M.getLsbD i <;> decide
  · intro h
    apply BitVec.eq_of_getLsbD_eq
    intro i hi
    have e := congrArg (fun x => BitVec.getLsbD x i) h
    simp only [BitVec.getLsbD_and, BitVec.getLsbD_xor, BitVec.getLsbD_allOnes, BitVec.getLsbD_zero, hi, decide_true] at e ⊢
    revert e
    cases W.getLsbD i <;> cases U.getLsbD i <;> cases M.getLsbD i <;> decide
theorem cr_mask (w U m : Int64) (n : Nat) (hm : m.toBitVec.toNat = 2 ^ n - 1) : ((w &&& U) &&& (U &&& (m ^^^ (-1)))) = 0 ↔ (w &&& U).toBitVec.toNat < 2 ^ n := by
  have e0 : (-1 : Int64).toBitVec = BitVec.allOnes 64 := by decide
  have z0 : (0 : Int64).toBitVec = 0#64 := by decide
  rw [← Int64.toBitVec_inj, z0, Int64.toBitVec_and, Int64.toBitVec_and, Int64.toBitVec_and, Int64.toBitVec_xor, e0, cr_bits]
  generalize w.toBitVec &&& U.toBitVec = T
  rw [← BitVec.toNat_inj, BitVec.toNat_and, hm, Nat.and_two_pow_sub_one_eq_mod]
  constructor
  · intro h
    have t := Nat.mod_lt T.toNat (Nat.two_pow_pos n)
    rw [h] at t
    exact t
  · exact Nat.mod_eq_of_lt
theorem cr_shr (t : Int64) (x : UInt64) (n : Nat) (hx : x.toNat % 64 = n) : (t.toUInt64 >>> x).toInt64 = 0 ↔ t.toBitVec.toNat < 2 ^ n := by
  rw [← Int64.toBitVec_inj, ← BitVec.toNat_inj]
  show (t.toUInt64 >>> x).toNat = 0 ↔ t.toUInt64.toNat < 2 ^ n
  rw [UInt64.toNat_shiftRight, hx, Nat.shiftRight_eq_div_pow]
  constructor
  · intro h
    have d : t.toUInt64.toNat / 2 ^ n < 1 := by
      rw [h]
      decide
    have e := (Nat.div_lt_iff_lt_mul (Nat.two_pow_pos n)).mp d
    rw [Nat.one_mul] at e
    exact e
  · exact Nat.div_eq_of_lt
theorem cr_amt (s : Int64) : ∃ n, n < 64 ∧ s &&& 63 = lN n ∧ (s.toUInt64 &&& Int64.toUInt64 63).toNat % 64 = n := by
  have e : (s.toUInt64 &&& Int64.toUInt64 63).toNat = s.toUInt64.toNat % 2 ^ 6 := by
    rw [UInt64.toNat_and, show (Int64.toUInt64 63).toNat = 2 ^ 6 - 1 from by decide, Nat.and_two_pow_sub_one_eq_mod]
  refine ⟨s.toUInt64.toNat % 2 ^ 6, by omega, ?_, by omega⟩
  rw [← Int64.toBitVec_inj, ← BitVec.toNat_inj]
  show (s.toUInt64 &&& Int64.toUInt64 63).toNat = (BitVec.ofNat 64 (s.toUInt64.toNat % 2 ^ 6)).toNat
  rw [e, BitVec.toNat_ofNat]
  omega
end
section
/-- a contract's usual end: this value, this memory -/
def vs_ret (v : Option Value) (mem1 : List vs_C) : (Option Value ⊕ Nat) → List vs_C → Prop := fun r mem' => r = .inl v ∧ mem' = mem1
theorem vs_ret_no {v : Option Value} {mem1 : List vs_C} : ∀ k mem', ¬ vs_ret v mem1 (.inr k) mem' := fun _ _ h => by cases h.1
section Calls2
variable {p : Program} {l : Launch} {e : Env} {R : Room} {s : State} {m : MethodId} {args : Array Value} {below : List Frame} {meth : Method} {c : Code} {b : Nat} {D : va_G} {aC : Nat → ClassId} {nL : Nat} {Q : State → Prop} {kc ks : Nat} {ck : Bool} {mem : List vs_C} {pc : Nat} {lv : List (Option Value)} {st : List Value} {own : String} {cc : ByteArray}
theorem vs_cV (C : vs_X p s m args meth c b D aC own cc nL) {idx n p0 ci mL : Nat} {y : MethodName} {bytes : ByteArray} {rt : Option FieldType} {rm : Room} {As fs : List Value} {tg pu : Bool} {v : Option Value} {mem1 : List vs_C} {st0 : List Value} (hM : vs_M l b D aC tg pu y (.code y bytes mL rt) rm (.ref p0 :: As) mem (vs_ret v mem1)) (hY : vs_Y y bytes mL rt n) (hL : vs_L own idx y) (hi : Cond.instanceMethod y ∈ gT) (hs : Cond.selects y.cls y y ∈ gT) (hd : decode cc pc = .ok (.invokevirtual idx, 3)) (hm : mem[p0]? = some (.inr (ci, fs))) (hci : (vwCl[ci]?).map (fun q => q.1) = some y.cls) (hst : st0 = As.reverse ++ .ref p0 :: st) (hlen : As.length = n) (hn : (st.map fun v => v.category).sum ≤ 8) (hR : rm.frames + 1 ≤ R.frames ∧ 8 + (mL + 11) + rm.locals ≤ R.locals) (hf : kc + rm.cells ≤ R.cells ∧ ks + rm.slots ≤ R.slots) (ht : tg = true → s.heap.size + kc ≤ b + mem.length)
    (kk : vs_G p l e R s m args below meth c b D aC nL Q (kc + rm.cells) (ks + rm.slots) (ck && pu) mem1 (pc + 3) lv (v.toList ++ st)) : vs_G p l e R s m args below meth c b D aC nL Q kc ks ck mem pc lv st0 := by
  subst hst
  refine vs_callV C hM vs_ret_no hY hL hi hs hd hm hci hlen hn hR hf ht ?_
  rintro r mem' ⟨h1, h2⟩
  cases h1
  subst h2
  exact kk
theorem vs_cS (C : vs_X p s m args meth c b D aC own cc nL) {idx n mL : Nat} {y : MethodName} {bytes : ByteArray} {rt : Option FieldType} {rm : Room} {As : List Value} {tg pu : Bool} {v : Option Value} {mem1 : List vs_C} {st0 : List Value} (hM : vs_M l b D aC tg pu y (.code y bytes mL rt) rm As mem (vs_ret v mem1)) (hY : vs_Y y bytes mL rt n) (hL : vs_L own idx y) (hi : Cond.static y ∈ gT) (hd : decode cc pc = .ok (.invokestatic idx, 3)) (hst : st0 = As.reverse ++ st) (hlen : As.length = n) (hn : (st.map fun v => v.category).sum ≤ 8) (hR : rm.frames + 1 ≤ R.frames ∧ 8 + (mL + 11) + rm.locals ≤ R.locals) (hf : kc + rm.cells ≤ R.cells ∧ ks + rm.slots ≤ R.slots) (ht : tg = true → s.heap.size + kc ≤ b + mem.length)
    (kk : vs_G p l e R s m args below meth c b D aC nL Q (kc + rm.cells) (ks + rm.slots) (ck && pu) mem1 (pc + 3) lv (v.toList ++ st)) : vs_G p l e R s m args below meth c b D aC nL Q kc ks ck mem pc lv st0 := by
  subst hst
  refine vs_callS C hM vs_ret_no hY hL hi hd hlen hn hR hf ht ?_
  rintro r mem' ⟨h1, h2⟩
  cases h1
  subst h2
  exact kk
theorem vs_mem_eq {mem2 : List vs_C} (h : mem2 = mem) (k : vs_G p l e R s m args below meth c b D aC nL Q kc ks ck mem2 pc lv st) : vs_G p l e R s m args below meth c b D aC nL Q kc ks ck mem pc lv st := h ▸ k
theorem vs_ck {ck' : Bool} (k : vs_G p l e R s m args below meth c b D aC nL Q kc ks false mem pc lv st) : vs_G p l e R s m args below meth c b D aC nL Q kc ks ck' mem pc lv st := fun H locs ls hP hS _ hl => k H locs ls hP hS (fun h => by cases h) hl
theorem vs_st_eq {st2 : List Value} (h : st2 = st) (k : vs_G p l e R s m args below meth c b D aC nL Q kc ks ck mem pc lv st2) : vs_G p l e R s m args below meth c b D aC nL Q kc ks ck mem pc lv st := h ▸ k
theorem vs_lv_eq {lv2 : List (Option Value)} (h : lv2 = lv) (k : vs_G p l e R s m args below meth c b D aC nL Q kc ks ck mem pc lv2 st) : vs_G p l e R s m args below meth c b D aC nL Q kc ks ck mem pc lv st := h ▸ k
end Calls2
end
section
/-- 0 and 1 for a condition -/
def b01 (c : Prop) [Decidable c] : Int32 := if c then 1 else 0
theorem b01_t {c : Prop} [Decidable c] (h : c) : b01 c = 1 := if_pos h
theorem b01_f {c : Prop} [Decidable c] (h : ¬ c) : b01 c = 0 := if_neg h
theorem b01_0 {c : Prop} [Decidable c] : b01 c = 0 ↔ ¬ c := by
  by_cases h : c
  · rw [b01_t h]; exact ⟨(fun q => absurd q (by decide)), fun q => absurd h q⟩
  · rw [b01_f h]; exact ⟨fun _ => h, fun _ => rfl⟩
theorem vs_rti {x y : Int32} {m1 : List vs_C} (h : x = y) : vs_ret (some (.int y)) m1 (.inl (some (.int x))) m1 := ⟨by rw [h], rfl⟩
set_option maxRecDepth 100000 in
set_option maxHeartbeats 4000000 in
theorem k_X_isBelow (l : Launch) (b : Nat) (D : va_G) (aC : Nat → ClassId) (S : vs_S) (n k : Int32) : vs_M l b D aC false true y_X_isBelow (.code y_X_isBelow c_X_isBelow 2 (Option.some Jvm.ClassFile.FieldType.boolean)) { frames := 0, cells := 0, slots := 0, locals := 0 } [.int n, .int k] (vs_mem S) (vs_ret (some (.int (b01 (0 ≤ n ∧ n < k)))) (vs_mem S)) := by
  refine vs_M.of (by decide) (Nat.le_of_ble_eq_true rfl) ?_
  intro p e s m args below meth c C hmn hr hx htg
  generalize hQ : vs_E below args s b D aC false true (vs_ret (some (.int (b01 (0 ≤ n ∧ n < k)))) (vs_mem S)) { frames := 0, cells := 0, slots := 0, locals := 0 } = Q
  refine vs_iload_n C rfl d_X_isBelow_0 ?_
  refine vs_if_lt (tgt := 13) C d_X_isBelow_1 (by decide) (fun h1 => ?_) (fun h1 => ?_)
  · refine vs_iconst (v := 0) C (by decide) d_X_isBelow_13 ?_
    subst hQ
    exact vs_zret C hr (by rfl) d_X_isBelow_14 ⟨Nat.le_of_ble_eq_true rfl, Nat.le_of_ble_eq_true rfl⟩ (fun h => by cases h) (by first | exact (fun _ => rfl) | exact (fun h => by cases h)) (vs_rti (show (0 : Int32) = b01 (0 ≤ n ∧ n < k) from (if_neg (fun h => absurd h1 (Int32.not_lt.mpr h.1))).symm))
  · refine vs_iload_n C rfl d_X_isBelow_4 ?_
    refine vs_iload_n C rfl d_X_isBelow_5 ?_
    refine vs_icmp_ge (tgt := 13) C d_X_isBelow_6 (by decide) (fun h2 => ?_) (fun h2 => ?_)
    · refine vs_iconst (v := 0) C (by decide) d_X_isBelow_13 ?_
      subst hQ
      exact vs_zret C hr (by rfl) d_X_isBelow_14 ⟨Nat.le_of_ble_eq_true rfl, Nat.le_of_ble_eq_true rfl⟩ (fun h => by cases h) (by first | exact (fun _ => rfl) | exact (fun h => by cases h)) (vs_rti (show (0 : Int32) = b01 (0 ≤ n ∧ n < k) from (if_neg (fun h => absurd h2 (Int32.not_le.mpr h.2))).symm))
    · refine vs_iconst (v := 1) C (by decide) d_X_isBelow_9 ?_
      refine vs_goto (tgt := 14) C d_X_isBelow_10 (by decide) ?_
      subst hQ
      exact vs_zret C hr (by rfl) d_X_isBelow_14 ⟨Nat.le_of_ble_eq_true rfl, Nat.le_of_ble_eq_true rfl⟩ (fun h => by cases h) (by first | exact (fun _ => rfl) | exact (fun h => by cases h)) (vs_rti (show (1 : Int32) = b01 (0 ≤ n ∧ n < k) from (if_pos ⟨Int32.not_lt.mp h1, Int32.not_le.mp h2⟩).symm))
set_option maxRecDepth 100000 in
set_option maxHeartbeats 4000000 in
theorem k_M_in (l : Launch) (b : Nat) (D : va_G) (aC : Nat → ClassId) (S : vs_S) (n lo hi : Int32) : vs_M l b D aC false true y_M_in (.code y_M_in c_M_in 3 (Option.some Jvm.ClassFile.FieldType.boolean)) { frames := 0, cells := 0, slots := 0, locals := 0 } [.int n, .int lo, .int hi] (vs_mem S) (vs_ret (some (.int (b01 (lo ≤ n ∧ n ≤ hi)))) (vs_mem S)) := by
  refine vs_M.of (by decide) (Nat.le_of_ble_eq_true rfl) ?_
  intro p e s m args below meth c C hmn hr hx htg
  generalize hQ : vs_E below args s b D aC false true (vs_ret (some (.int (b01 (lo ≤ n ∧ n ≤ hi)))) (vs_mem S)) { frames := 0, cells := 0, slots := 0, locals := 0 } = Q
  refine vs_iload_n C rfl d_M_in_0 ?_
  refine vs_iload_n C rfl d_M_in_1 ?_
  refine vs_icmp_lt (tgt := 14) C d_M_in_2 (by decide) (fun h1 => ?_) (fun h1 => ?_)
  · refine vs_iconst (v := 0) C (by decide) d_M_in_14 ?_
    subst hQ
    exact vs_zret C hr (by rfl) d_M_in_15 ⟨Nat.le_of_ble_eq_true rfl, Nat.le_of_ble_eq_true rfl⟩ (fun h => by cases h) (by first | exact (fun _ => rfl) | exact (fun h => by cases h)) (vs_rti (show (0 : Int32) = b01 (lo ≤ n ∧ n ≤ hi) from (if_neg (fun h => absurd h1 (Int32.not_lt.mpr h.1))).symm))
  · refine vs_iload_n C rfl d_M_in_5 ?_
    refine vs_iload_n C rfl d_M_in_6 ?_
    refine vs_icmp_gt (tgt := 14) C d_M_in_7 (by decide) (fun h2 => ?_) (fun h2 => ?_)
    · refine vs_iconst (v := 0) C (by decide) d_M_in_14 ?_
      subst hQ
      exact vs_zret C hr (by rfl) d_M_in_15 ⟨Nat.le_of_ble_eq_true rfl, Nat.le_of_ble_eq_true rfl⟩ (fun h => by cases h) (by first | exact (fun _ => rfl) | exact (fun h => by cases h)) (vs_rti (show (0 : Int32) = b01 (lo ≤ n ∧ n ≤ hi) from (if_neg (fun h => absurd h2 (Int32.not_lt.mpr h.2))).symm))
    · refine vs_iconst (v := 1) C (by decide) d_M_in_10 ?_
      refine vs_goto (tgt := 15) C d_M_in_11 (by decide) ?_
      subst hQ
      exact vs_zret C hr (by rfl) d_M_in_15 ⟨Nat.le_of_ble_eq_true rfl, Nat.le_of_ble_eq_true rfl⟩ (fun h => by cases h) (by first | exact (fun _ => rfl) | exact (fun h => by cases h)) (vs_rti (show (1 : Int32) = b01 (lo ≤ n ∧ n ≤ hi) from (if_pos ⟨Int32.not_lt.mp h1, Int32.not_lt.mp h2⟩).symm))
set_option maxRecDepth 100000 in
set_option maxHeartbeats 4000000 in
theorem k_M_thrown (l : Launch) (b : Nat) (D : va_G) (aC : Nat → ClassId) (S : vs_S)  : vs_M l b D aC false true y_M_thrown (.code y_M_thrown c_M_thrown 1 (Option.some Jvm.ClassFile.FieldType.int)) { frames := 0, cells := 0, slots := 0, locals := 0 } [.ref 35] (vs_mem S) (vs_ret (some (.int (S.2.2.2.2.1 35 39))) (vs_mem S)) := by
  refine vs_M.of (by decide) (Nat.le_of_ble_eq_true rfl) ?_
  intro p e s m args below meth c C hmn hr hx htg
  generalize hQ : vs_E below args s b D aC false true (vs_ret (some (.int (S.2.2.2.2.1 35 39))) (vs_mem S)) { frames := 0, cells := 0, slots := 0, locals := 0 } = Q
  refine vs_aload_n C rfl d_M_thrown_0 ?_
  refine vs_get C fl_M_94 d_M_thrown_1 rfl rfl ?_
  subst hQ
  exact vs_iret C hr d_M_thrown_4 ⟨Nat.le_of_ble_eq_true rfl, Nat.le_of_ble_eq_true rfl⟩ (fun h => by cases h) (by first | exact (fun _ => rfl) | exact (fun h => by cases h)) (⟨rfl, rfl⟩)
set_option maxRecDepth 100000 in
set_option maxHeartbeats 4000000 in
theorem k_M_fail (l : Launch) (b : Nat) (D : va_G) (aC : Nat → ClassId) (S : vs_S) (k : Int32) : vs_M l b D aC false false y_M_fail (.code y_M_fail c_M_fail 2 (Option.some Jvm.ClassFile.FieldType.int)) { frames := 0, cells := 0, slots := 0, locals := 0 } [.ref 35, .int k] (vs_mem S) (vs_ret (some (.int 0)) (vs_mem (vs_ui S 35 39 k))) := by
  refine vs_M.of (by decide) (Nat.le_of_ble_eq_true rfl) ?_
  intro p e s m args below meth c C hmn hr hx htg
  generalize hQ : vs_E below args s b D aC false false (vs_ret (some (.int 0)) (vs_mem (vs_ui S 35 39 k))) { frames := 0, cells := 0, slots := 0, locals := 0 } = Q
  refine vs_aload_n C rfl d_M_fail_0 ?_
  refine vs_iload_n C rfl d_M_fail_1 ?_
  refine vs_put C fl_M_94 d_M_fail_2 rfl rfl rfl (Nat.le_of_ble_eq_true rfl) ?_
  refine vs_iconst (v := 0) C (by decide) d_M_fail_5 ?_
  subst hQ
  exact vs_iret C hr d_M_fail_6 ⟨Nat.le_of_ble_eq_true rfl, Nat.le_of_ble_eq_true rfl⟩ (fun h => by cases h) (by first | exact (fun _ => rfl) | exact (fun h => by cases h)) (⟨rfl, rfl⟩)
set_option maxRecDepth 100000 in
set_option maxHeartbeats 4000000 in
theorem k_X_clear (l : Launch) (b : Nat) (D : va_G) (aC : Nat → ClassId) (S : vs_S)  : vs_M l b D aC false false y_X_clear (.code y_X_clear c_X_clear 2 (Option.some Jvm.ClassFile.FieldType.int)) { frames := 0, cells := 0, slots := 0, locals := 0 } [.ref 0] (vs_mem S) (vs_ret (some (.int (S.2.2.2.2.1 10 6))) (vs_mem (vs_ui S 10 6 0))) := by
  refine vs_M.of (by decide) (Nat.le_of_ble_eq_true rfl) ?_
  intro p e s m args below meth c C hmn hr hx htg
  generalize hQ : vs_E below args s b D aC false false (vs_ret (some (.int (S.2.2.2.2.1 10 6))) (vs_mem (vs_ui S 10 6 0))) { frames := 0, cells := 0, slots := 0, locals := 0 } = Q
  refine vs_aload_n C rfl d_X_clear_0 ?_
  refine vs_get C fl_X_26 d_X_clear_1 rfl rfl ?_
  refine vs_get C fl_X_176 d_X_clear_4 rfl rfl ?_
  refine vs_istore_n C d_X_clear_7 (by decide) ?_
  refine vs_aload_n C rfl d_X_clear_8 ?_
  refine vs_get C fl_X_26 d_X_clear_9 rfl rfl ?_
  refine vs_iconst (v := 0) C (by decide) d_X_clear_12 ?_
  refine vs_put C fl_X_176 d_X_clear_13 rfl rfl rfl (Nat.le_of_ble_eq_true rfl) ?_
  refine vs_iload_n C rfl d_X_clear_16 ?_
  subst hQ
  exact vs_iret C hr d_X_clear_17 ⟨Nat.le_of_ble_eq_true rfl, Nat.le_of_ble_eq_true rfl⟩ (fun h => by cases h) (by first | exact (fun _ => rfl) | exact (fun h => by cases h)) (⟨rfl, rfl⟩)
set_option maxRecDepth 100000 in
set_option maxHeartbeats 4000000 in
theorem k_M_clear (l : Launch) (b : Nat) (D : va_G) (aC : Nat → ClassId) (S : vs_S)  : vs_M l b D aC false false y_M_clear (.code y_M_clear c_M_clear 2 (Option.some Jvm.ClassFile.FieldType.int)) { frames := 0, cells := 0, slots := 0, locals := 0 } [.ref 35] (vs_mem S) (vs_ret (some (.int (S.2.2.2.2.1 35 31))) (vs_mem (vs_ui (vs_ui S 35 39 0) 35 31 0))) := by
  refine vs_M.of (by decide) (Nat.le_of_ble_eq_true rfl) ?_
  intro p e s m args below meth c C hmn hr hx htg
  generalize hQ : vs_E below args s b D aC false false (vs_ret (some (.int (S.2.2.2.2.1 35 31))) (vs_mem (vs_ui (vs_ui S 35 39 0) 35 31 0))) { frames := 0, cells := 0, slots := 0, locals := 0 } = Q
  refine vs_aload_n C rfl d_M_clear_0 ?_
  refine vs_iconst (v := 0) C (by decide) d_M_clear_1 ?_
  refine vs_put C fl_M_94 d_M_clear_2 rfl rfl rfl (Nat.le_of_ble_eq_true rfl) ?_
  refine vs_aload_n C rfl d_M_clear_5 ?_
  refine vs_get C fl_M_146 d_M_clear_6 rfl rfl ?_
  refine vs_istore_n C d_M_clear_9 (by decide) ?_
  refine vs_aload_n C rfl d_M_clear_10 ?_
  refine vs_iconst (v := 0) C (by decide) d_M_clear_11 ?_
  refine vs_put C fl_M_146 d_M_clear_12 rfl rfl rfl (Nat.le_of_ble_eq_true rfl) ?_
  refine vs_iload_n C rfl d_M_clear_15 ?_
  subst hQ
  exact vs_iret C hr d_M_clear_16 ⟨Nat.le_of_ble_eq_true rfl, Nat.le_of_ble_eq_true rfl⟩ (fun h => by cases h) (by first | exact (fun _ => rfl) | exact (fun h => by cases h)) (⟨rfl, rfl⟩)
end
section
theorem n_ge {i N : Nat} {x y : Int32} (h : x ≤ y) (hx : x = nI N) (hy : y = nI i) (hN : N < 2 ^ 31) (hi : i < 2 ^ 31) : N ≤ i := by
  subst hx; subst hy
  exact (nI_leI hN hi).mp h
theorem n_lt {i N : Nat} {x y : Int32} (h : ¬ x ≤ y) (hx : x = nI N) (hy : y = nI i) (hN : N < 2 ^ 31) (hi : i < 2 ^ 31) : i < N := by
  subst hx; subst hy
  rcases Nat.lt_or_ge i N with q | q
  · exact q
  · exact absurd ((nI_leI hN hi).mpr q) h
/-- the TOKENS, as the class adds them up -/
def tk_s (g : Nat → Int32) (i : Nat) (t : Int32) : Int32 := if ((t.toUInt32 >>> ((nI i).toUInt32 &&& Int32.toUInt32 31)).toInt32 &&& 1) = 0 then t else t ||| g i
def tk_i (g : Nat → Int32) : Nat → Int32 → Int32
  | 0, t => t
  | i + 1, t => tk_s g i (tk_i g i t)
def tk_o (g : Nat → Int32) : Nat → Int32 → Int32
  | 0, t => t
  | r + 1, t => tk_i g 16 (tk_o g r t)
section TokNow
variable {p : Program} {l : Launch} {e : Env} {R : Room} {s : State} {m : MethodId} {args : Array Value} {below : List Frame} {meth : Method} {c : Code} {b : Nat} {D : va_G} {aC : Nat → ClassId} {Q : State → Prop} {kc ks : Nat} {ck : Bool}
theorem tokNow_i (C : vs_X p s m args meth c b D aC "VeilSearch$Rights" c_R_tokensOf 5) (S : vs_S) (u r t0 : Int32) (K : vs_G p l e R s m args below meth c b D aC 5 Q kc ks ck (vs_mem S) 47 [some (.ref 20), some (.int u), some (.int (tk_i (S.1 21) 16 t0)), some (.int r), some (.int (nI 16))] []) : ∀ n i : Nat, i ≤ 16 → 16 - i < n → vs_G p l e R s m args below meth c b D aC 5 Q kc ks ck (vs_mem S) 15 [some (.ref 20), some (.int u), some (.int (tk_i (S.1 21) i t0)), some (.int r), some (.int (nI i))] [] := by
  intro n
  induction n with
  | zero => intro i _ h; omega
  | succ n ih =>
    intro i hi hn
    refine vs_iload C rfl d_R_tokensOf_15 ?_
    refine vs_bipush (v := 16) C (by decide) d_R_tokensOf_17 ?_
    refine vs_icmp_ge (tgt := 47) C d_R_tokensOf_19 (by decide) (fun h1 => ?_) (fun h1 => ?_)
    · have h2 := n_ge (N := 16) (i := i) h1 rfl rfl (by decide) (by omega)
      obtain rfl : i = 16 := by omega
      exact K
    · have hlt := n_lt (N := 16) (i := i) h1 rfl rfl (by decide) (by omega)
      refine vs_iload_n C rfl d_R_tokensOf_22 ?_
      refine vs_iload C rfl d_R_tokensOf_23 ?_
      refine vs_iushr C d_R_tokensOf_25 ?_
      refine vs_iconst (v := 1) C (by decide) d_R_tokensOf_26 ?_
      refine vs_iand C d_R_tokensOf_27 ?_
      refine vs_if_eq (tgt := 41) C d_R_tokensOf_28 (by decide) (fun h2 => ?_) (fun h2 => ?_)
      · refine vs_iinc C d_R_tokensOf_41 rfl (nI_1 i) (by decide) ?_
        refine vs_goto (tgt := 15) C d_R_tokensOf_44 (by decide) ?_
        have e : tk_i (S.1 21) (i + 1) t0 = tk_i (S.1 21) i t0 := if_pos h2
        have := ih (i + 1) (by omega) (by omega)
        rw [e] at this
        exact this
      · refine vs_iload_n C rfl d_R_tokensOf_31 ?_
        refine vs_aload_n C rfl d_R_tokensOf_32 ?_
        refine vs_get C fl_R_9 d_R_tokensOf_33 rfl rfl ?_
        refine vs_iload C rfl d_R_tokensOf_36 ?_
        refine vs_ialdN C d_R_tokensOf_38 rfl (rfl) (hlt) (by decide) ?_
        refine vs_ior C d_R_tokensOf_39 ?_
        refine vs_istore_n C d_R_tokensOf_40 (by decide) ?_
        refine vs_iinc C d_R_tokensOf_41 rfl (nI_1 i) (by decide) ?_
        refine vs_goto (tgt := 15) C d_R_tokensOf_44 (by decide) ?_
        have e : tk_i (S.1 21) (i + 1) t0 = tk_i (S.1 21) i t0 ||| S.1 21 i := if_neg h2
        have := ih (i + 1) (by omega) (by omega)
        rw [e] at this
        exact this
theorem tokNow_o (C : vs_X p s m args meth c b D aC "VeilSearch$Rights" c_R_tokensOf 5) (S : vs_S) (u t0 : Int32) (K : ∀ o, vs_G p l e R s m args below meth c b D aC 5 Q kc ks ck (vs_mem S) 53 [some (.ref 20), some (.int u), some (.int (tk_o (S.1 21) 8 t0)), some (.int (nI 8)), o] []) : ∀ n r : Nat, r ≤ 8 → 8 - r < n → ∀ o, vs_G p l e R s m args below meth c b D aC 5 Q kc ks ck (vs_mem S) 6 [some (.ref 20), some (.int u), some (.int (tk_o (S.1 21) r t0)), some (.int (nI r)), o] [] := by
  intro n
  induction n with
  | zero => intro r _ h; omega
  | succ n ih =>
    intro r hi hn o
    refine vs_iload_n C rfl d_R_tokensOf_6 ?_
    refine vs_bipush (v := 8) C (by decide) d_R_tokensOf_7 ?_
    refine vs_icmp_ge (tgt := 53) C d_R_tokensOf_9 (by decide) (fun h1 => ?_) (fun h1 => ?_)
    · have h2 := n_ge (N := 8) (i := r) h1 rfl rfl (by decide) (by omega)
      obtain rfl : r = 8 := by omega
      exact K o
    · have hlt := n_lt (N := 8) (i := r) h1 rfl rfl (by decide) (by omega)
      refine vs_iconst (v := 0) C (by decide) d_R_tokensOf_12 ?_
      refine vs_istore C d_R_tokensOf_13 (by decide) ?_
      refine tokNow_i C S u (nI r) (tk_o (S.1 21) r t0) ?_ 17 0 (by decide) (by decide)
      refine vs_iinc C d_R_tokensOf_47 rfl (nI_1 r) (by decide) ?_
      refine vs_goto (tgt := 6) C d_R_tokensOf_50 (by decide) ?_
      exact ih (r + 1) (by omega) (by omega) (some (.int (nI 16)))
end TokNow
set_option maxRecDepth 100000 in
set_option maxHeartbeats 4000000 in
theorem k_R_tokensOf_Now (l : Launch) (b : Nat) (D : va_G) (aC : Nat → ClassId) (S : vs_S) (u : Int32) : vs_M l b D aC false true y_R_tokensOf (.code y_R_tokensOf c_R_tokensOf 5 (Option.some Jvm.ClassFile.FieldType.int)) { frames := 0, cells := 0, slots := 0, locals := 0 } [.ref 20, .int u] (vs_mem S) (vs_ret (some (.int (tk_o (S.1 21) 8 (1 <<< (u &&& 31))))) (vs_mem S)) := by
  refine vs_M.of (by decide) (Nat.le_of_ble_eq_true rfl) ?_
  intro p e s m args below meth c C hmn hr hx htg
  generalize hQ : vs_E below args s b D aC false true (vs_ret (some (.int (tk_o (S.1 21) 8 (1 <<< (u &&& 31))))) (vs_mem S)) { frames := 0, cells := 0, slots := 0, locals := 0 } = Q
  refine vs_iconst (v := 1) C (by decide) d_R_tokensOf_0 ?_
  refine vs_iload_n C rfl d_R_tokensOf_1 ?_
  refine vs_ishl C d_R_tokensOf_2 ?_
  refine vs_istore_n C d_R_tokensOf_3 (by decide) ?_
  refine vs_iconst (v := 0) C (by decide) d_R_tokensOf_4 ?_
  refine vs_istore_n C d_R_tokensOf_5 (by decide) ?_
  refine tokNow_o C S u (1 <<< (u &&& 31)) (fun o => ?_) 9 0 (by decide) (by decide) none
  refine vs_iload_n C rfl d_R_tokensOf_53 ?_
  subst hQ
  exact vs_iret C hr d_R_tokensOf_54 ⟨Nat.le_of_ble_eq_true rfl, Nat.le_of_ble_eq_true rfl⟩ (fun h => by cases h) (by first | exact (fun _ => rfl) | exact (fun h => by cases h)) (⟨rfl, rfl⟩)
section TokSeen
variable {p : Program} {l : Launch} {e : Env} {R : Room} {s : State} {m : MethodId} {args : Array Value} {below : List Frame} {meth : Method} {c : Code} {b : Nat} {D : va_G} {aC : Nat → ClassId} {Q : State → Prop} {kc ks : Nat} {ck : Bool}
theorem tokSeen_i (C : vs_X p s m args meth c b D aC "VeilSearch$Rights" c_R_tokensOf 5) (S : vs_S) (u r t0 : Int32) (K : vs_G p l e R s m args below meth c b D aC 5 Q kc ks ck (vs_mem S) 47 [some (.ref 28), some (.int u), some (.int (tk_i (S.1 29) 16 t0)), some (.int r), some (.int (nI 16))] []) : ∀ n i : Nat, i ≤ 16 → 16 - i < n → vs_G p l e R s m args below meth c b D aC 5 Q kc ks ck (vs_mem S) 15 [some (.ref 28), some (.int u), some (.int (tk_i (S.1 29) i t0)), some (.int r), some (.int (nI i))] [] := by
  intro n
  induction n with
  | zero => intro i _ h; omega
  | succ n ih =>
    intro i hi hn
    refine vs_iload C rfl d_R_tokensOf_15 ?_
    refine vs_bipush (v := 16) C (by decide) d_R_tokensOf_17 ?_
    refine vs_icmp_ge (tgt := 47) C d_R_tokensOf_19 (by decide) (fun h1 => ?_) (fun h1 => ?_)
    · have h2 := n_ge (N := 16) (i := i) h1 rfl rfl (by decide) (by omega)
      obtain rfl : i = 16 := by omega
      exact K
    · have hlt := n_lt (N := 16) (i := i) h1 rfl rfl (by decide) (by omega)
      refine vs_iload_n C rfl d_R_tokensOf_22 ?_
      refine vs_iload C rfl d_R_tokensOf_23 ?_
      refine vs_iushr C d_R_tokensOf_25 ?_
      refine vs_iconst (v := 1) C (by decide) d_R_tokensOf_26 ?_
      refine vs_iand C d_R_tokensOf_27 ?_
      refine vs_if_eq (tgt := 41) C d_R_tokensOf_28 (by decide) (fun h2 => ?_) (fun h2 => ?_)
      · refine vs_iinc C d_R_tokensOf_41 rfl (nI_1 i) (by decide) ?_
        refine vs_goto (tgt := 15) C d_R_tokensOf_44 (by decide) ?_
        have e : tk_i (S.1 29) (i + 1) t0 = tk_i (S.1 29) i t0 := if_pos h2
        have := ih (i + 1) (by omega) (by omega)
        rw [e] at this
        exact this
      · refine vs_iload_n C rfl d_R_tokensOf_31 ?_
        refine vs_aload_n C rfl d_R_tokensOf_32 ?_
        refine vs_get C fl_R_9 d_R_tokensOf_33 rfl rfl ?_
        refine vs_iload C rfl d_R_tokensOf_36 ?_
        refine vs_ialdN C d_R_tokensOf_38 rfl (rfl) (hlt) (by decide) ?_
        refine vs_ior C d_R_tokensOf_39 ?_
        refine vs_istore_n C d_R_tokensOf_40 (by decide) ?_
        refine vs_iinc C d_R_tokensOf_41 rfl (nI_1 i) (by decide) ?_
        refine vs_goto (tgt := 15) C d_R_tokensOf_44 (by decide) ?_
        have e : tk_i (S.1 29) (i + 1) t0 = tk_i (S.1 29) i t0 ||| S.1 29 i := if_neg h2
        have := ih (i + 1) (by omega) (by omega)
        rw [e] at this
        exact this
theorem tokSeen_o (C : vs_X p s m args meth c b D aC "VeilSearch$Rights" c_R_tokensOf 5) (S : vs_S) (u t0 : Int32) (K : ∀ o, vs_G p l e R s m args below meth c b D aC 5 Q kc ks ck (vs_mem S) 53 [some (.ref 28), some (.int u), some (.int (tk_o (S.1 29) 8 t0)), some (.int (nI 8)), o] []) : ∀ n r : Nat, r ≤ 8 → 8 - r < n → ∀ o, vs_G p l e R s m args below meth c b D aC 5 Q kc ks ck (vs_mem S) 6 [some (.ref 28), some (.int u), some (.int (tk_o (S.1 29) r t0)), some (.int (nI r)), o] [] := by
  intro n
  induction n with
  | zero => intro r _ h; omega
  | succ n ih =>
    intro r hi hn o
    refine vs_iload_n C rfl d_R_tokensOf_6 ?_
    refine vs_bipush (v := 8) C (by decide) d_R_tokensOf_7 ?_
    refine vs_icmp_ge (tgt := 53) C d_R_tokensOf_9 (by decide) (fun h1 => ?_) (fun h1 => ?_)
    · have h2 := n_ge (N := 8) (i := r) h1 rfl rfl (by decide) (by omega)
      obtain rfl : r = 8 := by omega
      exact K o
    · have hlt := n_lt (N := 8) (i := r) h1 rfl rfl (by decide) (by omega)
      refine vs_iconst (v := 0) C (by decide) d_R_tokensOf_12 ?_
      refine vs_istore C d_R_tokensOf_13 (by decide) ?_
      refine tokSeen_i C S u (nI r) (tk_o (S.1 29) r t0) ?_ 17 0 (by decide) (by decide)
      refine vs_iinc C d_R_tokensOf_47 rfl (nI_1 r) (by decide) ?_
      refine vs_goto (tgt := 6) C d_R_tokensOf_50 (by decide) ?_
      exact ih (r + 1) (by omega) (by omega) (some (.int (nI 16)))
end TokSeen
set_option maxRecDepth 100000 in
set_option maxHeartbeats 4000000 in
theorem k_R_tokensOf_Seen (l : Launch) (b : Nat) (D : va_G) (aC : Nat → ClassId) (S : vs_S) (u : Int32) : vs_M l b D aC false true y_R_tokensOf (.code y_R_tokensOf c_R_tokensOf 5 (Option.some Jvm.ClassFile.FieldType.int)) { frames := 0, cells := 0, slots := 0, locals := 0 } [.ref 28, .int u] (vs_mem S) (vs_ret (some (.int (tk_o (S.1 29) 8 (1 <<< (u &&& 31))))) (vs_mem S)) := by
  refine vs_M.of (by decide) (Nat.le_of_ble_eq_true rfl) ?_
  intro p e s m args below meth c C hmn hr hx htg
  generalize hQ : vs_E below args s b D aC false true (vs_ret (some (.int (tk_o (S.1 29) 8 (1 <<< (u &&& 31))))) (vs_mem S)) { frames := 0, cells := 0, slots := 0, locals := 0 } = Q
  refine vs_iconst (v := 1) C (by decide) d_R_tokensOf_0 ?_
  refine vs_iload_n C rfl d_R_tokensOf_1 ?_
  refine vs_ishl C d_R_tokensOf_2 ?_
  refine vs_istore_n C d_R_tokensOf_3 (by decide) ?_
  refine vs_iconst (v := 0) C (by decide) d_R_tokensOf_4 ?_
  refine vs_istore_n C d_R_tokensOf_5 (by decide) ?_
  refine tokSeen_o C S u (1 <<< (u &&& 31)) (fun o => ?_) 9 0 (by decide) (by decide) none
  refine vs_iload_n C rfl d_R_tokensOf_53 ?_
  subst hQ
  exact vs_iret C hr d_R_tokensOf_54 ⟨Nat.le_of_ble_eq_true rfl, Nat.le_of_ble_eq_true rfl⟩ (fun h => by cases h) (by first | exact (fun _ => rfl) | exact (fun h => by cases h)) (⟨rfl, rfl⟩)
-- FIELD f is OPEN to USER u by THE SNAPSHOT of the class
set_option maxRecDepth 100000 in
set_option maxHeartbeats 4000000 in
theorem k_R_isOpen (l : Launch) (b : Nat) (D : va_G) (aC : Nat → ClassId) (S : vs_S) (f u : Nat) (hf : f < 3) (hu : u < 8) : vs_M l b D aC false true y_R_isOpen (.code y_R_isOpen c_R_isOpen 3 (Option.some Jvm.ClassFile.FieldType.boolean)) { frames := 0, cells := 0, slots := 0, locals := 0 } [.ref 28, .int (nI f), .int (nI u)] (vs_mem S) (vs_ret (some (.int (b01 (¬ S.1 31 u < S.1 30 f)))) (vs_mem S)) := by
  refine vs_M.of (by decide) (Nat.le_of_ble_eq_true rfl) ?_
  intro p e s m args below meth c C hmn hr hx htg
  generalize hQ : vs_E below args s b D aC false true (vs_ret (some (.int (b01 (¬ S.1 31 u < S.1 30 f)))) (vs_mem S)) { frames := 0, cells := 0, slots := 0, locals := 0 } = Q
  refine vs_aload_n C rfl d_R_isOpen_0 ?_
  refine vs_get C fl_R_18 d_R_isOpen_1 rfl rfl ?_
  refine vs_iload_n C rfl d_R_isOpen_4 ?_
  refine vs_ialdN C d_R_isOpen_5 rfl (rfl) (hu) (by decide) ?_
  refine vs_aload_n C rfl d_R_isOpen_6 ?_
  refine vs_get C fl_R_15 d_R_isOpen_7 rfl rfl ?_
  refine vs_iload_n C rfl d_R_isOpen_10 ?_
  refine vs_ialdN C d_R_isOpen_11 rfl (rfl) (hf) (by decide) ?_
  refine vs_icmp_lt (tgt := 19) C d_R_isOpen_12 (by decide) (fun h1 => ?_) (fun h1 => ?_)
  · refine vs_iconst (v := 0) C (by decide) d_R_isOpen_19 ?_
    subst hQ
    exact vs_zret C hr (by rfl) d_R_isOpen_20 ⟨Nat.le_of_ble_eq_true rfl, Nat.le_of_ble_eq_true rfl⟩ (fun h => by cases h) (by first | exact (fun _ => rfl) | exact (fun h => by cases h)) (vs_rti (show (0 : Int32) = b01 (¬ S.1 31 u < S.1 30 f) from (if_neg (fun h => h h1)).symm))
  · refine vs_iconst (v := 1) C (by decide) d_R_isOpen_15 ?_
    refine vs_goto (tgt := 20) C d_R_isOpen_16 (by decide) ?_
    subst hQ
    exact vs_zret C hr (by rfl) d_R_isOpen_20 ⟨Nat.le_of_ble_eq_true rfl, Nat.le_of_ble_eq_true rfl⟩ (fun h => by cases h) (by first | exact (fun _ => rfl) | exact (fun h => by cases h)) (vs_rti (show (1 : Int32) = b01 (¬ S.1 31 u < S.1 30 f) from (if_pos h1).symm))
def jn_v (b g on : Int32) : Int32 := if on = 0 then b &&& ((1 <<< (g &&& 31)) ^^^ (-1)) else b ||| (1 <<< (g &&& 31))
set_option maxRecDepth 100000 in
set_option maxHeartbeats 4000000 in
theorem k_R_join (l : Launch) (b : Nat) (D : va_G) (aC : Nat → ClassId) (S : vs_S) (t : Nat) (g on : Int32) (ht : t < 16) : vs_M l b D aC false false y_R_join (.code y_R_join c_R_join 5 (Option.some Jvm.ClassFile.FieldType.boolean)) { frames := 0, cells := 0, slots := 0, locals := 0 } [.ref 20, .int (nI t), .int g, .int on] (vs_mem S) (vs_ret (some (.int (b01 (¬ jn_v (S.1 21 t) g on = S.1 21 t)))) (vs_mem (vs_uI S 21 (upd (S.1 21) t (jn_v (S.1 21 t) g on))))) := by
  refine vs_M.of (by decide) (Nat.le_of_ble_eq_true rfl) ?_
  intro p e s m args below meth c C hmn hr hx htg
  generalize hQ : vs_E below args s b D aC false false (vs_ret (some (.int (b01 (¬ jn_v (S.1 21 t) g on = S.1 21 t)))) (vs_mem (vs_uI S 21 (upd (S.1 21) t (jn_v (S.1 21 t) g on))))) { frames := 0, cells := 0, slots := 0, locals := 0 } = Q
  refine vs_aload_n C rfl d_R_join_0 ?_
  refine vs_get C fl_R_9 d_R_join_1 rfl rfl ?_
  refine vs_iload_n C rfl d_R_join_4 ?_
  refine vs_ialdN C d_R_join_5 rfl (rfl) (ht) (by decide) ?_
  refine vs_istore C d_R_join_6 (by decide) ?_
  refine vs_aload_n C rfl d_R_join_8 ?_
  refine vs_get C fl_R_9 d_R_join_9 rfl rfl ?_
  refine vs_iload_n C rfl d_R_join_12 ?_
  refine vs_iload_n C rfl d_R_join_13 ?_
  have hend : ∀ v : Int32, v = jn_v (S.1 21 t) g on → vs_G p l e { frames := 0, cells := 0, slots := 0, locals := 0 } s m args below meth c b D aC 5 Q 0 0 true (vs_mem S) 34 [some (.ref 20), some (.int (nI t)), some (.int g), some (.int on), some (.int (S.1 21 t))] [.int v, .int (nI t), .ref 21] := by
    intro v hv
    subst hv
    refine vs_iastN C d_R_join_34 rfl (rfl) (ht) (by decide) ?_
    refine vs_aload_n C rfl d_R_join_35 ?_
    refine vs_get C fl_R_9 d_R_join_36 rfl rfl ?_
    refine vs_iload_n C rfl d_R_join_39 ?_
    refine vs_ialdN C d_R_join_40 rfl (rfl) (ht) (by decide) ?_
    refine vs_iload C rfl d_R_join_41 ?_
    have e : upd (S.1 21) t (jn_v (S.1 21 t) g on) t = jn_v (S.1 21 t) g on := by simp [upd]
    rw [e]
    refine vs_icmp_eq (tgt := 50) C d_R_join_43 (by decide) (fun h1 => ?_) (fun h1 => ?_)
    · refine vs_iconst (v := 0) C (by decide) d_R_join_50 ?_
      subst hQ
      exact vs_zret C hr (by rfl) d_R_join_51 ⟨Nat.le_of_ble_eq_true rfl, Nat.le_of_ble_eq_true rfl⟩ (fun h => by cases h) (by first | exact (fun _ => rfl) | exact (fun h => by cases h)) (vs_rti (show (0 : Int32) = b01 (¬ jn_v (S.1 21 t) g on = S.1 21 t) from (if_neg (fun h => h h1)).symm))
    · refine vs_iconst (v := 1) C (by decide) d_R_join_46 ?_
      refine vs_goto (tgt := 51) C d_R_join_47 (by decide) ?_
      subst hQ
      exact vs_zret C hr (by rfl) d_R_join_51 ⟨Nat.le_of_ble_eq_true rfl, Nat.le_of_ble_eq_true rfl⟩ (fun h => by cases h) (by first | exact (fun _ => rfl) | exact (fun h => by cases h)) (vs_rti (show (1 : Int32) = b01 (¬ jn_v (S.1 21 t) g on = S.1 21 t) from (if_pos h1).symm))
  refine vs_if_eq (tgt := 26) C d_R_join_14 (by decide) (fun h1 => ?_) (fun h1 => ?_)
  · refine vs_iload C rfl d_R_join_26 ?_
    refine vs_iconst (v := 1) C (by decide) d_R_join_28 ?_
    refine vs_iload_n C rfl d_R_join_29 ?_
    refine vs_ishl C d_R_join_30 ?_
    refine vs_iconst (v := (-1)) C (by decide) d_R_join_31 ?_
    refine vs_ixor C d_R_join_32 ?_
    refine vs_iand C d_R_join_33 ?_
    exact hend _ (if_pos h1).symm
  · refine vs_iload C rfl d_R_join_17 ?_
    refine vs_iconst (v := 1) C (by decide) d_R_join_19 ?_
    refine vs_iload_n C rfl d_R_join_20 ?_
    refine vs_ishl C d_R_join_21 ?_
    refine vs_ior C d_R_join_22 ?_
    refine vs_goto (tgt := 34) C d_R_join_23 (by decide) ?_
    exact hend _ (if_neg h1).symm
/-- two rows are the same up to n -/
def eqR (f g : Nat → Int32) : Nat → Bool
  | 0 => true
  | n + 1 => eqR f g n && decide (f n = g n)
theorem eqR_iff {f g : Nat → Int32} : ∀ {n : Nat}, eqR f g n = true ↔ ∀ i, i < n → f i = g i
  | 0 => ⟨fun _ i h => by omega, fun _ => rfl⟩
  | n + 1 => by
    simp only [eqR, Bool.and_eq_true, decide_eq_true_eq, eqR_iff (n := n)]
    constructor
    · rintro ⟨h1, h2⟩ i hi
      rcases Nat.lt_or_ge i n with h | h
      · exact h1 i h
      · have : i = n := by omega
        subst this
        exact h2
    · intro h
      exact ⟨fun i hi => h i (by omega), h n (by omega)⟩
section SameRow
variable {p : Program} {l : Launch} {e : Env} {R : Room} {s : State} {m : MethodId} {args : Array Value} {below : List Frame} {meth : Method} {c : Code} {b : Nat} {D : va_G} {aC : Nat → ClassId} {Q : State → Prop} {kc ks : Nat} {ck : Bool}
theorem same21 (C : vs_X p s m args meth c b D aC "VeilSearch$Rights" c_R_sameRow 3) (S : vs_S) (K0 : ∀ i : Nat, eqR (S.1 21) (S.1 29) 16 = false → vs_G p l e R s m args below meth c b D aC 3 Q kc ks ck (vs_mem S) 24 [some (.ref 21), some (.ref 29), some (.int (nI i))] [.int 0]) (K1 : eqR (S.1 21) (S.1 29) 16 = true → vs_G p l e R s m args below meth c b D aC 3 Q kc ks ck (vs_mem S) 31 [some (.ref 21), some (.ref 29), some (.int (nI 16))] []) : ∀ n i : Nat, i ≤ 16 → 16 - i < n → eqR (S.1 21) (S.1 29) i = true → vs_G p l e R s m args below meth c b D aC 3 Q kc ks ck (vs_mem S) 2 [some (.ref 21), some (.ref 29), some (.int (nI i))] [] := by
  intro n
  induction n with
  | zero => intro i _ h; omega
  | succ n ih =>
    intro i hi hn he
    refine vs_iload_n C rfl d_R_sameRow_2 ?_
    refine vs_aload_n C rfl d_R_sameRow_3 ?_
    refine vs_alen C rfl rfl d_R_sameRow_4 rfl ?_
    refine vs_icmp_ge (tgt := 31) C d_R_sameRow_5 (by decide) (fun h1 => ?_) (fun h1 => ?_)
    · have h2 := n_ge (N := 16) (i := i) h1 rfl rfl (by decide) (by omega)
      obtain rfl : i = 16 := by omega
      exact K1 he
    · have hlt := n_lt (N := 16) (i := i) h1 rfl rfl (by decide) (by omega)
      refine vs_iload_n C rfl d_R_sameRow_8 ?_
      refine vs_aload_n C rfl d_R_sameRow_9 ?_
      refine vs_alen C rfl rfl d_R_sameRow_10 rfl ?_
      refine vs_icmp_ge (tgt := 31) C d_R_sameRow_11 (by decide) (fun h2 => ?_) (fun h2 => ?_)
      · exact absurd h2 h1
      · refine vs_aload_n C rfl d_R_sameRow_14 ?_
        refine vs_iload_n C rfl d_R_sameRow_15 ?_
        refine vs_ialdN C d_R_sameRow_16 rfl (rfl) (hlt) (by decide) ?_
        refine vs_aload_n C rfl d_R_sameRow_17 ?_
        refine vs_iload_n C rfl d_R_sameRow_18 ?_
        refine vs_ialdN C d_R_sameRow_19 rfl (rfl) (hlt) (by decide) ?_
        refine vs_icmp_eq (tgt := 25) C d_R_sameRow_20 (by decide) (fun h3 => ?_) (fun h3 => ?_)
        · refine vs_iinc C d_R_sameRow_25 rfl (nI_1 i) (by decide) ?_
          refine vs_goto (tgt := 2) C d_R_sameRow_28 (by decide) ?_
          exact ih (i + 1) (by omega) (by omega) (by simp [eqR, he, h3])
        · refine vs_iconst (v := 0) C (by decide) d_R_sameRow_23 ?_
          refine K0 i ?_
          cases hq : eqR (S.1 21) (S.1 29) 16 with
          | false => rfl
          | true => exact absurd (eqR_iff.mp hq i hlt) h3
theorem same22 (C : vs_X p s m args meth c b D aC "VeilSearch$Rights" c_R_sameRow 3) (S : vs_S) (K0 : ∀ i : Nat, eqR (S.1 22) (S.1 30) 3 = false → vs_G p l e R s m args below meth c b D aC 3 Q kc ks ck (vs_mem S) 24 [some (.ref 22), some (.ref 30), some (.int (nI i))] [.int 0]) (K1 : eqR (S.1 22) (S.1 30) 3 = true → vs_G p l e R s m args below meth c b D aC 3 Q kc ks ck (vs_mem S) 31 [some (.ref 22), some (.ref 30), some (.int (nI 3))] []) : ∀ n i : Nat, i ≤ 3 → 3 - i < n → eqR (S.1 22) (S.1 30) i = true → vs_G p l e R s m args below meth c b D aC 3 Q kc ks ck (vs_mem S) 2 [some (.ref 22), some (.ref 30), some (.int (nI i))] [] := by
  intro n
  induction n with
  | zero => intro i _ h; omega
  | succ n ih =>
    intro i hi hn he
    refine vs_iload_n C rfl d_R_sameRow_2 ?_
    refine vs_aload_n C rfl d_R_sameRow_3 ?_
    refine vs_alen C rfl rfl d_R_sameRow_4 rfl ?_
    refine vs_icmp_ge (tgt := 31) C d_R_sameRow_5 (by decide) (fun h1 => ?_) (fun h1 => ?_)
    · have h2 := n_ge (N := 3) (i := i) h1 rfl rfl (by decide) (by omega)
      obtain rfl : i = 3 := by omega
      exact K1 he
    · have hlt := n_lt (N := 3) (i := i) h1 rfl rfl (by decide) (by omega)
      refine vs_iload_n C rfl d_R_sameRow_8 ?_
      refine vs_aload_n C rfl d_R_sameRow_9 ?_
      refine vs_alen C rfl rfl d_R_sameRow_10 rfl ?_
      refine vs_icmp_ge (tgt := 31) C d_R_sameRow_11 (by decide) (fun h2 => ?_) (fun h2 => ?_)
      · exact absurd h2 h1
      · refine vs_aload_n C rfl d_R_sameRow_14 ?_
        refine vs_iload_n C rfl d_R_sameRow_15 ?_
        refine vs_ialdN C d_R_sameRow_16 rfl (rfl) (hlt) (by decide) ?_
        refine vs_aload_n C rfl d_R_sameRow_17 ?_
        refine vs_iload_n C rfl d_R_sameRow_18 ?_
        refine vs_ialdN C d_R_sameRow_19 rfl (rfl) (hlt) (by decide) ?_
        refine vs_icmp_eq (tgt := 25) C d_R_sameRow_20 (by decide) (fun h3 => ?_) (fun h3 => ?_)
        · refine vs_iinc C d_R_sameRow_25 rfl (nI_1 i) (by decide) ?_
          refine vs_goto (tgt := 2) C d_R_sameRow_28 (by decide) ?_
          exact ih (i + 1) (by omega) (by omega) (by simp [eqR, he, h3])
        · refine vs_iconst (v := 0) C (by decide) d_R_sameRow_23 ?_
          refine K0 i ?_
          cases hq : eqR (S.1 22) (S.1 30) 3 with
          | false => rfl
          | true => exact absurd (eqR_iff.mp hq i hlt) h3
theorem same23 (C : vs_X p s m args meth c b D aC "VeilSearch$Rights" c_R_sameRow 3) (S : vs_S) (K0 : ∀ i : Nat, eqR (S.1 23) (S.1 31) 8 = false → vs_G p l e R s m args below meth c b D aC 3 Q kc ks ck (vs_mem S) 24 [some (.ref 23), some (.ref 31), some (.int (nI i))] [.int 0]) (K1 : eqR (S.1 23) (S.1 31) 8 = true → vs_G p l e R s m args below meth c b D aC 3 Q kc ks ck (vs_mem S) 31 [some (.ref 23), some (.ref 31), some (.int (nI 8))] []) : ∀ n i : Nat, i ≤ 8 → 8 - i < n → eqR (S.1 23) (S.1 31) i = true → vs_G p l e R s m args below meth c b D aC 3 Q kc ks ck (vs_mem S) 2 [some (.ref 23), some (.ref 31), some (.int (nI i))] [] := by
  intro n
  induction n with
  | zero => intro i _ h; omega
  | succ n ih =>
    intro i hi hn he
    refine vs_iload_n C rfl d_R_sameRow_2 ?_
    refine vs_aload_n C rfl d_R_sameRow_3 ?_
    refine vs_alen C rfl rfl d_R_sameRow_4 rfl ?_
    refine vs_icmp_ge (tgt := 31) C d_R_sameRow_5 (by decide) (fun h1 => ?_) (fun h1 => ?_)
    · have h2 := n_ge (N := 8) (i := i) h1 rfl rfl (by decide) (by omega)
      obtain rfl : i = 8 := by omega
      exact K1 he
    · have hlt := n_lt (N := 8) (i := i) h1 rfl rfl (by decide) (by omega)
      refine vs_iload_n C rfl d_R_sameRow_8 ?_
      refine vs_aload_n C rfl d_R_sameRow_9 ?_
      refine vs_alen C rfl rfl d_R_sameRow_10 rfl ?_
      refine vs_icmp_ge (tgt := 31) C d_R_sameRow_11 (by decide) (fun h2 => ?_) (fun h2 => ?_)
      · exact absurd h2 h1
      · refine vs_aload_n C rfl d_R_sameRow_14 ?_
        refine vs_iload_n C rfl d_R_sameRow_15 ?_
        refine vs_ialdN C d_R_sameRow_16 rfl (rfl) (hlt) (by decide) ?_
        refine vs_aload_n C rfl d_R_sameRow_17 ?_
        refine vs_iload_n C rfl d_R_sameRow_18 ?_
        refine vs_ialdN C d_R_sameRow_19 rfl (rfl) (hlt) (by decide) ?_
        refine vs_icmp_eq (tgt := 25) C d_R_sameRow_20 (by decide) (fun h3 => ?_) (fun h3 => ?_)
        · refine vs_iinc C d_R_sameRow_25 rfl (nI_1 i) (by decide) ?_
          refine vs_goto (tgt := 2) C d_R_sameRow_28 (by decide) ?_
          exact ih (i + 1) (by omega) (by omega) (by simp [eqR, he, h3])
        · refine vs_iconst (v := 0) C (by decide) d_R_sameRow_23 ?_
          refine K0 i ?_
          cases hq : eqR (S.1 23) (S.1 31) 8 with
          | false => rfl
          | true => exact absurd (eqR_iff.mp hq i hlt) h3
end SameRow
set_option maxRecDepth 100000 in
set_option maxHeartbeats 4000000 in
theorem k_R_sameRow21 (l : Launch) (b : Nat) (D : va_G) (aC : Nat → ClassId) (S : vs_S)  : vs_M l b D aC false true y_R_sameRow (.code y_R_sameRow c_R_sameRow 3 (Option.some Jvm.ClassFile.FieldType.boolean)) { frames := 0, cells := 0, slots := 0, locals := 0 } [.ref 21, .ref 29] (vs_mem S) (vs_ret (some (.int (b01 (eqR (S.1 21) (S.1 29) 16 = true)))) (vs_mem S)) := by
  refine vs_M.of (by decide) (Nat.le_of_ble_eq_true rfl) ?_
  intro p e s m args below meth c C hmn hr hx htg
  generalize hQ : vs_E below args s b D aC false true (vs_ret (some (.int (b01 (eqR (S.1 21) (S.1 29) 16 = true)))) (vs_mem S)) { frames := 0, cells := 0, slots := 0, locals := 0 } = Q
  refine vs_iconst (v := 0) C (by decide) d_R_sameRow_0 ?_
  refine vs_istore_n C d_R_sameRow_1 (by decide) ?_
  refine same21 C S (fun i h => ?_) (fun h => ?_) (16 + 1) 0 (by decide) (by decide) rfl
  · subst hQ
    exact vs_zret C hr (by rfl) d_R_sameRow_24 ⟨Nat.le_of_ble_eq_true rfl, Nat.le_of_ble_eq_true rfl⟩ (fun h => by cases h) (by first | exact (fun _ => rfl) | exact (fun h => by cases h)) (vs_rti (show (0 : Int32) = b01 (eqR (S.1 21) (S.1 29) 16 = true) from (if_neg (by rw [h]; decide)).symm))
  · refine vs_iconst (v := 1) C (by decide) d_R_sameRow_31 ?_
    subst hQ
    exact vs_zret C hr (by rfl) d_R_sameRow_32 ⟨Nat.le_of_ble_eq_true rfl, Nat.le_of_ble_eq_true rfl⟩ (fun h => by cases h) (by first | exact (fun _ => rfl) | exact (fun h => by cases h)) (vs_rti (show (1 : Int32) = b01 (eqR (S.1 21) (S.1 29) 16 = true) from (if_pos h).symm))
set_option maxRecDepth 100000 in
set_option maxHeartbeats 4000000 in
theorem k_R_sameRow22 (l : Launch) (b : Nat) (D : va_G) (aC : Nat → ClassId) (S : vs_S)  : vs_M l b D aC false true y_R_sameRow (.code y_R_sameRow c_R_sameRow 3 (Option.some Jvm.ClassFile.FieldType.boolean)) { frames := 0, cells := 0, slots := 0, locals := 0 } [.ref 22, .ref 30] (vs_mem S) (vs_ret (some (.int (b01 (eqR (S.1 22) (S.1 30) 3 = true)))) (vs_mem S)) := by
  refine vs_M.of (by decide) (Nat.le_of_ble_eq_true rfl) ?_
  intro p e s m args below meth c C hmn hr hx htg
  generalize hQ : vs_E below args s b D aC false true (vs_ret (some (.int (b01 (eqR (S.1 22) (S.1 30) 3 = true)))) (vs_mem S)) { frames := 0, cells := 0, slots := 0, locals := 0 } = Q
  refine vs_iconst (v := 0) C (by decide) d_R_sameRow_0 ?_
  refine vs_istore_n C d_R_sameRow_1 (by decide) ?_
  refine same22 C S (fun i h => ?_) (fun h => ?_) (3 + 1) 0 (by decide) (by decide) rfl
  · subst hQ
    exact vs_zret C hr (by rfl) d_R_sameRow_24 ⟨Nat.le_of_ble_eq_true rfl, Nat.le_of_ble_eq_true rfl⟩ (fun h => by cases h) (by first | exact (fun _ => rfl) | exact (fun h => by cases h)) (vs_rti (show (0 : Int32) = b01 (eqR (S.1 22) (S.1 30) 3 = true) from (if_neg (by rw [h]; decide)).symm))
  · refine vs_iconst (v := 1) C (by decide) d_R_sameRow_31 ?_
    subst hQ
    exact vs_zret C hr (by rfl) d_R_sameRow_32 ⟨Nat.le_of_ble_eq_true rfl, Nat.le_of_ble_eq_true rfl⟩ (fun h => by cases h) (by first | exact (fun _ => rfl) | exact (fun h => by cases h)) (vs_rti (show (1 : Int32) = b01 (eqR (S.1 22) (S.1 30) 3 = true) from (if_pos h).symm))
set_option maxRecDepth 100000 in
set_option maxHeartbeats 4000000 in
theorem k_R_sameRow23 (l : Launch) (b : Nat) (D : va_G) (aC : Nat → ClassId) (S : vs_S)  : vs_M l b D aC false true y_R_sameRow (.code y_R_sameRow c_R_sameRow 3 (Option.some Jvm.ClassFile.FieldType.boolean)) { frames := 0, cells := 0, slots := 0, locals := 0 } [.ref 23, .ref 31] (vs_mem S) (vs_ret (some (.int (b01 (eqR (S.1 23) (S.1 31) 8 = true)))) (vs_mem S)) := by
  refine vs_M.of (by decide) (Nat.le_of_ble_eq_true rfl) ?_
  intro p e s m args below meth c C hmn hr hx htg
  generalize hQ : vs_E below args s b D aC false true (vs_ret (some (.int (b01 (eqR (S.1 23) (S.1 31) 8 = true)))) (vs_mem S)) { frames := 0, cells := 0, slots := 0, locals := 0 } = Q
  refine vs_iconst (v := 0) C (by decide) d_R_sameRow_0 ?_
  refine vs_istore_n C d_R_sameRow_1 (by decide) ?_
  refine same23 C S (fun i h => ?_) (fun h => ?_) (8 + 1) 0 (by decide) (by decide) rfl
  · subst hQ
    exact vs_zret C hr (by rfl) d_R_sameRow_24 ⟨Nat.le_of_ble_eq_true rfl, Nat.le_of_ble_eq_true rfl⟩ (fun h => by cases h) (by first | exact (fun _ => rfl) | exact (fun h => by cases h)) (vs_rti (show (0 : Int32) = b01 (eqR (S.1 23) (S.1 31) 8 = true) from (if_neg (by rw [h]; decide)).symm))
  · refine vs_iconst (v := 1) C (by decide) d_R_sameRow_31 ?_
    subst hQ
    exact vs_zret C hr (by rfl) d_R_sameRow_32 ⟨Nat.le_of_ble_eq_true rfl, Nat.le_of_ble_eq_true rfl⟩ (fun h => by cases h) (by first | exact (fun _ => rfl) | exact (fun h => by cases h)) (vs_rti (show (1 : Int32) = b01 (eqR (S.1 23) (S.1 31) 8 = true) from (if_pos h).symm))
def sameX (S : vs_S) : Bool := eqR (S.1 21) (S.1 29) 16 && (eqR (S.1 22) (S.1 30) 3 && eqR (S.1 23) (S.1 31) 8)
set_option maxRecDepth 100000 in
set_option maxHeartbeats 4000000 in
theorem k_R_sameAs (l : Launch) (b : Nat) (D : va_G) (aC : Nat → ClassId) (S : vs_S)  : vs_M l b D aC false true y_R_sameAs (.code y_R_sameAs c_R_sameAs 2 (Option.some Jvm.ClassFile.FieldType.boolean)) { frames := 1, cells := 0, slots := 0, locals := 22 } [.ref 20, .ref 28] (vs_mem S) (vs_ret (some (.int (b01 (sameX S = true)))) (vs_mem S)) := by
  refine vs_M.of (by decide) (Nat.le_of_ble_eq_true rfl) ?_
  intro p e s m args below meth c C hmn hr hx htg
  generalize hQ : vs_E below args s b D aC false true (vs_ret (some (.int (b01 (sameX S = true)))) (vs_mem S)) { frames := 1, cells := 0, slots := 0, locals := 22 } = Q
  refine vs_aload_n C rfl d_R_sameAs_0 ?_
  refine vs_get C fl_R_9 d_R_sameAs_1 rfl rfl ?_
  refine vs_aload_n C rfl d_R_sameAs_4 ?_
  refine vs_get C fl_R_9 d_R_sameAs_5 rfl rfl ?_
  refine vs_cS C (k_R_sameRow21 l b D aC S) yk_R_sameRow ml_R_21 st_R_sameRow d_R_sameAs_8 rfl rfl (by exact Nat.le_of_ble_eq_true rfl) (by exact ⟨Nat.le_of_ble_eq_true rfl, Nat.le_of_ble_eq_true rfl⟩) (by exact ⟨Nat.le_of_ble_eq_true rfl, Nat.le_of_ble_eq_true rfl⟩) (fun h => by cases h) ?_
  refine vs_if_eq (tgt := 46) C d_R_sameAs_11 (by decide) (fun h1 => ?_) (fun h1 => ?_)
  · refine vs_iconst (v := 0) C (by decide) d_R_sameAs_46 ?_
    subst hQ
    exact vs_zret C hr (by rfl) d_R_sameAs_47 ⟨Nat.le_of_ble_eq_true rfl, Nat.le_of_ble_eq_true rfl⟩ (fun h => by cases h) (by first | exact (fun _ => rfl) | exact (fun h => by cases h)) (vs_rti (b01_f (c := sameX S = true) (fun h => by simp only [sameX, Bool.and_eq_true] at h; exact absurd h.1 (b01_0.mp h1))).symm)
  · refine vs_aload_n C rfl d_R_sameAs_14 ?_
    refine vs_get C fl_R_15 d_R_sameAs_15 rfl rfl ?_
    refine vs_aload_n C rfl d_R_sameAs_18 ?_
    refine vs_get C fl_R_15 d_R_sameAs_19 rfl rfl ?_
    refine vs_cS C (k_R_sameRow22 l b D aC S) yk_R_sameRow ml_R_21 st_R_sameRow d_R_sameAs_22 rfl rfl (by exact Nat.le_of_ble_eq_true rfl) (by exact ⟨Nat.le_of_ble_eq_true rfl, Nat.le_of_ble_eq_true rfl⟩) (by exact ⟨Nat.le_of_ble_eq_true rfl, Nat.le_of_ble_eq_true rfl⟩) (fun h => by cases h) ?_
    refine vs_if_eq (tgt := 46) C d_R_sameAs_25 (by decide) (fun h2 => ?_) (fun h2 => ?_)
    · refine vs_iconst (v := 0) C (by decide) d_R_sameAs_46 ?_
      subst hQ
      exact vs_zret C hr (by rfl) d_R_sameAs_47 ⟨Nat.le_of_ble_eq_true rfl, Nat.le_of_ble_eq_true rfl⟩ (fun h => by cases h) (by first | exact (fun _ => rfl) | exact (fun h => by cases h)) (vs_rti (b01_f (c := sameX S = true) (fun h => by simp only [sameX, Bool.and_eq_true] at h; exact absurd h.2.1 (b01_0.mp h2))).symm)
    · refine vs_aload_n C rfl d_R_sameAs_28 ?_
      refine vs_get C fl_R_18 d_R_sameAs_29 rfl rfl ?_
      refine vs_aload_n C rfl d_R_sameAs_32 ?_
      refine vs_get C fl_R_18 d_R_sameAs_33 rfl rfl ?_
      refine vs_cS C (k_R_sameRow23 l b D aC S) yk_R_sameRow ml_R_21 st_R_sameRow d_R_sameAs_36 rfl rfl (by exact Nat.le_of_ble_eq_true rfl) (by exact ⟨Nat.le_of_ble_eq_true rfl, Nat.le_of_ble_eq_true rfl⟩) (by exact ⟨Nat.le_of_ble_eq_true rfl, Nat.le_of_ble_eq_true rfl⟩) (fun h => by cases h) ?_
      refine vs_if_eq (tgt := 46) C d_R_sameAs_39 (by decide) (fun h3 => ?_) (fun h3 => ?_)
      · refine vs_iconst (v := 0) C (by decide) d_R_sameAs_46 ?_
        subst hQ
        exact vs_zret C hr (by rfl) d_R_sameAs_47 ⟨Nat.le_of_ble_eq_true rfl, Nat.le_of_ble_eq_true rfl⟩ (fun h => by cases h) (by first | exact (fun _ => rfl) | exact (fun h => by cases h)) (vs_rti (b01_f (c := sameX S = true) (fun h => by simp only [sameX, Bool.and_eq_true] at h; exact absurd h.2.2 (b01_0.mp h3))).symm)
      · refine vs_iconst (v := 1) C (by decide) d_R_sameAs_42 ?_
        refine vs_goto (tgt := 47) C d_R_sameAs_43 (by decide) ?_
        subst hQ
        exact vs_zret C hr (by rfl) d_R_sameAs_47 ⟨Nat.le_of_ble_eq_true rfl, Nat.le_of_ble_eq_true rfl⟩ (fun h => by cases h) (by first | exact (fun _ => rfl) | exact (fun h => by cases h)) (vs_rti (b01_t (c := sameX S = true) (by simp only [sameX, Bool.and_eq_true]; exact ⟨Decidable.not_not.mp (fun h => h1 (b01_f h)), Decidable.not_not.mp (fun h => h2 (b01_f h)), Decidable.not_not.mp (fun h => h3 (b01_f h))⟩)).symm)
end
section
def cp16 (S : vs_S) : vs_S := vs_uI (vs_uI (vs_uI S 29 (va_cpy (S.1 21) (S.1 29) 0 0 16)) 30 (va_cpy (S.1 22) (S.1 30) 0 0 3)) 31 (va_cpy (S.1 23) (S.1 31) 0 0 8)
set_option maxRecDepth 100000 in
set_option maxHeartbeats 4000000 in
theorem k_R_takeOver (l : Launch) (b : Nat) (D : va_G) (aC : Nat → ClassId) (S : vs_S)  : vs_M l b D aC false false y_R_takeOver (.code y_R_takeOver c_R_takeOver 2 (Option.none : Option Jvm.ClassFile.FieldType)) { frames := 1, cells := 0, slots := 0, locals := 60 } [.ref 28, .ref 20] (vs_mem S) (vs_ret none (vs_mem (cp16 S))) := by
  refine vs_M.of (by decide) (Nat.le_of_ble_eq_true rfl) ?_
  intro p e s m args below meth c C hmn hr hx htg
  generalize hQ : vs_E below args s b D aC false false (vs_ret none (vs_mem (cp16 S))) { frames := 1, cells := 0, slots := 0, locals := 60 } = Q
  refine vs_aload_n C rfl d_R_takeOver_0 ?_
  refine vs_get C fl_R_9 d_R_takeOver_1 rfl rfl ?_
  refine vs_iconst (v := 0) C (by decide) d_R_takeOver_4 ?_
  refine vs_aload_n C rfl d_R_takeOver_5 ?_
  refine vs_get C fl_R_9 d_R_takeOver_6 rfl rfl ?_
  refine vs_iconst (v := 0) C (by decide) d_R_takeOver_9 ?_
  refine vs_bipush (v := 16) C (by decide) d_R_takeOver_10 ?_
  refine vs_copyi C w_270 d_R_takeOver_12 rfl rfl (by decide) (by decide) (by decide) (by decide) (by decide) (by exact ⟨Nat.le_of_ble_eq_true rfl, Nat.le_of_ble_eq_true rfl⟩) ?_
  refine vs_aload_n C rfl d_R_takeOver_15 ?_
  refine vs_get C fl_R_15 d_R_takeOver_16 rfl rfl ?_
  refine vs_iconst (v := 0) C (by decide) d_R_takeOver_19 ?_
  refine vs_aload_n C rfl d_R_takeOver_20 ?_
  refine vs_get C fl_R_15 d_R_takeOver_21 rfl rfl ?_
  refine vs_iconst (v := 0) C (by decide) d_R_takeOver_24 ?_
  refine vs_iconst (v := 3) C (by decide) d_R_takeOver_25 ?_
  refine vs_copyi C w_270 d_R_takeOver_26 rfl rfl (by decide) (by decide) (by decide) (by decide) (by decide) (by exact ⟨Nat.le_of_ble_eq_true rfl, Nat.le_of_ble_eq_true rfl⟩) ?_
  refine vs_aload_n C rfl d_R_takeOver_29 ?_
  refine vs_get C fl_R_18 d_R_takeOver_30 rfl rfl ?_
  refine vs_iconst (v := 0) C (by decide) d_R_takeOver_33 ?_
  refine vs_aload_n C rfl d_R_takeOver_34 ?_
  refine vs_get C fl_R_18 d_R_takeOver_35 rfl rfl ?_
  refine vs_iconst (v := 0) C (by decide) d_R_takeOver_38 ?_
  refine vs_bipush (v := 8) C (by decide) d_R_takeOver_39 ?_
  refine vs_copyi C w_270 d_R_takeOver_41 rfl rfl (by decide) (by decide) (by decide) (by decide) (by decide) (by exact ⟨Nat.le_of_ble_eq_true rfl, Nat.le_of_ble_eq_true rfl⟩) ?_
  subst hQ
  exact vs_vret C hr d_R_takeOver_44 ⟨Nat.le_of_ble_eq_true rfl, Nat.le_of_ble_eq_true rfl⟩ (fun h => by cases h) (by first | exact (fun _ => rfl) | exact (fun h => by cases h)) (⟨rfl, rfl⟩)
set_option maxRecDepth 100000 in
set_option maxHeartbeats 4000000 in
theorem k_S_append (l : Launch) (b : Nat) (D : va_G) (aC : Nat → ClassId) (S : vs_S) (k : Nat) (num : Int32) (ids : Int64) (hk : (S.2.2.2.2.1 24 2) = nI k) (hk6 : k < 6) : vs_M l b D aC false false y_S_append (.code y_S_append c_S_append 4 (Option.none : Option Jvm.ClassFile.FieldType)) { frames := 0, cells := 0, slots := 0, locals := 0 } [.ref 24, .int num, .long ids] (vs_mem S) (vs_ret none (vs_mem (vs_ui (vs_uL (vs_uI S 25 (upd (S.1 25) k num)) 26 (vp_updL (S.2.1 26) k ids)) 24 2 ((S.2.2.2.2.1 24 2) + 1)))) := by
  refine vs_M.of (by decide) (Nat.le_of_ble_eq_true rfl) ?_
  intro p e s m args below meth c C hmn hr hx htg
  generalize hQ : vs_E below args s b D aC false false (vs_ret none (vs_mem (vs_ui (vs_uL (vs_uI S 25 (upd (S.1 25) k num)) 26 (vp_updL (S.2.1 26) k ids)) 24 2 ((S.2.2.2.2.1 24 2) + 1)))) { frames := 0, cells := 0, slots := 0, locals := 0 } = Q
  refine vs_aload_n C rfl d_S_append_0 ?_
  refine vs_get C fl_S_9 d_S_append_1 rfl rfl ?_
  refine vs_aload_n C rfl d_S_append_4 ?_
  refine vs_get C fl_S_19 d_S_append_5 rfl rfl ?_
  refine vs_iload_n C rfl d_S_append_8 ?_
  refine vs_iastN C d_S_append_9 rfl (hk) (hk6) (by decide) ?_
  refine vs_aload_n C rfl d_S_append_10 ?_
  refine vs_get C fl_S_15 d_S_append_11 rfl rfl ?_
  refine vs_aload_n C rfl d_S_append_14 ?_
  refine vs_get C fl_S_19 d_S_append_15 rfl rfl ?_
  refine vs_lload_n C rfl d_S_append_18 ?_
  refine vs_lastN C d_S_append_19 rfl (hk) (hk6) (by decide) ?_
  refine vs_aload_n C rfl d_S_append_20 ?_
  refine vs_dup C rfl d_S_append_21 ?_
  refine vs_get C fl_S_19 d_S_append_22 rfl rfl ?_
  refine vs_iconst (v := 1) C (by decide) d_S_append_25 ?_
  refine vs_iadd C d_S_append_26 ?_
  refine vs_put C fl_S_19 d_S_append_27 rfl rfl rfl (Nat.le_of_ble_eq_true rfl) ?_
  subst hQ
  exact vs_vret C hr d_S_append_30 ⟨Nat.le_of_ble_eq_true rfl, Nat.le_of_ble_eq_true rfl⟩ (fun h => by cases h) (by first | exact (fun _ => rfl) | exact (fun h => by cases h)) (⟨rfl, rfl⟩)
def or_l (f : Nat → Int64) : Nat → Int64
  | 0 => 0
  | n + 1 => or_l f n ||| f n
def has_i (f : Nat → Int32) (x : Int32) : Nat → Bool
  | 0 => false
  | n + 1 => has_i f x n || decide (f n = x)
theorem has_i_iff {f : Nat → Int32} {x : Int32} : ∀ {n : Nat}, has_i f x n = true ↔ ∃ i, i < n ∧ f i = x
  | 0 => ⟨(fun h => by cases h), fun ⟨i, h, _⟩ => by omega⟩
  | n + 1 => by
    simp only [has_i, Bool.or_eq_true, decide_eq_true_eq, has_i_iff (n := n)]
    constructor
    · rintro (⟨i, h1, h2⟩ | h)
      · exact ⟨i, by omega, h2⟩
      · exact ⟨n, by omega, h⟩
    · rintro ⟨i, h1, h2⟩
      rcases Nat.lt_or_ge i n with h | h
      · exact Or.inl ⟨i, h, h2⟩
      · have : i = n := by omega
        subst this
        exact Or.inr h2
section Segs
variable {p : Program} {l : Launch} {e : Env} {R : Room} {s : State} {m : MethodId} {args : Array Value} {below : List Frame} {meth : Method} {c : Code} {b : Nat} {D : va_G} {aC : Nat → ClassId} {Q : State → Prop} {kc ks : Nat} {ck : Bool}
theorem allNow (C : vs_X p s m args meth c b D aC "VeilSearch$Segments" c_S_allIds 4) (S : vs_S) (k : Nat) (hk : S.2.2.2.2.1 24 2 = nI k) (hk6 : k ≤ 6) (K : vs_G p l e R s m args below meth c b D aC 4 Q kc ks ck (vs_mem S) 27 [some (.ref 24), some (.long (or_l (S.2.1 26) k)), none, some (.int (nI k))] []) : ∀ n i : Nat, i ≤ k → k - i < n → vs_G p l e R s m args below meth c b D aC 4 Q kc ks ck (vs_mem S) 4 [some (.ref 24), some (.long (or_l (S.2.1 26) i)), none, some (.int (nI i))] [] := by
  intro n
  induction n with
  | zero => intro i _ h; omega
  | succ n ih =>
    intro i hi hn
    refine vs_iload_n C rfl d_S_allIds_4 ?_
    refine vs_aload_n C rfl d_S_allIds_5 ?_
    refine vs_get C fl_S_19 d_S_allIds_6 rfl rfl ?_
    refine vs_icmp_ge (tgt := 27) C d_S_allIds_9 (by decide) (fun h1 => ?_) (fun h1 => ?_)
    · have h2 := n_ge (N := k) (i := i) h1 hk rfl (by omega) (by omega)
      obtain rfl : i = k := by omega
      exact K
    · have hlt := n_lt (N := k) (i := i) h1 hk rfl (by omega) (by omega)
      refine vs_lload_n C rfl d_S_allIds_12 ?_
      refine vs_aload_n C rfl d_S_allIds_13 ?_
      refine vs_get C fl_S_15 d_S_allIds_14 rfl rfl ?_
      refine vs_iload_n C rfl d_S_allIds_17 ?_
      refine vs_laldN C d_S_allIds_18 rfl (rfl) ((by omega)) (by decide) ?_
      refine vs_lor C d_S_allIds_19 ?_
      refine vs_lstore_n C d_S_allIds_20 (by decide) ?_
      refine vs_iinc C d_S_allIds_21 rfl (nI_1 i) (by decide) ?_
      refine vs_goto (tgt := 4) C d_S_allIds_24 (by decide) ?_
      exact ih (i + 1) (by omega) (by omega)
theorem allSeen (C : vs_X p s m args meth c b D aC "VeilSearch$Segments" c_S_allIds 4) (S : vs_S) (k : Nat) (hk : S.2.2.2.2.1 32 2 = nI k) (hk6 : k ≤ 6) (K : vs_G p l e R s m args below meth c b D aC 4 Q kc ks ck (vs_mem S) 27 [some (.ref 32), some (.long (or_l (S.2.1 34) k)), none, some (.int (nI k))] []) : ∀ n i : Nat, i ≤ k → k - i < n → vs_G p l e R s m args below meth c b D aC 4 Q kc ks ck (vs_mem S) 4 [some (.ref 32), some (.long (or_l (S.2.1 34) i)), none, some (.int (nI i))] [] := by
  intro n
  induction n with
  | zero => intro i _ h; omega
  | succ n ih =>
    intro i hi hn
    refine vs_iload_n C rfl d_S_allIds_4 ?_
    refine vs_aload_n C rfl d_S_allIds_5 ?_
    refine vs_get C fl_S_19 d_S_allIds_6 rfl rfl ?_
    refine vs_icmp_ge (tgt := 27) C d_S_allIds_9 (by decide) (fun h1 => ?_) (fun h1 => ?_)
    · have h2 := n_ge (N := k) (i := i) h1 hk rfl (by omega) (by omega)
      obtain rfl : i = k := by omega
      exact K
    · have hlt := n_lt (N := k) (i := i) h1 hk rfl (by omega) (by omega)
      refine vs_lload_n C rfl d_S_allIds_12 ?_
      refine vs_aload_n C rfl d_S_allIds_13 ?_
      refine vs_get C fl_S_15 d_S_allIds_14 rfl rfl ?_
      refine vs_iload_n C rfl d_S_allIds_17 ?_
      refine vs_laldN C d_S_allIds_18 rfl (rfl) ((by omega)) (by decide) ?_
      refine vs_lor C d_S_allIds_19 ?_
      refine vs_lstore_n C d_S_allIds_20 (by decide) ?_
      refine vs_iinc C d_S_allIds_21 rfl (nI_1 i) (by decide) ?_
      refine vs_goto (tgt := 4) C d_S_allIds_24 (by decide) ?_
      exact ih (i + 1) (by omega) (by omega)
theorem hasNum (C : vs_X p s m args meth c b D aC "VeilSearch$Segments" c_S_hasNumber 3) (S : vs_S) (x : Int32) (k : Nat) (hk : (S.2.2.2.2.1 32 2) = nI k) (hk6 : k ≤ 6) (K1 : ∀ i : Nat, has_i (S.1 33) x k = true → vs_G p l e R s m args below meth c b D aC 3 Q kc ks ck (vs_mem S) 21 [some (.ref 32), some (.int x), some (.int (nI i))] [.int 1]) (K0 : has_i (S.1 33) x k = false → vs_G p l e R s m args below meth c b D aC 3 Q kc ks ck (vs_mem S) 28 [some (.ref 32), some (.int x), some (.int (nI k))] []) : ∀ n i : Nat, i ≤ k → k - i < n → has_i (S.1 33) x i = false → vs_G p l e R s m args below meth c b D aC 3 Q kc ks ck (vs_mem S) 2 [some (.ref 32), some (.int x), some (.int (nI i))] [] := by
  intro n
  induction n with
  | zero => intro i _ h; omega
  | succ n ih =>
    intro i hi hn hh
    refine vs_iload_n C rfl d_S_hasNumber_2 ?_
    refine vs_aload_n C rfl d_S_hasNumber_3 ?_
    refine vs_get C fl_S_19 d_S_hasNumber_4 rfl rfl ?_
    refine vs_icmp_ge (tgt := 28) C d_S_hasNumber_7 (by decide) (fun h1 => ?_) (fun h1 => ?_)
    · have h2 := n_ge (N := k) (i := i) h1 hk rfl (by omega) (by omega)
      obtain rfl : i = k := by omega
      exact K0 hh
    · have hlt := n_lt (N := k) (i := i) h1 hk rfl (by omega) (by omega)
      refine vs_aload_n C rfl d_S_hasNumber_10 ?_
      refine vs_get C fl_S_9 d_S_hasNumber_11 rfl rfl ?_
      refine vs_iload_n C rfl d_S_hasNumber_14 ?_
      refine vs_ialdN C d_S_hasNumber_15 rfl (rfl) ((by omega)) (by decide) ?_
      refine vs_iload_n C rfl d_S_hasNumber_16 ?_
      refine vs_icmp_ne (tgt := 22) C d_S_hasNumber_17 (by decide) (fun h2 => ?_) (fun h2 => ?_)
      · refine vs_iinc C d_S_hasNumber_22 rfl (nI_1 i) (by decide) ?_
        refine vs_goto (tgt := 2) C d_S_hasNumber_25 (by decide) ?_
        exact ih (i + 1) (by omega) (by omega) (by simp [has_i, hh, h2])
      · refine vs_iconst (v := 1) C (by decide) d_S_hasNumber_20 ?_
        exact K1 i (has_i_iff.mpr ⟨i, hlt, h2⟩)
end Segs
set_option maxRecDepth 100000 in
set_option maxHeartbeats 4000000 in
theorem k_S_allIds_Now (l : Launch) (b : Nat) (D : va_G) (aC : Nat → ClassId) (S : vs_S) (k : Nat) (hk : S.2.2.2.2.1 24 2 = nI k) (hk6 : k ≤ 6) : vs_M l b D aC false true y_S_allIds (.code y_S_allIds c_S_allIds 4 (Option.some Jvm.ClassFile.FieldType.long)) { frames := 0, cells := 0, slots := 0, locals := 0 } [.ref 24] (vs_mem S) (vs_ret (some (.long (or_l (S.2.1 26) k))) (vs_mem S)) := by
  refine vs_M.of (by decide) (Nat.le_of_ble_eq_true rfl) ?_
  intro p e s m args below meth c C hmn hr hx htg
  generalize hQ : vs_E below args s b D aC false true (vs_ret (some (.long (or_l (S.2.1 26) k))) (vs_mem S)) { frames := 0, cells := 0, slots := 0, locals := 0 } = Q
  refine vs_lconst (v := 0) C (by decide) d_S_allIds_0 ?_
  refine vs_lstore_n C d_S_allIds_1 (by decide) ?_
  refine vs_iconst (v := 0) C (by decide) d_S_allIds_2 ?_
  refine vs_istore_n C d_S_allIds_3 (by decide) ?_
  refine allNow C S k hk hk6 ?_ (k + 1) 0 (Nat.zero_le _) (by omega)
  refine vs_lload_n C rfl d_S_allIds_27 ?_
  subst hQ
  exact vs_lret C hr d_S_allIds_28 ⟨Nat.le_of_ble_eq_true rfl, Nat.le_of_ble_eq_true rfl⟩ (fun h => by cases h) (by first | exact (fun _ => rfl) | exact (fun h => by cases h)) (⟨rfl, rfl⟩)
set_option maxRecDepth 100000 in
set_option maxHeartbeats 4000000 in
theorem k_S_allIds_Seen (l : Launch) (b : Nat) (D : va_G) (aC : Nat → ClassId) (S : vs_S) (k : Nat) (hk : S.2.2.2.2.1 32 2 = nI k) (hk6 : k ≤ 6) : vs_M l b D aC false true y_S_allIds (.code y_S_allIds c_S_allIds 4 (Option.some Jvm.ClassFile.FieldType.long)) { frames := 0, cells := 0, slots := 0, locals := 0 } [.ref 32] (vs_mem S) (vs_ret (some (.long (or_l (S.2.1 34) k))) (vs_mem S)) := by
  refine vs_M.of (by decide) (Nat.le_of_ble_eq_true rfl) ?_
  intro p e s m args below meth c C hmn hr hx htg
  generalize hQ : vs_E below args s b D aC false true (vs_ret (some (.long (or_l (S.2.1 34) k))) (vs_mem S)) { frames := 0, cells := 0, slots := 0, locals := 0 } = Q
  refine vs_lconst (v := 0) C (by decide) d_S_allIds_0 ?_
  refine vs_lstore_n C d_S_allIds_1 (by decide) ?_
  refine vs_iconst (v := 0) C (by decide) d_S_allIds_2 ?_
  refine vs_istore_n C d_S_allIds_3 (by decide) ?_
  refine allSeen C S k hk hk6 ?_ (k + 1) 0 (Nat.zero_le _) (by omega)
  refine vs_lload_n C rfl d_S_allIds_27 ?_
  subst hQ
  exact vs_lret C hr d_S_allIds_28 ⟨Nat.le_of_ble_eq_true rfl, Nat.le_of_ble_eq_true rfl⟩ (fun h => by cases h) (by first | exact (fun _ => rfl) | exact (fun h => by cases h)) (⟨rfl, rfl⟩)
set_option maxRecDepth 100000 in
set_option maxHeartbeats 4000000 in
theorem k_S_hasNumber (l : Launch) (b : Nat) (D : va_G) (aC : Nat → ClassId) (S : vs_S) (x : Int32) (k : Nat) (hk : (S.2.2.2.2.1 32 2) = nI k) (hk6 : k ≤ 6) : vs_M l b D aC false true y_S_hasNumber (.code y_S_hasNumber c_S_hasNumber 3 (Option.some Jvm.ClassFile.FieldType.boolean)) { frames := 0, cells := 0, slots := 0, locals := 0 } [.ref 32, .int x] (vs_mem S) (vs_ret (some (.int (b01 (has_i (S.1 33) x k = true)))) (vs_mem S)) := by
  refine vs_M.of (by decide) (Nat.le_of_ble_eq_true rfl) ?_
  intro p e s m args below meth c C hmn hr hx htg
  generalize hQ : vs_E below args s b D aC false true (vs_ret (some (.int (b01 (has_i (S.1 33) x k = true)))) (vs_mem S)) { frames := 0, cells := 0, slots := 0, locals := 0 } = Q
  refine vs_iconst (v := 0) C (by decide) d_S_hasNumber_0 ?_
  refine vs_istore_n C d_S_hasNumber_1 (by decide) ?_
  refine hasNum C S x k hk hk6 (fun i h => ?_) (fun h => ?_) (k + 1) 0 (Nat.zero_le _) (by omega) rfl
  · subst hQ
    exact vs_zret C hr (by rfl) d_S_hasNumber_21 ⟨Nat.le_of_ble_eq_true rfl, Nat.le_of_ble_eq_true rfl⟩ (fun h => by cases h) (by first | exact (fun _ => rfl) | exact (fun h => by cases h)) (vs_rti (b01_t h).symm)
  · refine vs_iconst (v := 0) C (by decide) d_S_hasNumber_28 ?_
    subst hQ
    exact vs_zret C hr (by rfl) d_S_hasNumber_29 ⟨Nat.le_of_ble_eq_true rfl, Nat.le_of_ble_eq_true rfl⟩ (fun h => by cases h) (by first | exact (fun _ => rfl) | exact (fun h => by cases h)) (vs_rti (b01_f (by rw [h]; decide)).symm)
def cpS (S : vs_S) : vs_S := vs_ui (vs_uL (vs_uI S 33 (va_cpy (S.1 25) (S.1 33) 0 0 6)) 34 (va_cpy (S.2.1 26) (S.2.1 34) 0 0 6)) 32 2 (S.2.2.2.2.1 24 2)
set_option maxRecDepth 100000 in
set_option maxHeartbeats 4000000 in
theorem k_S_takeOver (l : Launch) (b : Nat) (D : va_G) (aC : Nat → ClassId) (S : vs_S)  : vs_M l b D aC false false y_S_takeOver (.code y_S_takeOver c_S_takeOver 2 (Option.none : Option Jvm.ClassFile.FieldType)) { frames := 1, cells := 0, slots := 0, locals := 60 } [.ref 32, .ref 24] (vs_mem S) (vs_ret none (vs_mem (cpS S))) := by
  refine vs_M.of (by decide) (Nat.le_of_ble_eq_true rfl) ?_
  intro p e s m args below meth c C hmn hr hx htg
  generalize hQ : vs_E below args s b D aC false false (vs_ret none (vs_mem (cpS S))) { frames := 1, cells := 0, slots := 0, locals := 60 } = Q
  refine vs_aload_n C rfl d_S_takeOver_0 ?_
  refine vs_get C fl_S_9 d_S_takeOver_1 rfl rfl ?_
  refine vs_iconst (v := 0) C (by decide) d_S_takeOver_4 ?_
  refine vs_aload_n C rfl d_S_takeOver_5 ?_
  refine vs_get C fl_S_9 d_S_takeOver_6 rfl rfl ?_
  refine vs_iconst (v := 0) C (by decide) d_S_takeOver_9 ?_
  refine vs_bipush (v := 6) C (by decide) d_S_takeOver_10 ?_
  refine vs_copyi C w_277 d_S_takeOver_12 rfl rfl (by decide) (by decide) (by decide) (by decide) (by decide) (by exact ⟨Nat.le_of_ble_eq_true rfl, Nat.le_of_ble_eq_true rfl⟩) ?_
  refine vs_aload_n C rfl d_S_takeOver_15 ?_
  refine vs_get C fl_S_15 d_S_takeOver_16 rfl rfl ?_
  refine vs_iconst (v := 0) C (by decide) d_S_takeOver_19 ?_
  refine vs_aload_n C rfl d_S_takeOver_20 ?_
  refine vs_get C fl_S_15 d_S_takeOver_21 rfl rfl ?_
  refine vs_iconst (v := 0) C (by decide) d_S_takeOver_24 ?_
  refine vs_bipush (v := 6) C (by decide) d_S_takeOver_25 ?_
  refine vs_copyl C w_277 d_S_takeOver_27 rfl rfl (by decide) (by decide) (by decide) (by decide) (by decide) (by exact ⟨Nat.le_of_ble_eq_true rfl, Nat.le_of_ble_eq_true rfl⟩) ?_
  refine vs_aload_n C rfl d_S_takeOver_30 ?_
  refine vs_aload_n C rfl d_S_takeOver_31 ?_
  refine vs_get C fl_S_19 d_S_takeOver_32 rfl rfl ?_
  refine vs_put C fl_S_19 d_S_takeOver_35 rfl rfl rfl (Nat.le_of_ble_eq_true rfl) ?_
  subst hQ
  exact vs_vret C hr d_S_takeOver_38 ⟨Nat.le_of_ble_eq_true rfl, Nat.le_of_ble_eq_true rfl⟩ (fun h => by cases h) (by first | exact (fun _ => rfl) | exact (fun h => by cases h)) (⟨rfl, rfl⟩)
set_option maxRecDepth 100000 in
set_option maxHeartbeats 4000000 in
theorem k_V_livingIds (l : Launch) (b : Nat) (D : va_G) (aC : Nat → ClassId) (S : vs_S) (k : Nat) (hk : (S.2.2.2.2.1 32 2) = nI k) (hk6 : k ≤ 6) : vs_M l b D aC false true y_V_livingIds (.code y_V_livingIds c_V_livingIds 1 (Option.some Jvm.ClassFile.FieldType.long)) { frames := 1, cells := 0, slots := 0, locals := 23 } [.ref 27] (vs_mem S) (vs_ret (some (.long (or_l (S.2.1 34) k &&& ((S.2.2.2.2.2 27 2) ^^^ (-1))))) (vs_mem S)) := by
  refine vs_M.of (by decide) (Nat.le_of_ble_eq_true rfl) ?_
  intro p e s m args below meth c C hmn hr hx htg
  generalize hQ : vs_E below args s b D aC false true (vs_ret (some (.long (or_l (S.2.1 34) k &&& ((S.2.2.2.2.2 27 2) ^^^ (-1))))) (vs_mem S)) { frames := 1, cells := 0, slots := 0, locals := 23 } = Q
  refine vs_aload_n C rfl d_V_livingIds_0 ?_
  refine vs_get C fl_V_19 d_V_livingIds_1 rfl rfl ?_
  refine vs_cV C (k_S_allIds_Seen l b D aC S k hk hk6) yk_S_allIds ml_V_27 im_S_allIds se_S_allIds d_V_livingIds_4 rfl rfl rfl rfl (by exact Nat.le_of_ble_eq_true rfl) (by exact ⟨Nat.le_of_ble_eq_true rfl, Nat.le_of_ble_eq_true rfl⟩) (by exact ⟨Nat.le_of_ble_eq_true rfl, Nat.le_of_ble_eq_true rfl⟩) (fun h => by cases h) ?_
  refine vs_aload_n C rfl d_V_livingIds_7 ?_
  refine vs_get C fl_V_23 d_V_livingIds_8 rfl rfl ?_
  refine vs_ldc2 C w_295 d_V_livingIds_11 ?_
  refine vs_lxor C d_V_livingIds_14 ?_
  refine vs_land C d_V_livingIds_15 ?_
  subst hQ
  exact vs_lret C hr d_V_livingIds_16 ⟨Nat.le_of_ble_eq_true rfl, Nat.le_of_ble_eq_true rfl⟩ (fun h => by cases h) (by first | exact (fun _ => rfl) | exact (fun h => by cases h)) (⟨rfl, rfl⟩)
def cpV (S : vs_S) : vs_S := vs_ul (cpS (cp16 S)) 27 2 (S.2.2.2.2.2 19 2)
set_option maxRecDepth 100000 in
set_option maxHeartbeats 4000000 in
theorem k_V_takeOver (l : Launch) (b : Nat) (D : va_G) (aC : Nat → ClassId) (S : vs_S)  : vs_M l b D aC false false y_V_takeOver (.code y_V_takeOver c_V_takeOver 2 (Option.none : Option Jvm.ClassFile.FieldType)) { frames := 2, cells := 0, slots := 0, locals := 81 } [.ref 27, .ref 19] (vs_mem S) (vs_ret none (vs_mem (cpV S))) := by
  refine vs_M.of (by decide) (Nat.le_of_ble_eq_true rfl) ?_
  intro p e s m args below meth c C hmn hr hx htg
  generalize hQ : vs_E below args s b D aC false false (vs_ret none (vs_mem (cpV S))) { frames := 2, cells := 0, slots := 0, locals := 81 } = Q
  refine vs_aload_n C rfl d_V_takeOver_0 ?_
  refine vs_get C fl_V_10 d_V_takeOver_1 rfl rfl ?_
  refine vs_aload_n C rfl d_V_takeOver_4 ?_
  refine vs_get C fl_V_10 d_V_takeOver_5 rfl rfl ?_
  refine vs_cV C (k_R_takeOver l b D aC S) yk_R_takeOver ml_V_33 im_R_takeOver se_R_takeOver d_V_takeOver_8 rfl rfl rfl rfl (by exact Nat.le_of_ble_eq_true rfl) (by exact ⟨Nat.le_of_ble_eq_true rfl, Nat.le_of_ble_eq_true rfl⟩) (by exact ⟨Nat.le_of_ble_eq_true rfl, Nat.le_of_ble_eq_true rfl⟩) (fun h => by cases h) ?_
  refine vs_aload_n C rfl d_V_takeOver_11 ?_
  refine vs_get C fl_V_19 d_V_takeOver_12 rfl rfl ?_
  refine vs_aload_n C rfl d_V_takeOver_15 ?_
  refine vs_get C fl_V_19 d_V_takeOver_16 rfl rfl ?_
  refine vs_cV C (k_S_takeOver l b D aC (cp16 S)) yk_S_takeOver ml_V_37 im_S_takeOver se_S_takeOver d_V_takeOver_19 rfl rfl rfl rfl (by exact Nat.le_of_ble_eq_true rfl) (by exact ⟨Nat.le_of_ble_eq_true rfl, Nat.le_of_ble_eq_true rfl⟩) (by exact ⟨Nat.le_of_ble_eq_true rfl, Nat.le_of_ble_eq_true rfl⟩) (fun h => by cases h) ?_
  refine vs_aload_n C rfl d_V_takeOver_22 ?_
  refine vs_aload_n C rfl d_V_takeOver_23 ?_
  refine vs_get C fl_V_23 d_V_takeOver_24 rfl rfl ?_
  refine vs_put C fl_V_23 d_V_takeOver_27 rfl rfl rfl (Nat.le_of_ble_eq_true rfl) ?_
  subst hQ
  exact vs_vret C hr d_V_takeOver_30 ⟨Nat.le_of_ble_eq_true rfl, Nat.le_of_ble_eq_true rfl⟩ (fun h => by cases h) (by first | exact (fun _ => rfl) | exact (fun h => by cases h)) (⟨rfl, rfl⟩)
end
section
/-- places from j up to i moved down by one -/
def sh {α : Type} (f : Nat → α) (j i : Nat) : Nat → α := fun q => if j ≤ q ∧ q < i then f (q + 1) else f q
theorem sh_0 {α : Type} (f : Nat → α) (j : Nat) : sh f j j = f := by
  funext q
  simp only [sh]
  rw [if_neg (by omega)]
theorem sh_i {f : Nat → Int32} {j i : Nat} (h : j ≤ i) : upd (sh f j i) i (sh f j i (i + 1)) = sh f j (i + 1) := by
  funext q
  simp only [sh, upd]
  by_cases h1 : q = i
  · subst h1
    rw [if_pos rfl, if_neg (by omega), if_pos (by omega)]
  · rw [if_neg h1]
    by_cases h2 : j ≤ q ∧ q < i
    · rw [if_pos h2, if_pos (by omega)]
    · rw [if_neg h2, if_neg (by omega)]
theorem sh_l {f : Nat → Int64} {j i : Nat} (h : j ≤ i) : vp_updL (sh f j i) i (sh f j i (i + 1)) = sh f j (i + 1) := by
  funext q
  simp only [sh, vp_updL]
  by_cases h1 : q = i
  · subst h1
    rw [if_pos rfl, if_neg (by omega), if_pos (by omega)]
  · rw [if_neg h1]
    by_cases h2 : j ≤ q ∧ q < i
    · rw [if_pos h2, if_pos (by omega)]
    · rw [if_neg h2, if_neg (by omega)]
def fApp (S : vs_S) (k : Nat) (x u : Int32) (ids : Int64) : vs_S := vs_ui (vs_uL (vs_uI (vs_uI S 7 (upd (S.1 7) k x)) 8 (upd (S.1 8) k u)) 9 (vp_updL (S.2.1 9) k ids)) 6 3 ((S.2.2.2.2.1 6 3) + 1)
set_option maxRecDepth 100000 in
set_option maxHeartbeats 4000000 in
theorem k_F_append (l : Launch) (b : Nat) (D : va_G) (aC : Nat → ClassId) (S : vs_S) (k : Nat) (x u : Int32) (ids : Int64) (hk : (S.2.2.2.2.1 6 3) = nI k) (hk5 : k < 5) : vs_M l b D aC false false y_F_append (.code y_F_append c_F_append 5 (Option.none : Option Jvm.ClassFile.FieldType)) { frames := 0, cells := 0, slots := 0, locals := 0 } [.ref 6, .int x, .int u, .long ids] (vs_mem S) (vs_ret none (vs_mem (fApp S k x u ids))) := by
  refine vs_M.of (by decide) (Nat.le_of_ble_eq_true rfl) ?_
  intro p e s m args below meth c C hmn hr hx htg
  generalize hQ : vs_E below args s b D aC false false (vs_ret none (vs_mem (fApp S k x u ids))) { frames := 0, cells := 0, slots := 0, locals := 0 } = Q
  refine vs_aload_n C rfl d_F_append_0 ?_
  refine vs_get C fl_F_9 d_F_append_1 rfl rfl ?_
  refine vs_aload_n C rfl d_F_append_4 ?_
  refine vs_get C fl_F_22 d_F_append_5 rfl rfl ?_
  refine vs_iload_n C rfl d_F_append_8 ?_
  refine vs_iastN C d_F_append_9 rfl (hk) (hk5) (by decide) ?_
  refine vs_aload_n C rfl d_F_append_10 ?_
  refine vs_get C fl_F_15 d_F_append_11 rfl rfl ?_
  refine vs_aload_n C rfl d_F_append_14 ?_
  refine vs_get C fl_F_22 d_F_append_15 rfl rfl ?_
  refine vs_iload_n C rfl d_F_append_18 ?_
  refine vs_iastN C d_F_append_19 rfl (hk) (hk5) (by decide) ?_
  refine vs_aload_n C rfl d_F_append_20 ?_
  refine vs_get C fl_F_18 d_F_append_21 rfl rfl ?_
  refine vs_aload_n C rfl d_F_append_24 ?_
  refine vs_get C fl_F_22 d_F_append_25 rfl rfl ?_
  refine vs_lload_n C rfl d_F_append_28 ?_
  refine vs_lastN C d_F_append_29 rfl (hk) (hk5) (by decide) ?_
  refine vs_aload_n C rfl d_F_append_30 ?_
  refine vs_dup C rfl d_F_append_31 ?_
  refine vs_get C fl_F_22 d_F_append_32 rfl rfl ?_
  refine vs_iconst (v := 1) C (by decide) d_F_append_35 ?_
  refine vs_iadd C d_F_append_36 ?_
  refine vs_put C fl_F_22 d_F_append_37 rfl rfl rfl (Nat.le_of_ble_eq_true rfl) ?_
  subst hQ
  exact vs_vret C hr d_F_append_40 ⟨Nat.le_of_ble_eq_true rfl, Nat.le_of_ble_eq_true rfl⟩ (fun h => by cases h) (by first | exact (fun _ => rfl) | exact (fun h => by cases h)) (⟨rfl, rfl⟩)
def fSh (S : vs_S) (j i : Nat) : vs_S := vs_uL (vs_uI (vs_uI S 7 (sh (S.1 7) j i)) 8 (sh (S.1 8) j i)) 9 (sh (S.2.1 9) j i)
def fDrop (S : vs_S) (j k : Nat) : vs_S := vs_ui (fSh S j (k - 1)) 6 3 ((S.2.2.2.2.1 6 3) - 1)
theorem fSh_0 (S : vs_S) (j : Nat) : vs_mem (fSh S j j) = vs_mem S := by
  have : fSh S j j = vs_uL (vs_uI (vs_uI S 7 (S.1 7)) 8 (S.1 8)) 9 (S.2.1 9) := by
    simp only [fSh, sh_0]
  rw [this]
  rfl
section Drop
variable {p : Program} {l : Launch} {e : Env} {R : Room} {s : State} {m : MethodId} {args : Array Value} {below : List Frame} {meth : Method} {c : Code} {b : Nat} {D : va_G} {aC : Nat → ClassId} {Q : State → Prop} {kc ks : Nat} {ck : Bool}
theorem drop_l (C : vs_X p s m args meth c b D aC "VeilSearch$Filters" c_F_drop 3) (S : vs_S) (k j : Nat) (hk : (S.2.2.2.2.1 6 3) = nI k) (hk5 : k ≤ 5) (hj : j < k) (K : vs_G p l e R s m args below meth c b D aC 3 Q kc ks ck (vs_mem (fSh S j (k - 1))) 60 [some (.ref 6), some (.int (nI j)), some (.int (nI (k - 1)))] []) (hck : ck = false) : ∀ n i : Nat, j ≤ i → i ≤ k - 1 → k - 1 - i < n → vs_G p l e R s m args below meth c b D aC 3 Q kc ks ck (vs_mem (fSh S j i)) 2 [some (.ref 6), some (.int (nI j)), some (.int (nI i))] [] := by
  subst hck
  intro n
  induction n with
  | zero => intro i _ _ h; omega
  | succ n ih =>
    intro i hji hi hn
    have hs : (S.2.2.2.2.1 6 3) - 1 = nI (k - 1) := by
      rw [hk]
      exact pk_sub (a := k) (b := 1) (by omega)
    refine vs_iload_n C rfl d_F_drop_2 ?_
    refine vs_aload_n C rfl d_F_drop_3 ?_
    refine vs_get C fl_F_22 d_F_drop_4 rfl rfl ?_
    refine vs_iconst (v := 1) C (by decide) d_F_drop_7 ?_
    refine vs_isub C d_F_drop_8 ?_
    refine vs_icmp_ge (tgt := 60) C d_F_drop_9 (by decide) (fun h1 => ?_) (fun h1 => ?_)
    · have h2 := n_ge (N := k - 1) (i := i) h1 hs rfl (by omega) (by omega)
      obtain rfl : i = k - 1 := by omega
      exact K
    · have hlt := n_lt (N := k - 1) (i := i) h1 hs rfl (by omega) (by omega)
      refine vs_aload_n C rfl d_F_drop_12 ?_
      refine vs_get C fl_F_9 d_F_drop_13 rfl rfl ?_
      refine vs_iload_n C rfl d_F_drop_16 ?_
      refine vs_aload_n C rfl d_F_drop_17 ?_
      refine vs_get C fl_F_9 d_F_drop_18 rfl rfl ?_
      refine vs_iload_n C rfl d_F_drop_21 ?_
      refine vs_iconst (v := 1) C (by decide) d_F_drop_22 ?_
      refine vs_iadd C d_F_drop_23 ?_
      refine vs_ialdN C d_F_drop_24 rfl (nI_1 i) ((by omega)) (by decide) ?_
      refine vs_iastN C d_F_drop_25 rfl (rfl) ((by omega)) (by decide) ?_
      refine vs_aload_n C rfl d_F_drop_26 ?_
      refine vs_get C fl_F_15 d_F_drop_27 rfl rfl ?_
      refine vs_iload_n C rfl d_F_drop_30 ?_
      refine vs_aload_n C rfl d_F_drop_31 ?_
      refine vs_get C fl_F_15 d_F_drop_32 rfl rfl ?_
      refine vs_iload_n C rfl d_F_drop_35 ?_
      refine vs_iconst (v := 1) C (by decide) d_F_drop_36 ?_
      refine vs_iadd C d_F_drop_37 ?_
      refine vs_ialdN C d_F_drop_38 rfl (nI_1 i) ((by omega)) (by decide) ?_
      refine vs_iastN C d_F_drop_39 rfl (rfl) ((by omega)) (by decide) ?_
      refine vs_aload_n C rfl d_F_drop_40 ?_
      refine vs_get C fl_F_18 d_F_drop_41 rfl rfl ?_
      refine vs_iload_n C rfl d_F_drop_44 ?_
      refine vs_aload_n C rfl d_F_drop_45 ?_
      refine vs_get C fl_F_18 d_F_drop_46 rfl rfl ?_
      refine vs_iload_n C rfl d_F_drop_49 ?_
      refine vs_iconst (v := 1) C (by decide) d_F_drop_50 ?_
      refine vs_iadd C d_F_drop_51 ?_
      refine vs_laldN C d_F_drop_52 rfl (nI_1 i) ((by omega)) (by decide) ?_
      refine vs_lastN C d_F_drop_53 rfl (rfl) ((by omega)) (by decide) ?_
      refine vs_iinc C d_F_drop_54 rfl (nI_1 i) (by decide) ?_
      refine vs_goto (tgt := 2) C d_F_drop_57 (by decide) ?_
      have := ih (i + 1) (by omega) (by omega) (by omega)
      refine vs_mem_eq ?_ this
      show vs_mem (fSh S j (i + 1)) = vs_mem (vs_uL (vs_uI (vs_uI S 7 (upd (sh (S.1 7) j i) i (sh (S.1 7) j i (i + 1)))) 8 (upd (sh (S.1 8) j i) i (sh (S.1 8) j i (i + 1)))) 9 (vp_updL (sh (S.2.1 9) j i) i (sh (S.2.1 9) j i (i + 1))))
      rw [sh_i hji, sh_i hji, sh_l hji]
      rfl
end Drop
set_option maxRecDepth 100000 in
set_option maxHeartbeats 4000000 in
theorem k_F_drop (l : Launch) (b : Nat) (D : va_G) (aC : Nat → ClassId) (S : vs_S) (k j : Nat) (hk : (S.2.2.2.2.1 6 3) = nI k) (hk5 : k ≤ 5) (hj : j < k) : vs_M l b D aC false false y_F_drop (.code y_F_drop c_F_drop 3 (Option.none : Option Jvm.ClassFile.FieldType)) { frames := 0, cells := 0, slots := 0, locals := 0 } [.ref 6, .int (nI j)] (vs_mem S) (vs_ret none (vs_mem (fDrop S j k))) := by
  refine vs_M.of (by decide) (Nat.le_of_ble_eq_true rfl) ?_
  intro p e s m args below meth c C hmn hr hx htg
  generalize hQ : vs_E below args s b D aC false false (vs_ret none (vs_mem (fDrop S j k))) { frames := 0, cells := 0, slots := 0, locals := 0 } = Q
  refine vs_iload_n C rfl d_F_drop_0 ?_
  refine vs_istore_n C d_F_drop_1 (by decide) ?_
  refine vs_ck (vs_mem_eq (fSh_0 S j) (drop_l C S k j hk hk5 hj ?_ rfl (k + 1) j (Nat.le_refl _) (by omega) (by omega)))
  refine vs_aload_n C rfl d_F_drop_60 ?_
  refine vs_dup C rfl d_F_drop_61 ?_
  refine vs_get C fl_F_22 d_F_drop_62 rfl rfl ?_
  refine vs_iconst (v := 1) C (by decide) d_F_drop_65 ?_
  refine vs_isub C d_F_drop_66 ?_
  refine vs_put C fl_F_22 d_F_drop_67 rfl rfl rfl (Nat.le_of_ble_eq_true rfl) ?_
  subst hQ
  exact vs_vret C hr d_F_drop_70 ⟨Nat.le_of_ble_eq_true rfl, Nat.le_of_ble_eq_true rfl⟩ (fun h => by cases h) (by first | exact (fun _ => rfl) | exact (fun h => by cases h)) (⟨rfl, rfl⟩)
/-- the first place with (x, u) below n -/
def pl (f g : Nat → Int32) (x u : Int32) : Nat → Option Nat
  | 0 => none
  | n + 1 => match pl f g x u n with
    | some i => some i
    | none => if f n = x ∧ g n = u then some n else none
def plV (o : Option Nat) : Int32 := match o with
  | some i => nI i
  | none => -1
theorem pl_none {f g : Nat → Int32} {x u : Int32} : ∀ {n : Nat}, pl f g x u n = none ↔ ∀ i, i < n → ¬ (f i = x ∧ g i = u)
  | 0 => ⟨(fun _ i h => by omega), fun _ => rfl⟩
  | n + 1 => by
    simp only [pl]
    cases hp : pl f g x u n with
    | some j =>
      have h1 : ¬ ∀ i, i < n → ¬ (f i = x ∧ g i = u) := fun h => by rw [pl_none.mpr h] at hp; cases hp
      exact ⟨(fun h => by cases h), fun h => absurd (fun i hi => h i (by omega)) h1⟩
    | none =>
      have h1 := pl_none.mp hp
      by_cases hc : f n = x ∧ g n = u
      · simp only [if_pos hc]
        exact ⟨(fun h => by cases h), fun h => absurd hc (h n (by omega))⟩
      · simp only [if_neg hc]
        refine ⟨fun _ i hi => ?_, fun _ => trivial⟩
        rcases Nat.lt_or_ge i n with h | h
        · exact h1 i h
        · have : i = n := by omega
          subst this
          exact hc
theorem pl_some {f g : Nat → Int32} {x u : Int32} : ∀ {n i : Nat}, pl f g x u n = some i ↔ i < n ∧ (f i = x ∧ g i = u) ∧ ∀ j, j < i → ¬ (f j = x ∧ g j = u)
  | 0, i => ⟨(fun h => by cases h), fun h => by omega⟩
  | n + 1, i => by
    simp only [pl]
    cases hp : pl f g x u n with
    | some j =>
      have h1 := pl_some.mp hp
      constructor
      · intro h
        cases h
        exact ⟨by omega, h1.2⟩
      · rintro ⟨h2, h3, h4⟩
        have : i = j := by
          rcases Nat.lt_trichotomy i j with h | h | h
          · exact absurd h3 (h1.2.2 i h)
          · exact h
          · exact absurd h1.2.1 (h4 j h)
        rw [this]
    | none =>
      have h1 := pl_none.mp hp
      by_cases hc : f n = x ∧ g n = u
      · simp only [if_pos hc, Option.some.injEq]
        constructor
        · rintro rfl
          exact ⟨by omega, hc, h1⟩
        · rintro ⟨h2, h3, h4⟩
          rcases Nat.lt_or_ge i n with h | h
          · exact absurd h3 (h1 i h)
          · omega
      · simp only [if_neg hc]
        constructor
        · intro h; cases h
        · rintro ⟨h2, h3, h4⟩
          rcases Nat.lt_or_ge i n with h | h
          · exact absurd h3 (h1 i h)
          · have : i = n := by omega
            subst this
            exact absurd h3 hc
section Place
variable {p : Program} {l : Launch} {e : Env} {R : Room} {s : State} {m : MethodId} {args : Array Value} {below : List Frame} {meth : Method} {c : Code} {b : Nat} {D : va_G} {aC : Nat → ClassId} {Q : State → Prop} {kc ks : Nat} {ck : Bool}
theorem place_l (C : vs_X p s m args meth c b D aC "VeilSearch$Filters" c_F_placeOf 4) (S : vs_S) (x u : Int32) (k : Nat) (hk : (S.2.2.2.2.1 6 3) = nI k) (hk5 : k ≤ 5) (K1 : ∀ i : Nat, pl (S.1 7) (S.1 8) x u k = some i → vs_G p l e R s m args below meth c b D aC 4 Q kc ks ck (vs_mem S) 31 [some (.ref 6), some (.int x), some (.int u), some (.int (nI i))] [.int (nI i)]) (K0 : pl (S.1 7) (S.1 8) x u k = none → vs_G p l e R s m args below meth c b D aC 4 Q kc ks ck (vs_mem S) 38 [some (.ref 6), some (.int x), some (.int u), some (.int (nI k))] []) : ∀ n i : Nat, i ≤ k → k - i < n → pl (S.1 7) (S.1 8) x u i = none → vs_G p l e R s m args below meth c b D aC 4 Q kc ks ck (vs_mem S) 2 [some (.ref 6), some (.int x), some (.int u), some (.int (nI i))] [] := by
  intro n
  induction n with
  | zero => intro i _ h; omega
  | succ n ih =>
    intro i hi hn hh
    refine vs_iload_n C rfl d_F_placeOf_2 ?_
    refine vs_aload_n C rfl d_F_placeOf_3 ?_
    refine vs_get C fl_F_22 d_F_placeOf_4 rfl rfl ?_
    refine vs_icmp_ge (tgt := 38) C d_F_placeOf_7 (by decide) (fun h1 => ?_) (fun h1 => ?_)
    · have h2 := n_ge (N := k) (i := i) h1 hk rfl (by omega) (by omega)
      obtain rfl : i = k := by omega
      exact K0 hh
    · have hlt := n_lt (N := k) (i := i) h1 hk rfl (by omega) (by omega)
      refine vs_aload_n C rfl d_F_placeOf_10 ?_
      refine vs_get C fl_F_9 d_F_placeOf_11 rfl rfl ?_
      refine vs_iload_n C rfl d_F_placeOf_14 ?_
      refine vs_ialdN C d_F_placeOf_15 rfl (rfl) ((by omega)) (by decide) ?_
      refine vs_iload_n C rfl d_F_placeOf_16 ?_
      refine vs_icmp_ne (tgt := 32) C d_F_placeOf_17 (by decide) (fun h2 => ?_) (fun h2 => ?_)
      · refine vs_iinc C d_F_placeOf_32 rfl (nI_1 i) (by decide) ?_
        refine vs_goto (tgt := 2) C d_F_placeOf_35 (by decide) ?_
        exact ih (i + 1) (by omega) (by omega) (by simp [pl, hh, h2])
      · refine vs_aload_n C rfl d_F_placeOf_20 ?_
        refine vs_get C fl_F_15 d_F_placeOf_21 rfl rfl ?_
        refine vs_iload_n C rfl d_F_placeOf_24 ?_
        refine vs_ialdN C d_F_placeOf_25 rfl (rfl) ((by omega)) (by decide) ?_
        refine vs_iload_n C rfl d_F_placeOf_26 ?_
        refine vs_icmp_ne (tgt := 32) C d_F_placeOf_27 (by decide) (fun h3 => ?_) (fun h3 => ?_)
        · refine vs_iinc C d_F_placeOf_32 rfl (nI_1 i) (by decide) ?_
          refine vs_goto (tgt := 2) C d_F_placeOf_35 (by decide) ?_
          exact ih (i + 1) (by omega) (by omega) (by simp [pl, hh, h3])
        · refine vs_iload_n C rfl d_F_placeOf_30 ?_
          exact K1 i (pl_some.mpr ⟨hlt, ⟨h2, h3⟩, pl_none.mp hh⟩)
end Place
set_option maxRecDepth 100000 in
set_option maxHeartbeats 4000000 in
theorem k_F_placeOf (l : Launch) (b : Nat) (D : va_G) (aC : Nat → ClassId) (S : vs_S) (x u : Int32) (k : Nat) (hk : (S.2.2.2.2.1 6 3) = nI k) (hk5 : k ≤ 5) : vs_M l b D aC false true y_F_placeOf (.code y_F_placeOf c_F_placeOf 4 (Option.some Jvm.ClassFile.FieldType.int)) { frames := 0, cells := 0, slots := 0, locals := 0 } [.ref 6, .int x, .int u] (vs_mem S) (vs_ret (some (.int (plV (pl (S.1 7) (S.1 8) x u k)))) (vs_mem S)) := by
  refine vs_M.of (by decide) (Nat.le_of_ble_eq_true rfl) ?_
  intro p e s m args below meth c C hmn hr hx htg
  generalize hQ : vs_E below args s b D aC false true (vs_ret (some (.int (plV (pl (S.1 7) (S.1 8) x u k)))) (vs_mem S)) { frames := 0, cells := 0, slots := 0, locals := 0 } = Q
  refine vs_iconst (v := 0) C (by decide) d_F_placeOf_0 ?_
  refine vs_istore_n C d_F_placeOf_1 (by decide) ?_
  refine place_l C S x u k hk hk5 (fun i h => ?_) (fun h => ?_) (k + 1) 0 (Nat.zero_le _) (by omega) rfl
  · subst hQ
    exact vs_iret C hr d_F_placeOf_31 ⟨Nat.le_of_ble_eq_true rfl, Nat.le_of_ble_eq_true rfl⟩ (fun h => by cases h) (by first | exact (fun _ => rfl) | exact (fun h => by cases h)) (vs_rti (by rw [h]; rfl))
  · refine vs_iconst (v := (-1)) C (by decide) d_F_placeOf_38 ?_
    subst hQ
    exact vs_iret C hr d_F_placeOf_39 ⟨Nat.le_of_ble_eq_true rfl, Nat.le_of_ble_eq_true rfl⟩ (fun h => by cases h) (by first | exact (fun _ => rfl) | exact (fun h => by cases h)) (vs_rti (by rw [h]; rfl))
def fRe (S : vs_S) (j k : Nat) : vs_S := vs_ui (fApp (fDrop S j k) (k - 1) (S.1 7 j) (S.1 8 j) (S.2.1 9 j)) 6 5 ((S.2.2.2.2.1 6 5) + 1)
theorem fDrop_kept {S : vs_S} {j k : Nat} (hk : (S.2.2.2.2.1 6 3) = nI k) (h : 0 < k) : ((fDrop S j k).2.2.2.2.1 6 3) = nI (k - 1) := by
  show (S.2.2.2.2.1 6 3) - 1 = nI (k - 1)
  rw [hk]
  exact pk_sub (a := k) (b := 1) (by omega)
set_option maxRecDepth 100000 in
set_option maxHeartbeats 4000000 in
theorem k_F_reuse (l : Launch) (b : Nat) (D : va_G) (aC : Nat → ClassId) (S : vs_S) (k j : Nat) (hk : (S.2.2.2.2.1 6 3) = nI k) (hk5 : k ≤ 5) (hj : j < k) : vs_M l b D aC false false y_F_reuse (.code y_F_reuse c_F_reuse 6 (Option.some Jvm.ClassFile.FieldType.long)) { frames := 1, cells := 0, slots := 0, locals := 24 } [.ref 6, .int (nI j)] (vs_mem S) (vs_ret (some (.long (S.2.1 9 j))) (vs_mem (fRe S j k))) := by
  refine vs_M.of (by decide) (Nat.le_of_ble_eq_true rfl) ?_
  intro p e s m args below meth c C hmn hr hx htg
  generalize hQ : vs_E below args s b D aC false false (vs_ret (some (.long (S.2.1 9 j))) (vs_mem (fRe S j k))) { frames := 1, cells := 0, slots := 0, locals := 24 } = Q
  refine vs_aload_n C rfl d_F_reuse_0 ?_
  refine vs_get C fl_F_9 d_F_reuse_1 rfl rfl ?_
  refine vs_iload_n C rfl d_F_reuse_4 ?_
  refine vs_ialdN C d_F_reuse_5 rfl (rfl) ((by omega)) (by decide) ?_
  refine vs_istore_n C d_F_reuse_6 (by decide) ?_
  refine vs_aload_n C rfl d_F_reuse_7 ?_
  refine vs_get C fl_F_15 d_F_reuse_8 rfl rfl ?_
  refine vs_iload_n C rfl d_F_reuse_11 ?_
  refine vs_ialdN C d_F_reuse_12 rfl (rfl) ((by omega)) (by decide) ?_
  refine vs_istore_n C d_F_reuse_13 (by decide) ?_
  refine vs_aload_n C rfl d_F_reuse_14 ?_
  refine vs_get C fl_F_18 d_F_reuse_15 rfl rfl ?_
  refine vs_iload_n C rfl d_F_reuse_18 ?_
  refine vs_laldN C d_F_reuse_19 rfl (rfl) ((by omega)) (by decide) ?_
  refine vs_lstore C d_F_reuse_20 (by decide) ?_
  refine vs_aload_n C rfl d_F_reuse_22 ?_
  refine vs_iload_n C rfl d_F_reuse_23 ?_
  refine vs_cV C (k_F_drop l b D aC S k j hk hk5 hj) yk_F_drop ml_F_32 im_F_drop se_F_drop d_F_reuse_24 rfl rfl rfl rfl (by exact Nat.le_of_ble_eq_true rfl) (by exact ⟨Nat.le_of_ble_eq_true rfl, Nat.le_of_ble_eq_true rfl⟩) (by exact ⟨Nat.le_of_ble_eq_true rfl, Nat.le_of_ble_eq_true rfl⟩) (fun h => by cases h) ?_
  refine vs_aload_n C rfl d_F_reuse_27 ?_
  refine vs_iload_n C rfl d_F_reuse_28 ?_
  refine vs_iload_n C rfl d_F_reuse_29 ?_
  refine vs_lload C rfl d_F_reuse_30 ?_
  refine vs_cV C (k_F_append l b D aC (fDrop S j k) (k - 1) (S.1 7 j) (S.1 8 j) (S.2.1 9 j) (fDrop_kept hk (by omega)) (by omega)) yk_F_append ml_F_36 im_F_append se_F_append d_F_reuse_32 rfl rfl rfl rfl (by exact Nat.le_of_ble_eq_true rfl) (by exact ⟨Nat.le_of_ble_eq_true rfl, Nat.le_of_ble_eq_true rfl⟩) (by exact ⟨Nat.le_of_ble_eq_true rfl, Nat.le_of_ble_eq_true rfl⟩) (fun h => by cases h) ?_
  refine vs_aload_n C rfl d_F_reuse_35 ?_
  refine vs_dup C rfl d_F_reuse_36 ?_
  refine vs_get C fl_F_29 d_F_reuse_37 rfl rfl ?_
  refine vs_iconst (v := 1) C (by decide) d_F_reuse_40 ?_
  refine vs_iadd C d_F_reuse_41 ?_
  refine vs_put C fl_F_29 d_F_reuse_42 rfl rfl rfl (Nat.le_of_ble_eq_true rfl) ?_
  refine vs_lload C rfl d_F_reuse_45 ?_
  subst hQ
  exact vs_lret C hr d_F_reuse_47 ⟨Nat.le_of_ble_eq_true rfl, Nat.le_of_ble_eq_true rfl⟩ (fun h => by cases h) (by first | exact (fun _ => rfl) | exact (fun h => by cases h)) (⟨rfl, rfl⟩)
def fNew (S : vs_S) (k : Nat) (x u : Int32) (ids : Int64) : vs_S := if k = 5 then vs_ui (fApp (fDrop S 0 5) 4 x u ids) 6 4 ((S.2.2.2.2.1 6 4) + 1) else vs_ui (fApp S k x u ids) 6 4 ((S.2.2.2.2.1 6 4) + 1)
set_option maxRecDepth 100000 in
set_option maxHeartbeats 4000000 in
theorem k_F_keepNew (l : Launch) (b : Nat) (D : va_G) (aC : Nat → ClassId) (S : vs_S) (k : Nat) (x u : Int32) (ids : Int64) (hk : (S.2.2.2.2.1 6 3) = nI k) (hk5 : k ≤ 5) : vs_M l b D aC false false y_F_keepNew (.code y_F_keepNew c_F_keepNew 5 (Option.none : Option Jvm.ClassFile.FieldType)) { frames := 1, cells := 0, slots := 0, locals := 24 } [.ref 6, .int x, .int u, .long ids] (vs_mem S) (vs_ret none (vs_mem (fNew S k x u ids))) := by
  refine vs_M.of (by decide) (Nat.le_of_ble_eq_true rfl) ?_
  intro p e s m args below meth c C hmn hr hx htg
  generalize hQ : vs_E below args s b D aC false false (vs_ret none (vs_mem (fNew S k x u ids))) { frames := 1, cells := 0, slots := 0, locals := 24 } = Q
  refine vs_aload_n C rfl d_F_keepNew_0 ?_
  refine vs_get C fl_F_22 d_F_keepNew_1 rfl rfl ?_
  refine vs_iconst (v := 5) C (by decide) d_F_keepNew_4 ?_
  refine vs_icmp_ne (tgt := 13) C d_F_keepNew_5 (by decide) (fun h1 => ?_) (fun h1 => ?_)
  · have hne : ¬ k = 5 := fun h => h1 (by rw [hk, h]; rfl)
    rw [show fNew S k x u ids = vs_ui (fApp S k x u ids) 6 4 ((S.2.2.2.2.1 6 4) + 1) from if_neg hne] at hQ
    refine vs_aload_n C rfl d_F_keepNew_13 ?_
    refine vs_iload_n C rfl d_F_keepNew_14 ?_
    refine vs_iload_n C rfl d_F_keepNew_15 ?_
    refine vs_lload_n C rfl d_F_keepNew_16 ?_
    refine vs_cV C (k_F_append l b D aC S k x u ids hk (by omega)) yk_F_append ml_F_36 im_F_append se_F_append d_F_keepNew_17 rfl rfl rfl rfl (by exact Nat.le_of_ble_eq_true rfl) (by exact ⟨Nat.le_of_ble_eq_true rfl, Nat.le_of_ble_eq_true rfl⟩) (by exact ⟨Nat.le_of_ble_eq_true rfl, Nat.le_of_ble_eq_true rfl⟩) (fun h => by cases h) ?_
    refine vs_aload_n C rfl d_F_keepNew_20 ?_
    refine vs_dup C rfl d_F_keepNew_21 ?_
    refine vs_get C fl_F_26 d_F_keepNew_22 rfl rfl ?_
    refine vs_iconst (v := 1) C (by decide) d_F_keepNew_25 ?_
    refine vs_iadd C d_F_keepNew_26 ?_
    refine vs_put C fl_F_26 d_F_keepNew_27 rfl rfl rfl (Nat.le_of_ble_eq_true rfl) ?_
    subst hQ
    exact vs_vret C hr d_F_keepNew_30 ⟨Nat.le_of_ble_eq_true rfl, Nat.le_of_ble_eq_true rfl⟩ (fun h => by cases h) (by first | exact (fun _ => rfl) | exact (fun h => by cases h)) (⟨rfl, rfl⟩)
  · obtain rfl : k = 5 := (nI_eq (by omega) (by decide)).mp (hk.symm.trans h1)
    refine vs_aload_n C rfl d_F_keepNew_8 ?_
    refine vs_iconst (v := 0) C (by decide) d_F_keepNew_9 ?_
    refine vs_cV C (k_F_drop l b D aC S 5 0 hk (by decide) (by decide)) yk_F_drop ml_F_32 im_F_drop se_F_drop d_F_keepNew_10 rfl rfl rfl rfl (by exact Nat.le_of_ble_eq_true rfl) (by exact ⟨Nat.le_of_ble_eq_true rfl, Nat.le_of_ble_eq_true rfl⟩) (by exact ⟨Nat.le_of_ble_eq_true rfl, Nat.le_of_ble_eq_true rfl⟩) (fun h => by cases h) ?_
    refine vs_aload_n C rfl d_F_keepNew_13 ?_
    refine vs_iload_n C rfl d_F_keepNew_14 ?_
    refine vs_iload_n C rfl d_F_keepNew_15 ?_
    refine vs_lload_n C rfl d_F_keepNew_16 ?_
    refine vs_cV C (k_F_append l b D aC (fDrop S 0 5) 4 x u ids (fDrop_kept hk (by decide)) (by decide)) yk_F_append ml_F_36 im_F_append se_F_append d_F_keepNew_17 rfl rfl rfl rfl (by exact Nat.le_of_ble_eq_true rfl) (by exact ⟨Nat.le_of_ble_eq_true rfl, Nat.le_of_ble_eq_true rfl⟩) (by exact ⟨Nat.le_of_ble_eq_true rfl, Nat.le_of_ble_eq_true rfl⟩) (fun h => by cases h) ?_
    refine vs_aload_n C rfl d_F_keepNew_20 ?_
    refine vs_dup C rfl d_F_keepNew_21 ?_
    refine vs_get C fl_F_26 d_F_keepNew_22 rfl rfl ?_
    refine vs_iconst (v := 1) C (by decide) d_F_keepNew_25 ?_
    refine vs_iadd C d_F_keepNew_26 ?_
    refine vs_put C fl_F_26 d_F_keepNew_27 rfl rfl rfl (Nat.le_of_ble_eq_true rfl) ?_
    subst hQ
    exact vs_vret C hr d_F_keepNew_30 ⟨Nat.le_of_ble_eq_true rfl, Nat.le_of_ble_eq_true rfl⟩ (fun h => by cases h) (by first | exact (fun _ => rfl) | exact (fun h => by cases h)) (⟨rfl, rfl⟩)
/-- from place i down: what isn't wanted goes -/
def fAll (n : Nat) : Nat → vs_S → vs_S
  | 0, S => S
  | i + 1, S => fAll n i (if has_i (S.1 33) (S.1 7 i) n = true then S else fDrop S i ((S.2.2.2.2.1 6 3)).toNatClampNeg)
theorem dec1 (x : Int32) : x + Int32.ofInt (-1) = x - 1 := by
  rw [Int32.sub_eq_add_neg]
  rfl
section All
variable {p : Program} {l : Launch} {e : Env} {R : Room} {s : State} {m : MethodId} {args : Array Value} {below : List Frame} {meth : Method} {c : Code} {b : Nat} {D : va_G} {aC : Nat → ClassId} {Q : State → Prop} {kc ks : Nat} {ck : Bool}
theorem dropAll_l (C : vs_X p s m args meth c b D aC "VeilSearch$Filters" c_F_dropAllBut 3) (n : Nat) (hn6 : n ≤ 6) : ∀ (i : Nat) (S : vs_S) (k : Nat), (S.2.2.2.2.1 32 2) = nI n → (S.2.2.2.2.1 6 3) = nI k → k ≤ 5 → i ≤ k → vs_G p l e { frames := 1, cells := 0, slots := 0, locals := 22 } s m args below meth c b D aC 3 Q 0 0 false (vs_mem (fAll n i S)) 35 [some (.ref 6), some (.ref 32), some (.int (-1))] [] → vs_G p l e { frames := 1, cells := 0, slots := 0, locals := 22 } s m args below meth c b D aC 3 Q 0 0 false (vs_mem S) 7 [some (.ref 6), some (.ref 32), some (.int (nI i - 1))] [] := by
  intro i
  induction i with
  | zero =>
    intro S k h1 h2 h3 h4 hK
    refine vs_iload_n C rfl d_F_dropAllBut_7 ?_
    refine vs_if_lt (tgt := 35) C d_F_dropAllBut_8 (by decide) (fun h5 => ?_) (fun h5 => ?_)
    · exact hK
    · exact absurd (show (nI 0 - 1 : Int32) < 0 by decide) h5
  | succ i ih =>
    intro S k h1 h2 h3 h4 hK
    have hi : nI (i + 1) - 1 = nI i := nI_pred i
    refine vs_iload_n C rfl d_F_dropAllBut_7 ?_
    refine vs_if_lt (tgt := 35) C d_F_dropAllBut_8 (by decide) (fun h5 => ?_) (fun h5 => ?_)
    · exact absurd h5 (by rw [hi]; exact nI_pos (by omega))
    · refine vs_aload_n C rfl d_F_dropAllBut_11 ?_
      refine vs_aload_n C rfl d_F_dropAllBut_12 ?_
      refine vs_get C fl_F_9 d_F_dropAllBut_13 rfl rfl ?_
      refine vs_iload_n C rfl d_F_dropAllBut_16 ?_
      refine vs_ialdN C d_F_dropAllBut_17 rfl (hi) ((by omega)) (by decide) ?_
      refine vs_cV C (k_S_hasNumber l b D aC S (S.1 7 i) n h1 hn6) yk_S_hasNumber ml_F_40 im_S_hasNumber se_S_hasNumber d_F_dropAllBut_18 rfl rfl rfl rfl (by exact Nat.le_of_ble_eq_true rfl) (by exact ⟨Nat.le_of_ble_eq_true rfl, Nat.le_of_ble_eq_true rfl⟩) (by exact ⟨Nat.le_of_ble_eq_true rfl, Nat.le_of_ble_eq_true rfl⟩) (fun h => by cases h) ?_
      refine vs_if_ne (tgt := 29) C d_F_dropAllBut_21 (by decide) (fun h6 => ?_) (fun h6 => ?_)
      · have hh : has_i (S.1 33) (S.1 7 i) n = true := Decidable.not_not.mp (fun h => h6 (b01_f h))
        refine vs_iinc C d_F_dropAllBut_29 rfl ((show nI (i + 1) - 1 + Int32.ofInt (-1) = nI i - 1 by rw [hi]; exact dec1 _)) (by decide) ?_
        refine vs_goto (tgt := 7) C d_F_dropAllBut_32 (by decide) ?_
        refine vs_ck (ih S k h1 h2 h3 (by omega) ?_)
        have e : fAll n (i + 1) S = fAll n i S := by simp only [fAll, if_pos hh]
        rw [e] at hK
        exact hK
      · have hh : ¬ has_i (S.1 33) (S.1 7 i) n = true := b01_0.mp h6
        refine vs_aload_n C rfl d_F_dropAllBut_24 ?_
        refine vs_iload_n C rfl d_F_dropAllBut_25 ?_
        refine vs_st_eq (st2 := [.int (nI i), .ref 6]) (by rw [← hi]; rfl) ?_
        refine vs_cV C (k_F_drop l b D aC S k i h2 h3 (by omega)) yk_F_drop ml_F_32 im_F_drop se_F_drop d_F_dropAllBut_26 rfl rfl rfl rfl (by exact Nat.le_of_ble_eq_true rfl) (by exact ⟨Nat.le_of_ble_eq_true rfl, Nat.le_of_ble_eq_true rfl⟩) (by exact ⟨Nat.le_of_ble_eq_true rfl, Nat.le_of_ble_eq_true rfl⟩) (fun h => by cases h) ?_
        refine vs_iinc C d_F_dropAllBut_29 rfl ((show nI (i + 1) - 1 + Int32.ofInt (-1) = nI i - 1 by rw [hi]; exact dec1 _)) (by decide) ?_
        refine vs_goto (tgt := 7) C d_F_dropAllBut_32 (by decide) ?_
        refine vs_ck (ih (fDrop S i k) (k - 1) h1 (fDrop_kept h2 (by omega)) (by omega) (by omega) ?_)
        have e : fAll n (i + 1) S = fAll n i (fDrop S i k) := by
          simp only [fAll, if_neg hh, h2, nI_clamp (show k < 2 ^ 31 by omega)]
        rw [e] at hK
        exact hK
end All
set_option maxRecDepth 100000 in
set_option maxHeartbeats 4000000 in
theorem k_F_dropAllBut (l : Launch) (b : Nat) (D : va_G) (aC : Nat → ClassId) (S : vs_S) (n k : Nat) (hn : (S.2.2.2.2.1 32 2) = nI n) (hn6 : n ≤ 6) (hk : (S.2.2.2.2.1 6 3) = nI k) (hk5 : k ≤ 5) : vs_M l b D aC false false y_F_dropAllBut (.code y_F_dropAllBut c_F_dropAllBut 3 (Option.none : Option Jvm.ClassFile.FieldType)) { frames := 1, cells := 0, slots := 0, locals := 22 } [.ref 6, .ref 32] (vs_mem S) (vs_ret none (vs_mem (fAll n k S))) := by
  refine vs_M.of (by decide) (Nat.le_of_ble_eq_true rfl) ?_
  intro p e s m args below meth c C hmn hr hx htg
  generalize hQ : vs_E below args s b D aC false false (vs_ret none (vs_mem (fAll n k S))) { frames := 1, cells := 0, slots := 0, locals := 22 } = Q
  refine vs_aload_n C rfl d_F_dropAllBut_0 ?_
  refine vs_get C fl_F_22 d_F_dropAllBut_1 rfl rfl ?_
  refine vs_iconst (v := 1) C (by decide) d_F_dropAllBut_4 ?_
  refine vs_isub C d_F_dropAllBut_5 ?_
  refine vs_istore_n C d_F_dropAllBut_6 (by decide) ?_
  refine vs_ck (vs_lv_eq (lv2 := [some (.ref 6), some (.ref 32), some (.int (nI k - 1))]) (by rw [← hk]; rfl) (dropAll_l C n hn6 k S k hn hk hk5 (Nat.le_refl _) ?_))
  subst hQ
  exact vs_vret C hr d_F_dropAllBut_35 ⟨Nat.le_of_ble_eq_true rfl, Nat.le_of_ble_eq_true rfl⟩ (fun h => by cases h) (by first | exact (fun _ => rfl) | exact (fun h => by cases h)) (⟨rfl, rfl⟩)
end
section
/-! longs as sets of IDS: lN n, n below 2^40 -/
theorem lg0 {x y : Int64} : lg_cmp x y = 0 ↔ x = y := by
  unfold lg_cmp
  by_cases h1 : y < x
  · rw [if_pos h1]
    exact ⟨(fun h => absurd h (by decide)), fun h => by subst h; exact (Int64.lt_irrefl h1).elim⟩
  · rw [if_neg h1]
    by_cases h2 : x = y
    · rw [if_pos h2]
      exact ⟨fun _ => h2, fun _ => rfl⟩
    · rw [if_neg h2]
      exact ⟨(fun h => absurd h (by decide)), fun h => absurd h h2⟩
theorem lo_form {n d : Nat} (h1 : n.testBit d = true) (h2 : ∀ j, j < d → n.testBit j = false) : n = 2 ^ (d + 1) * (n / 2 ^ (d + 1)) + 2 ^ d := by
  apply Nat.eq_of_testBit_eq
  intro i
  rw [Nat.testBit_two_pow_mul_add _ (Nat.pow_lt_pow_right (by decide) (Nat.lt_succ_self d))]
  by_cases hi : i < d + 1
  · rw [if_pos hi, Nat.testBit_two_pow]
    by_cases he : d = i
    · subst he
      simp [h1]
    · rw [h2 i (by omega)]
      simp [he]
  · rw [if_neg hi, Nat.testBit_div_two_pow]
    congr 1
    omega
theorem lo_ex {n : Nat} (h : n ≠ 0) : ∃ d, n.testBit d = true ∧ ∀ j, j < d → n.testBit j = false := by
  obtain ⟨d, h1, h2⟩ := pk_least (fun k => n.testBit k = true) (Nat.exists_testBit_of_ne_zero h)
  exact ⟨d, h1, fun j hj => by simpa using h2 j hj⟩
theorem lo_lt {n d N : Nat} (h : n < 2 ^ N) (h1 : n.testBit d = true) : d < N := by
  rcases Nat.lt_or_ge d N with q | q
  · exact q
  · rw [Nat.testBit_lt_two_pow (Nat.lt_of_lt_of_le h (Nat.pow_le_pow_right (by decide) q))] at h1
    cases h1
theorem lo_ge {n d : Nat} (h1 : n.testBit d = true) : 2 ^ d ≤ n := Nat.ge_two_pow_of_testBit h1
theorem lo_clear {n d : Nat} (h1 : n.testBit d = true) (h2 : ∀ j, j < d → n.testBit j = false) : n &&& (n - 1) = n - 2 ^ d := by
  have hf := lo_form h1 h2
  generalize n / 2 ^ (d + 1) = m at hf
  have hp : 0 < 2 ^ d := Nat.two_pow_pos d
  have e1 : n - 1 = 2 ^ (d + 1) * m + (2 ^ d - 1) := by omega
  have e2 : n - 2 ^ d = 2 ^ (d + 1) * m + 0 := by omega
  have hlt : 2 ^ d < 2 ^ (d + 1) := Nat.pow_lt_pow_right (by decide) (Nat.lt_succ_self d)
  rw [e1, e2]
  apply Nat.eq_of_testBit_eq
  intro i
  rw [Nat.testBit_and, hf, Nat.testBit_two_pow_mul_add _ hlt, Nat.testBit_two_pow_mul_add _ (by omega), Nat.testBit_two_pow_mul_add _ (by omega)]
  by_cases hi : i < d + 1
  · rw [if_pos hi, if_pos hi, if_pos hi, Nat.testBit_two_pow, Nat.testBit_two_pow_sub_one, Nat.zero_testBit]
    by_cases he : d = i
    · subst he; simp
    · simp [he]
  · rw [if_neg hi, if_neg hi, if_neg hi, Bool.and_self]
theorem lo_iso {n d : Nat} (h1 : n.testBit d = true) (h2 : ∀ j, j < d → n.testBit j = false) (hd : d < 64) (hn : n < 2 ^ 64) : n &&& (2 ^ 64 - n) = 2 ^ d := by
  have hf := lo_form h1 h2
  have hml : n / 2 ^ (d + 1) < 2 ^ (63 - d) := by
    rw [Nat.div_lt_iff_lt_mul (Nat.two_pow_pos _), ← Nat.pow_add]
    rw [show 63 - d + (d + 1) = 64 by omega]
    exact hn
  generalize n / 2 ^ (d + 1) = m at hf hml
  have hlt : 2 ^ d < 2 ^ (d + 1) := Nat.pow_lt_pow_right (by decide) (Nat.lt_succ_self d)
  have hpow : 2 ^ (d + 1) * 2 ^ (63 - d) = 2 ^ 64 := by
    rw [← Nat.pow_add]
    congr 1
    omega
  have hmul : 2 ^ (d + 1) * (2 ^ (63 - d) - (m + 1)) = 2 ^ 64 - 2 ^ (d + 1) * m - 2 ^ (d + 1) := by
    rw [Nat.mul_sub, hpow, Nat.mul_add]
    omega
  have hdd : 2 ^ (d + 1) = 2 * 2 ^ d := by rw [Nat.pow_succ]; omega
  have hle : 2 ^ (d + 1) * (m + 1) ≤ 2 ^ 64 := by
    rw [← hpow]
    exact Nat.mul_le_mul_left _ hml
  rw [Nat.mul_add] at hle
  have e1 : 2 ^ 64 - n = 2 ^ (d + 1) * (2 ^ (63 - d) - (m + 1)) + 2 ^ d := by
    rw [hmul, hf]
    omega
  rw [e1]
  apply Nat.eq_of_testBit_eq
  intro i
  rw [Nat.testBit_and, hf, Nat.testBit_two_pow_mul_add _ hlt, Nat.testBit_two_pow_mul_add _ hlt]
  by_cases hi : i < d + 1
  · rw [if_pos hi, if_pos hi, Bool.and_self]
  · rw [if_neg hi, if_neg hi, Nat.testBit_two_pow_sub_succ hml, Nat.testBit_two_pow]
    have : ¬ d = i := by omega
    simp [this]
    exact fun a _ => a
theorem lN_neg {n : Nat} (h0 : 0 < n) (h : n < 2 ^ 64) : -(lN n) = lN (2 ^ 64 - n) := by
  have h1 : lN n + lN (2 ^ 64 - n) = 0 := by
    rw [lN_add, show n + (2 ^ 64 - n) = 2 ^ 64 by omega]
    decide
  have h2 : -(lN n) + (lN n + lN (2 ^ 64 - n)) = -(lN n) := by rw [h1, Int64.add_zero]
  rw [← Int64.add_assoc, Int64.add_left_neg, Int64.zero_add] at h2
  exact h2.symm
def sr (x : Int64) (k : Int32) : Int64 := (x.toUInt64 >>> (k.toInt64.toUInt64 &&& Int64.toUInt64 63)).toInt64
def bc1 (x : Int64) : Int64 := x - (sr x 1 &&& 6148914691236517205)
def bc2 (x : Int64) : Int64 := (x &&& 3689348814741910323) + (sr x 2 &&& 3689348814741910323)
def bc3 (x : Int64) : Int64 := (x + sr x 4) &&& 1085102592571150095
def bc4 (x : Int64) : Int64 := x + sr x 8
def bc5 (x : Int64) : Int64 := x + sr x 16
def bc6 (x : Int64) : Int64 := x + sr x 32
def bcR (x : Int64) : Int32 := (bc6 (bc5 (bc4 (bc3 (bc2 (bc1 x)))))).toInt32 &&& 127
theorem bcR_low : ∀ d, d < 40 → bcR (lN (2 ^ d - 1)) = nI d := by decide +kernel
/-- the lowest ID of a set, and the set without it -/
theorem lo_all {n : Nat} (h0 : n ≠ 0) (h : n < 2 ^ 40) : ∃ d, d < 40 ∧ n.testBit d = true ∧ (∀ j, j < d → n.testBit j = false) ∧ bcR ((lN n &&& -(lN n)) - 1) = nI d ∧ lN n &&& (lN n - 1) = lN (n - 2 ^ d) := by
  obtain ⟨d, h1, h2⟩ := lo_ex h0
  have hd := lo_lt h h1
  have hn : n < 2 ^ 64 := Nat.lt_trans h (by decide)
  refine ⟨d, hd, h1, h2, ?_, ?_⟩
  · rw [lN_neg (Nat.pos_of_ne_zero h0) hn, wb_and hn (by omega), lo_iso h1 h2 (by omega) hn]
    have hp : 0 < 2 ^ d := Nat.two_pow_pos d
    rw [show lN (2 ^ d) - 1 = lN (2 ^ d - 1) from lN_sub (b := 1) hp]
    exact bcR_low d hd
  · rw [show lN n - 1 = lN (n - 1) from lN_sub (b := 1) (Nat.pos_of_ne_zero h0), wb_and hn (by omega), lo_clear h1 h2]
end
section
set_option maxRecDepth 100000 in
set_option maxHeartbeats 4000000 in
theorem k_J_bitCount (l : Launch) (b : Nat) (D : va_G) (aC : Nat → ClassId) (S : vs_S) (x : Int64) : vs_M l b D aC false true y_J_bitCount (.code y_J_bitCount c_J_bitCount 2 (Option.some Jvm.ClassFile.FieldType.int)) { frames := 0, cells := 0, slots := 0, locals := 0 } [.long x] (vs_mem S) (vs_ret (some (.int (bcR x))) (vs_mem S)) := by
  refine vs_M.of (by decide) (Nat.le_of_ble_eq_true rfl) ?_
  intro p e s m args below meth c C hmn hr hx htg
  generalize hQ : vs_E below args s b D aC false true (vs_ret (some (.int (bcR x))) (vs_mem S)) { frames := 0, cells := 0, slots := 0, locals := 0 } = Q
  refine vs_lload_n C rfl d_J_bitCount_0 ?_
  refine vs_lload_n C rfl d_J_bitCount_1 ?_
  refine vs_iconst (v := 1) C (by decide) d_J_bitCount_2 ?_
  refine vs_lushr C d_J_bitCount_3 ?_
  refine vs_ldc2 C w_248 d_J_bitCount_4 ?_
  refine vs_land C d_J_bitCount_7 ?_
  refine vs_lsub C d_J_bitCount_8 ?_
  refine vs_lstore_n C d_J_bitCount_9 (by decide) ?_
  refine vs_lload_n C rfl d_J_bitCount_10 ?_
  refine vs_ldc2 C w_249 d_J_bitCount_11 ?_
  refine vs_land C d_J_bitCount_14 ?_
  refine vs_lload_n C rfl d_J_bitCount_15 ?_
  refine vs_iconst (v := 2) C (by decide) d_J_bitCount_16 ?_
  refine vs_lushr C d_J_bitCount_17 ?_
  refine vs_ldc2 C w_249 d_J_bitCount_18 ?_
  refine vs_land C d_J_bitCount_21 ?_
  refine vs_ladd C d_J_bitCount_22 ?_
  refine vs_lstore_n C d_J_bitCount_23 (by decide) ?_
  refine vs_lload_n C rfl d_J_bitCount_24 ?_
  refine vs_lload_n C rfl d_J_bitCount_25 ?_
  refine vs_iconst (v := 4) C (by decide) d_J_bitCount_26 ?_
  refine vs_lushr C d_J_bitCount_27 ?_
  refine vs_ladd C d_J_bitCount_28 ?_
  refine vs_ldc2 C w_250 d_J_bitCount_29 ?_
  refine vs_land C d_J_bitCount_32 ?_
  refine vs_lstore_n C d_J_bitCount_33 (by decide) ?_
  refine vs_lload_n C rfl d_J_bitCount_34 ?_
  refine vs_lload_n C rfl d_J_bitCount_35 ?_
  refine vs_bipush (v := 8) C (by decide) d_J_bitCount_36 ?_
  refine vs_lushr C d_J_bitCount_38 ?_
  refine vs_ladd C d_J_bitCount_39 ?_
  refine vs_lstore_n C d_J_bitCount_40 (by decide) ?_
  refine vs_lload_n C rfl d_J_bitCount_41 ?_
  refine vs_lload_n C rfl d_J_bitCount_42 ?_
  refine vs_bipush (v := 16) C (by decide) d_J_bitCount_43 ?_
  refine vs_lushr C d_J_bitCount_45 ?_
  refine vs_ladd C d_J_bitCount_46 ?_
  refine vs_lstore_n C d_J_bitCount_47 (by decide) ?_
  refine vs_lload_n C rfl d_J_bitCount_48 ?_
  refine vs_lload_n C rfl d_J_bitCount_49 ?_
  refine vs_bipush (v := 32) C (by decide) d_J_bitCount_50 ?_
  refine vs_lushr C d_J_bitCount_52 ?_
  refine vs_ladd C d_J_bitCount_53 ?_
  refine vs_lstore_n C d_J_bitCount_54 (by decide) ?_
  refine vs_lload_n C rfl d_J_bitCount_55 ?_
  refine vs_l2i C d_J_bitCount_56 ?_
  refine vs_bipush (v := 127) C (by decide) d_J_bitCount_57 ?_
  refine vs_iand C d_J_bitCount_59 ?_
  subst hQ
  exact vs_iret C hr d_J_bitCount_60 ⟨Nat.le_of_ble_eq_true rfl, Nat.le_of_ble_eq_true rfl⟩ (fun h => by cases h) (by first | exact (fun _ => rfl) | exact (fun h => by cases h)) (⟨rfl, rfl⟩)
set_option maxRecDepth 100000 in
set_option maxHeartbeats 4000000 in
theorem k_X_holds (l : Launch) (b : Nat) (D : va_G) (aC : Nat → ClassId) (S : vs_S) (x : Int64) (i : Int32) : vs_M l b D aC false true y_X_holds (.code y_X_holds c_X_holds 3 (Option.some Jvm.ClassFile.FieldType.boolean)) { frames := 0, cells := 0, slots := 0, locals := 0 } [.long x, .int i] (vs_mem S) (vs_ret (some (.int (b01 (¬ sr x i &&& 1 = 0)))) (vs_mem S)) := by
  refine vs_M.of (by decide) (Nat.le_of_ble_eq_true rfl) ?_
  intro p e s m args below meth c C hmn hr hx htg
  generalize hQ : vs_E below args s b D aC false true (vs_ret (some (.int (b01 (¬ sr x i &&& 1 = 0)))) (vs_mem S)) { frames := 0, cells := 0, slots := 0, locals := 0 } = Q
  refine vs_lload_n C rfl d_X_holds_0 ?_
  refine vs_iload_n C rfl d_X_holds_1 ?_
  refine vs_lushr C d_X_holds_2 ?_
  refine vs_lconst (v := 1) C (by decide) d_X_holds_3 ?_
  refine vs_land C d_X_holds_4 ?_
  refine vs_lconst (v := 0) C (by decide) d_X_holds_5 ?_
  refine vs_lcmp C d_X_holds_6 ?_
  refine vs_if_eq (tgt := 14) C d_X_holds_7 (by decide) (fun h1 => ?_) (fun h1 => ?_)
  · refine vs_iconst (v := 0) C (by decide) d_X_holds_14 ?_
    subst hQ
    exact vs_zret C hr (by rfl) d_X_holds_15 ⟨Nat.le_of_ble_eq_true rfl, Nat.le_of_ble_eq_true rfl⟩ (fun h => by cases h) (by first | exact (fun _ => rfl) | exact (fun h => by cases h)) (vs_rti (b01_f (c := ¬ sr x i &&& 1 = 0) (fun h => h (lg0.mp h1))).symm)
  · refine vs_iconst (v := 1) C (by decide) d_X_holds_10 ?_
    refine vs_goto (tgt := 15) C d_X_holds_11 (by decide) ?_
    subst hQ
    exact vs_zret C hr (by rfl) d_X_holds_15 ⟨Nat.le_of_ble_eq_true rfl, Nat.le_of_ble_eq_true rfl⟩ (fun h => by cases h) (by first | exact (fun _ => rfl) | exact (fun h => by cases h)) (vs_rti (b01_t (c := ¬ sr x i &&& 1 = 0) (fun h => h1 (lg0.mpr h))).symm)
set_option maxRecDepth 100000 in
set_option maxHeartbeats 4000000 in
theorem k_X_lowestId (l : Launch) (b : Nat) (D : va_G) (aC : Nat → ClassId) (S : vs_S) (x : Int64) : vs_M l b D aC false true y_X_lowestId (.code y_X_lowestId c_X_lowestId 2 (Option.some Jvm.ClassFile.FieldType.int)) { frames := 1, cells := 0, slots := 0, locals := 21 } [.long x] (vs_mem S) (vs_ret (some (.int (bcR ((x &&& -x) - 1)))) (vs_mem S)) := by
  refine vs_M.of (by decide) (Nat.le_of_ble_eq_true rfl) ?_
  intro p e s m args below meth c C hmn hr hx htg
  generalize hQ : vs_E below args s b D aC false true (vs_ret (some (.int (bcR ((x &&& -x) - 1)))) (vs_mem S)) { frames := 1, cells := 0, slots := 0, locals := 21 } = Q
  refine vs_lload_n C rfl d_X_lowestId_0 ?_
  refine vs_lload_n C rfl d_X_lowestId_1 ?_
  refine vs_lneg C d_X_lowestId_2 ?_
  refine vs_land C d_X_lowestId_3 ?_
  refine vs_lconst (v := 1) C (by decide) d_X_lowestId_4 ?_
  refine vs_lsub C d_X_lowestId_5 ?_
  refine vs_cS C (k_J_bitCount l b D aC S ((x &&& -x) - 1)) yk_J_bitCount ml_X_144 st_J_bitCount d_X_lowestId_6 rfl rfl (by exact Nat.le_of_ble_eq_true rfl) (by exact ⟨Nat.le_of_ble_eq_true rfl, Nat.le_of_ble_eq_true rfl⟩) (by exact ⟨Nat.le_of_ble_eq_true rfl, Nat.le_of_ble_eq_true rfl⟩) (fun h => by cases h) ?_
  subst hQ
  exact vs_iret C hr d_X_lowestId_9 ⟨Nat.le_of_ble_eq_true rfl, Nat.le_of_ble_eq_true rfl⟩ (fun h => by cases h) (by first | exact (fun _ => rfl) | exact (fun h => by cases h)) (⟨rfl, rfl⟩)
def rl : Nat → Int64 → Int64
  | 0, x => x
  | n + 1, x => rl n x &&& (rl n x - 1)
section FB
variable {p : Program} {l : Launch} {e : Env} {R : Room} {s : State} {m : MethodId} {args : Array Value} {below : List Frame} {meth : Method} {c : Code} {b : Nat} {D : va_G} {aC : Nat → ClassId} {Q : State → Prop} {kc ks : Nat} {ck : Bool}
theorem fb_l (C : vs_X p s m args meth c b D aC "VeilSearch" c_X_firstBlock 5) (S : vs_S) (x : Int64) (K : vs_G p l e R s m args below meth c b D aC 5 Q kc ks ck (vs_mem S) 23 [some (.long x), none, some (.long (rl 4 x)), none, some (.int (nI 4))] []) : ∀ n i : Nat, i ≤ 4 → 4 - i < n → vs_G p l e R s m args below meth c b D aC 5 Q kc ks ck (vs_mem S) 5 [some (.long x), none, some (.long (rl i x)), none, some (.int (nI i))] [] := by
  intro n
  induction n with
  | zero => intro i _ h; omega
  | succ n ih =>
    intro i hi hn
    refine vs_iload C rfl d_X_firstBlock_5 ?_
    refine vs_iconst (v := 4) C (by decide) d_X_firstBlock_7 ?_
    refine vs_icmp_ge (tgt := 23) C d_X_firstBlock_8 (by decide) (fun h1 => ?_) (fun h1 => ?_)
    · have h2 := n_ge (N := 4) (i := i) h1 rfl rfl (by decide) (by omega)
      obtain rfl : i = 4 := by omega
      exact K
    · have hlt := n_lt (N := 4) (i := i) h1 rfl rfl (by decide) (by omega)
      refine vs_lload_n C rfl d_X_firstBlock_11 ?_
      refine vs_lload_n C rfl d_X_firstBlock_12 ?_
      refine vs_lconst (v := 1) C (by decide) d_X_firstBlock_13 ?_
      refine vs_lsub C d_X_firstBlock_14 ?_
      refine vs_land C d_X_firstBlock_15 ?_
      refine vs_lstore_n C d_X_firstBlock_16 (by decide) ?_
      refine vs_iinc C d_X_firstBlock_17 rfl (nI_1 i) (by decide) ?_
      refine vs_goto (tgt := 5) C d_X_firstBlock_20 (by decide) ?_
      exact ih (i + 1) (by omega) (by omega)
end FB
set_option maxRecDepth 100000 in
set_option maxHeartbeats 4000000 in
theorem k_X_firstBlock (l : Launch) (b : Nat) (D : va_G) (aC : Nat → ClassId) (S : vs_S) (x : Int64) : vs_M l b D aC false true y_X_firstBlock (.code y_X_firstBlock c_X_firstBlock 5 (Option.some Jvm.ClassFile.FieldType.long)) { frames := 0, cells := 0, slots := 0, locals := 0 } [.long x] (vs_mem S) (vs_ret (some (.long (x &&& (rl 4 x ^^^ (-1))))) (vs_mem S)) := by
  refine vs_M.of (by decide) (Nat.le_of_ble_eq_true rfl) ?_
  intro p e s m args below meth c C hmn hr hx htg
  generalize hQ : vs_E below args s b D aC false true (vs_ret (some (.long (x &&& (rl 4 x ^^^ (-1))))) (vs_mem S)) { frames := 0, cells := 0, slots := 0, locals := 0 } = Q
  refine vs_lload_n C rfl d_X_firstBlock_0 ?_
  refine vs_lstore_n C d_X_firstBlock_1 (by decide) ?_
  refine vs_iconst (v := 0) C (by decide) d_X_firstBlock_2 ?_
  refine vs_istore C d_X_firstBlock_3 (by decide) ?_
  refine fb_l C S x ?_ 5 0 (by decide) (by decide)
  refine vs_lload_n C rfl d_X_firstBlock_23 ?_
  refine vs_lload_n C rfl d_X_firstBlock_24 ?_
  refine vs_ldc2 C w_236 d_X_firstBlock_25 ?_
  refine vs_lxor C d_X_firstBlock_28 ?_
  refine vs_land C d_X_firstBlock_29 ?_
  subst hQ
  exact vs_lret C hr d_X_firstBlock_30 ⟨Nat.le_of_ble_eq_true rfl, Nat.le_of_ble_eq_true rfl⟩ (fun h => by cases h) (by first | exact (fun _ => rfl) | exact (fun h => by cases h)) (⟨rfl, rfl⟩)
set_option maxRecDepth 100000 in
set_option maxHeartbeats 4000000 in
theorem k_D_valuePlace (l : Launch) (b : Nat) (D : va_G) (aC : Nat → ClassId) (S : vs_S) (d f : Int32) : vs_M l b D aC false true y_D_valuePlace (.code y_D_valuePlace c_D_valuePlace 2 (Option.some Jvm.ClassFile.FieldType.int)) { frames := 0, cells := 0, slots := 0, locals := 0 } [.int d, .int f] (vs_mem S) (vs_ret (some (.int (d * 3 + f))) (vs_mem S)) := by
  refine vs_M.of (by decide) (Nat.le_of_ble_eq_true rfl) ?_
  intro p e s m args below meth c C hmn hr hx htg
  generalize hQ : vs_E below args s b D aC false true (vs_ret (some (.int (d * 3 + f))) (vs_mem S)) { frames := 0, cells := 0, slots := 0, locals := 0 } = Q
  refine vs_iload_n C rfl d_D_valuePlace_0 ?_
  refine vs_iconst (v := 3) C (by decide) d_D_valuePlace_1 ?_
  refine vs_imul C d_D_valuePlace_2 ?_
  refine vs_iload_n C rfl d_D_valuePlace_3 ?_
  refine vs_iadd C d_D_valuePlace_4 ?_
  subst hQ
  exact vs_iret C hr d_D_valuePlace_5 ⟨Nat.le_of_ble_eq_true rfl, Nat.le_of_ble_eq_true rfl⟩ (fun h => by cases h) (by first | exact (fun _ => rfl) | exact (fun h => by cases h)) (⟨rfl, rfl⟩)
set_option maxRecDepth 100000 in
set_option maxHeartbeats 4000000 in
theorem k_D_codePlace (l : Launch) (b : Nat) (D : va_G) (aC : Nat → ClassId) (S : vs_S) (d f t : Int32) : vs_M l b D aC false true y_D_codePlace (.code y_D_codePlace c_D_codePlace 3 (Option.some Jvm.ClassFile.FieldType.int)) { frames := 1, cells := 0, slots := 0, locals := 21 } [.int d, .int f, .int t] (vs_mem S) (vs_ret (some (.int ((d * 3 + f) * 8 + t))) (vs_mem S)) := by
  refine vs_M.of (by decide) (Nat.le_of_ble_eq_true rfl) ?_
  intro p e s m args below meth c C hmn hr hx htg
  generalize hQ : vs_E below args s b D aC false true (vs_ret (some (.int ((d * 3 + f) * 8 + t))) (vs_mem S)) { frames := 1, cells := 0, slots := 0, locals := 21 } = Q
  refine vs_iload_n C rfl d_D_codePlace_0 ?_
  refine vs_iload_n C rfl d_D_codePlace_1 ?_
  refine vs_cS C (k_D_valuePlace l b D aC S d f) yk_D_valuePlace ml_D_28 st_D_valuePlace d_D_codePlace_2 rfl rfl (by exact Nat.le_of_ble_eq_true rfl) (by exact ⟨Nat.le_of_ble_eq_true rfl, Nat.le_of_ble_eq_true rfl⟩) (by exact ⟨Nat.le_of_ble_eq_true rfl, Nat.le_of_ble_eq_true rfl⟩) (fun h => by cases h) ?_
  refine vs_bipush (v := 8) C (by decide) d_D_codePlace_5 ?_
  refine vs_imul C d_D_codePlace_7 ?_
  refine vs_iload_n C rfl d_D_codePlace_8 ?_
  refine vs_iadd C d_D_codePlace_9 ?_
  subst hQ
  exact vs_iret C hr d_D_codePlace_10 ⟨Nat.le_of_ble_eq_true rfl, Nat.le_of_ble_eq_true rfl⟩ (fun h => by cases h) (by first | exact (fun _ => rfl) | exact (fun h => by cases h)) (⟨rfl, rfl⟩)
theorem vpl {d f : Nat} : nI d * 3 + nI f = nI (d * 3 + f) := by
  rw [show (3 : Int32) = nI 3 from rfl, pk_mul, nI_add]
theorem cpl {d f t : Nat} : (nI d * 3 + nI f) * 8 + nI t = nI ((d * 3 + f) * 8 + t) := by
  rw [vpl, show (8 : Int32) = nI 8 from rfl, pk_mul, nI_add]
def mr (S : vs_S) (d : Nat) (tok : Int32) : Bool := decide (S.1 5 d &&& tok = 0) && decide (¬ S.1 4 d &&& tok = 0)
set_option maxRecDepth 100000 in
set_option maxHeartbeats 4000000 in
theorem k_D_mayRead (l : Launch) (b : Nat) (D : va_G) (aC : Nat → ClassId) (S : vs_S) (d : Nat) (tok : Int32) (hd : d < 41) : vs_M l b D aC false true y_D_mayRead (.code y_D_mayRead c_D_mayRead 3 (Option.some Jvm.ClassFile.FieldType.boolean)) { frames := 0, cells := 0, slots := 0, locals := 0 } [.ref 1, .int (nI d), .int tok] (vs_mem S) (vs_ret (some (.int (b01 (mr S d tok = true)))) (vs_mem S)) := by
  refine vs_M.of (by decide) (Nat.le_of_ble_eq_true rfl) ?_
  intro p e s m args below meth c C hmn hr hx htg
  generalize hQ : vs_E below args s b D aC false true (vs_ret (some (.int (b01 (mr S d tok = true)))) (vs_mem S)) { frames := 0, cells := 0, slots := 0, locals := 0 } = Q
  refine vs_aload_n C rfl d_D_mayRead_0 ?_
  refine vs_get C fl_D_21 d_D_mayRead_1 rfl rfl ?_
  refine vs_iload_n C rfl d_D_mayRead_4 ?_
  refine vs_ialdN C d_D_mayRead_5 rfl (rfl) (hd) (by decide) ?_
  refine vs_iload_n C rfl d_D_mayRead_6 ?_
  refine vs_iand C d_D_mayRead_7 ?_
  refine vs_if_ne (tgt := 26) C d_D_mayRead_8 (by decide) (fun h1 => ?_) (fun h1 => ?_)
  · refine vs_iconst (v := 0) C (by decide) d_D_mayRead_26 ?_
    subst hQ
    exact vs_zret C hr (by rfl) d_D_mayRead_27 ⟨Nat.le_of_ble_eq_true rfl, Nat.le_of_ble_eq_true rfl⟩ (fun h => by cases h) (by first | exact (fun _ => rfl) | exact (fun h => by cases h)) (vs_rti (b01_f (fun h => by simp only [mr, Bool.and_eq_true, decide_eq_true_eq] at h; exact h1 h.1)).symm)
  · refine vs_aload_n C rfl d_D_mayRead_11 ?_
    refine vs_get C fl_D_18 d_D_mayRead_12 rfl rfl ?_
    refine vs_iload_n C rfl d_D_mayRead_15 ?_
    refine vs_ialdN C d_D_mayRead_16 rfl (rfl) (hd) (by decide) ?_
    refine vs_iload_n C rfl d_D_mayRead_17 ?_
    refine vs_iand C d_D_mayRead_18 ?_
    refine vs_if_eq (tgt := 26) C d_D_mayRead_19 (by decide) (fun h2 => ?_) (fun h2 => ?_)
    · refine vs_iconst (v := 0) C (by decide) d_D_mayRead_26 ?_
      subst hQ
      exact vs_zret C hr (by rfl) d_D_mayRead_27 ⟨Nat.le_of_ble_eq_true rfl, Nat.le_of_ble_eq_true rfl⟩ (fun h => by cases h) (by first | exact (fun _ => rfl) | exact (fun h => by cases h)) (vs_rti (b01_f (fun h => by simp only [mr, Bool.and_eq_true, decide_eq_true_eq] at h; exact h.2 h2)).symm)
    · refine vs_iconst (v := 1) C (by decide) d_D_mayRead_22 ?_
      refine vs_goto (tgt := 27) C d_D_mayRead_23 (by decide) ?_
      subst hQ
      exact vs_zret C hr (by rfl) d_D_mayRead_27 ⟨Nat.le_of_ble_eq_true rfl, Nat.le_of_ble_eq_true rfl⟩ (fun h => by cases h) (by first | exact (fun _ => rfl) | exact (fun h => by cases h)) (vs_rti (b01_t (by simp only [mr, Bool.and_eq_true, decide_eq_true_eq]; exact ⟨h1, h2⟩)).symm)
/-- which of 'among' may be read, below n -/
def rd (S : vs_S) (among : Int64) (tok : Int32) : Nat → Int64
  | 0 => 0
  | i + 1 => if (¬ sr among (nI i) &&& 1 = 0) ∧ mr S i tok = true then rd S among tok i ||| ((1 : Int64) <<< ((nI i).toInt64 &&& 63)) else rd S among tok i
section RD
variable {p : Program} {l : Launch} {e : Env} {R : Room} {s : State} {m : MethodId} {args : Array Value} {below : List Frame} {meth : Method} {c : Code} {b : Nat} {D : va_G} {aC : Nat → ClassId} {Q : State → Prop} {kc ks : Nat} {ck : Bool}
theorem rd_l (C : vs_X p s m args meth c b D aC "VeilSearch$Documents" c_D_readableOf 7) (S : vs_S) (x : Int64) (tok : Int32) (k : Nat) (hk : (S.2.2.2.2.1 1 4) = nI k) (hk40 : k ≤ 40) (K : vs_G p l e { frames := 1, cells := 0, slots := 0, locals := 22 } s m args below meth c b D aC 7 Q 0 0 true (vs_mem S) 49 [some (.ref 1), some (.long x), none, some (.int tok), some (.long (rd S x tok k)), none, some (.int (nI k))] []) : ∀ n i : Nat, i ≤ k → k - i < n → vs_G p l e { frames := 1, cells := 0, slots := 0, locals := 22 } s m args below meth c b D aC 7 Q 0 0 true (vs_mem S) 6 [some (.ref 1), some (.long x), none, some (.int tok), some (.long (rd S x tok i)), none, some (.int (nI i))] [] := by
  intro n
  induction n with
  | zero => intro i _ h; omega
  | succ n ih =>
    intro i hi hn
    refine vs_iload C rfl d_D_readableOf_6 ?_
    refine vs_aload_n C rfl d_D_readableOf_8 ?_
    refine vs_get C fl_D_24 d_D_readableOf_9 rfl rfl ?_
    refine vs_icmp_ge (tgt := 49) C d_D_readableOf_12 (by decide) (fun h1 => ?_) (fun h1 => ?_)
    · have h2 := n_ge (N := k) (i := i) h1 hk rfl (by omega) (by omega)
      obtain rfl : i = k := by omega
      exact K
    · have hlt := n_lt (N := k) (i := i) h1 hk rfl (by omega) (by omega)
      refine vs_lload_n C rfl d_D_readableOf_15 ?_
      refine vs_iload C rfl d_D_readableOf_16 ?_
      refine vs_cS C (k_X_holds l b D aC S x (nI i)) yk_X_holds ml_D_32 st_X_holds d_D_readableOf_18 rfl rfl (by exact Nat.le_of_ble_eq_true rfl) (by exact ⟨Nat.le_of_ble_eq_true rfl, Nat.le_of_ble_eq_true rfl⟩) (by exact ⟨Nat.le_of_ble_eq_true rfl, Nat.le_of_ble_eq_true rfl⟩) (fun h => by cases h) ?_
      have hno : ∀ hne : ¬ ((¬ sr x (nI i) &&& 1 = 0) ∧ mr S i tok = true), vs_G p l e { frames := 1, cells := 0, slots := 0, locals := 22 } s m args below meth c b D aC 7 Q 0 0 true (vs_mem S) 43 [some (.ref 1), some (.long x), none, some (.int tok), some (.long (rd S x tok i)), none, some (.int (nI i))] [] := by
        intro hne
        refine vs_iinc C d_D_readableOf_43 rfl (nI_1 i) (by decide) ?_
        refine vs_goto (tgt := 6) C d_D_readableOf_46 (by decide) ?_
        have := ih (i + 1) (by omega) (by omega)
        rw [show rd S x tok (i + 1) = rd S x tok i from if_neg hne] at this
        exact this
      refine vs_if_eq (tgt := 43) C d_D_readableOf_21 (by decide) (fun h2 => ?_) (fun h2 => ?_)
      · exact hno (fun h => absurd h.1 (b01_0.mp h2))
      · refine vs_aload_n C rfl d_D_readableOf_24 ?_
        refine vs_iload C rfl d_D_readableOf_25 ?_
        refine vs_iload_n C rfl d_D_readableOf_27 ?_
        refine vs_cV C (k_D_mayRead l b D aC S i tok (by omega)) yk_D_mayRead ml_D_36 im_D_mayRead se_D_mayRead d_D_readableOf_28 rfl rfl rfl rfl (by exact Nat.le_of_ble_eq_true rfl) (by exact ⟨Nat.le_of_ble_eq_true rfl, Nat.le_of_ble_eq_true rfl⟩) (by exact ⟨Nat.le_of_ble_eq_true rfl, Nat.le_of_ble_eq_true rfl⟩) (fun h => by cases h) ?_
        refine vs_if_eq (tgt := 43) C d_D_readableOf_31 (by decide) (fun h3 => ?_) (fun h3 => ?_)
        · exact hno (fun h => absurd h.2 (b01_0.mp h3))
        · refine vs_lload C rfl d_D_readableOf_34 ?_
          refine vs_lconst (v := 1) C (by decide) d_D_readableOf_36 ?_
          refine vs_iload C rfl d_D_readableOf_37 ?_
          refine vs_lshl C d_D_readableOf_39 ?_
          refine vs_lor C d_D_readableOf_40 ?_
          refine vs_lstore C d_D_readableOf_41 (by decide) ?_
          refine vs_iinc C d_D_readableOf_43 rfl (nI_1 i) (by decide) ?_
          refine vs_goto (tgt := 6) C d_D_readableOf_46 (by decide) ?_
          have := ih (i + 1) (by omega) (by omega)
          rw [show rd S x tok (i + 1) = rd S x tok i ||| ((1 : Int64) <<< ((nI i).toInt64 &&& 63)) from if_pos ⟨Decidable.not_not.mp (fun h => h2 (b01_f h)), Decidable.not_not.mp (fun h => h3 (b01_f h))⟩] at this
          exact this
end RD
set_option maxRecDepth 100000 in
set_option maxHeartbeats 4000000 in
theorem k_D_readableOf (l : Launch) (b : Nat) (D : va_G) (aC : Nat → ClassId) (S : vs_S) (x : Int64) (tok : Int32) (k : Nat) (hk : (S.2.2.2.2.1 1 4) = nI k) (hk40 : k ≤ 40) : vs_M l b D aC false true y_D_readableOf (.code y_D_readableOf c_D_readableOf 7 (Option.some Jvm.ClassFile.FieldType.long)) { frames := 1, cells := 0, slots := 0, locals := 22 } [.ref 1, .long x, .int tok] (vs_mem S) (vs_ret (some (.long (rd S x tok k))) (vs_mem S)) := by
  refine vs_M.of (by decide) (Nat.le_of_ble_eq_true rfl) ?_
  intro p e s m args below meth c C hmn hr hx htg
  generalize hQ : vs_E below args s b D aC false true (vs_ret (some (.long (rd S x tok k))) (vs_mem S)) { frames := 1, cells := 0, slots := 0, locals := 22 } = Q
  refine vs_lconst (v := 0) C (by decide) d_D_readableOf_0 ?_
  refine vs_lstore C d_D_readableOf_1 (by decide) ?_
  refine vs_iconst (v := 0) C (by decide) d_D_readableOf_3 ?_
  refine vs_istore C d_D_readableOf_4 (by decide) ?_
  refine rd_l C S x tok k hk hk40 ?_ (k + 1) 0 (Nat.zero_le _) (by omega)
  refine vs_lload C rfl d_D_readableOf_49 ?_
  subst hQ
  exact vs_lret C hr d_D_readableOf_51 ⟨Nat.le_of_ble_eq_true rfl, Nat.le_of_ble_eq_true rfl⟩ (fun h => by cases h) (by first | exact (fun _ => rfl) | exact (fun h => by cases h)) (⟨rfl, rfl⟩)
/-- the lowest ID -/
def lo (n : Nat) : Nat := Nat.log2 (n &&& (2 ^ 64 - n))
theorem lo_is {n d : Nat} (h1 : n.testBit d = true) (h2 : ∀ j, j < d → n.testBit j = false) (hd : d < 64) (hn : n < 2 ^ 64) : lo n = d := by
  unfold lo
  rw [lo_iso h1 h2 hd hn]
  exact Nat.log2_two_pow
def mx (x y : Int32) : Int32 := if x < y then y else x
def gc (cd : Nat → Int32) (f t : Nat) : Nat → Nat → Int32 → Int32
  | 0, _, g => g
  | k + 1, n, g => if n = 0 then g else gc cd f t k (n - 2 ^ lo n) (mx g (cd ((lo n * 3 + f) * 8 + t)))
theorem lN_ne0 {n : Nat} (h0 : n ≠ 0) (h : n < 2 ^ 40) : ¬ lN n = 0 := fun hh => h0 ((pk_lEQ (b := 0) (Nat.lt_trans h (by decide)) (by decide)).mp hh)
section GC
variable {p : Program} {l : Launch} {e : Env} {R : Room} {s : State} {m : MethodId} {args : Array Value} {below : List Frame} {meth : Method} {c : Code} {b : Nat} {D : va_G} {aC : Nat → ClassId} {Q : State → Prop} {kc ks : Nat} {ck : Bool}
theorem gc_l (C : vs_X p s m args meth c b D aC "VeilSearch$Documents" c_D_greatestCode 9) (S : vs_S) (n0 f t : Nat) (hf : f < 3) (ht : t < 8) (K : ∀ (r : Nat) (i : Nat) (g : Int32), vs_G p l e { frames := 2, cells := 0, slots := 0, locals := 60 } s m args below meth c b D aC 9 Q 0 0 true (vs_mem S) 60 [some (.ref 1), some (.long (lN n0)), none, some (.int (nI f)), some (.int (nI t)), some (.int (gc (S.1 2) f t 4 n0 0)), some (.long (lN r)), none, some (.int (nI i))] []) : ∀ k i r : Nat, ∀ g : Int32, i + k = 4 → r < 2 ^ 40 → gc (S.1 2) f t k r g = gc (S.1 2) f t 4 n0 0 → vs_G p l e { frames := 2, cells := 0, slots := 0, locals := 60 } s m args below meth c b D aC 9 Q 0 0 true (vs_mem S) 9 [some (.ref 1), some (.long (lN n0)), none, some (.int (nI f)), some (.int (nI t)), some (.int g), some (.long (lN r)), none, some (.int (nI i))] [] := by
  intro k
  induction k with
  | zero =>
    intro i r g hi hr hg
    obtain rfl : i = 4 := by omega
    refine vs_iload C rfl d_D_greatestCode_9 ?_
    refine vs_iconst (v := 4) C (by decide) d_D_greatestCode_11 ?_
    refine vs_icmp_ge (tgt := 60) C d_D_greatestCode_12 (by decide) (fun h1 => ?_) (fun h1 => ?_)
    · have := K r 4 g
      rw [← hg] at this
      exact this
    · exact absurd (Int32.le_refl _) h1
  | succ k ih =>
    intro i r g hi hr hg
    refine vs_iload C rfl d_D_greatestCode_9 ?_
    refine vs_iconst (v := 4) C (by decide) d_D_greatestCode_11 ?_
    refine vs_icmp_ge (tgt := 60) C d_D_greatestCode_12 (by decide) (fun h1 => ?_) (fun h1 => ?_)
    · exact absurd (n_ge (N := 4) (i := i) h1 rfl rfl (by decide) (by omega)) (by omega)
    · refine vs_lload C rfl d_D_greatestCode_15 ?_
      refine vs_lconst (v := 0) C (by decide) d_D_greatestCode_17 ?_
      refine vs_lcmp C d_D_greatestCode_18 ?_
      refine vs_if_eq (tgt := 60) C d_D_greatestCode_19 (by decide) (fun h2 => ?_) (fun h2 => ?_)
      · have hr0 : r = 0 := Decidable.not_not.mp (fun h => lN_ne0 h hr (lg0.mp h2))
        have := K r i g
        rw [← hg, show gc (S.1 2) f t (k + 1) r g = g from if_pos hr0] at this
        exact this
      · have hr0 : r ≠ 0 := fun h => h2 (by rw [h]; decide)
        obtain ⟨d, hd, b1, b2, e1, e2⟩ := lo_all hr0 hr
        have hlo := lo_is b1 b2 (by omega) (Nat.lt_trans hr (by decide))
        refine vs_iload C rfl d_D_greatestCode_22 ?_
        refine vs_aload_n C rfl d_D_greatestCode_24 ?_
        refine vs_get C fl_D_9 d_D_greatestCode_25 rfl rfl ?_
        refine vs_lload C rfl d_D_greatestCode_28 ?_
        refine vs_cS C (k_X_lowestId l b D aC S (lN r)) yk_X_lowestId ml_D_40 st_X_lowestId d_D_greatestCode_30 rfl rfl (by exact Nat.le_of_ble_eq_true rfl) (by exact ⟨Nat.le_of_ble_eq_true rfl, Nat.le_of_ble_eq_true rfl⟩) (by exact ⟨Nat.le_of_ble_eq_true rfl, Nat.le_of_ble_eq_true rfl⟩) (fun h => by cases h) ?_
        rw [e1]
        refine vs_iload_n C rfl d_D_greatestCode_33 ?_
        refine vs_iload C rfl d_D_greatestCode_34 ?_
        refine vs_cS C (k_D_codePlace l b D aC S (nI d) (nI f) (nI t)) yk_D_codePlace ml_D_44 st_D_codePlace d_D_greatestCode_36 rfl rfl (by exact Nat.le_of_ble_eq_true rfl) (by exact ⟨Nat.le_of_ble_eq_true rfl, Nat.le_of_ble_eq_true rfl⟩) (by exact ⟨Nat.le_of_ble_eq_true rfl, Nat.le_of_ble_eq_true rfl⟩) (fun h => by cases h) ?_
        refine vs_ialdN C d_D_greatestCode_39 rfl (cpl) ((by omega)) (by decide) ?_
        refine vs_mmax C w_575 d_D_greatestCode_40 (by exact ⟨Nat.le_of_ble_eq_true rfl, Nat.le_of_ble_eq_true rfl⟩) (by exact ⟨Nat.le_of_ble_eq_true rfl, Nat.le_of_ble_eq_true rfl⟩) ?_
        refine vs_istore C d_D_greatestCode_43 (by decide) ?_
        refine vs_lload C rfl d_D_greatestCode_45 ?_
        refine vs_lload C rfl d_D_greatestCode_47 ?_
        refine vs_lconst (v := 1) C (by decide) d_D_greatestCode_49 ?_
        refine vs_lsub C d_D_greatestCode_50 ?_
        refine vs_land C d_D_greatestCode_51 ?_
        refine vs_lstore C d_D_greatestCode_52 (by decide) ?_
        refine vs_iinc C d_D_greatestCode_54 rfl (nI_1 i) (by decide) ?_
        refine vs_goto (tgt := 9) C d_D_greatestCode_57 (by decide) ?_
        have := ih (i + 1) (r - 2 ^ d) (mx g (S.1 2 ((d * 3 + f) * 8 + t))) (by omega) (Nat.lt_of_le_of_lt (Nat.sub_le _ _) hr) (by rw [← hg, ← hlo]; exact (if_neg hr0).symm)
        refine vs_lv_eq ?_ this
        rw [← e2]
        rfl
end GC
set_option maxRecDepth 100000 in
set_option maxHeartbeats 4000000 in
theorem k_D_greatestCode (l : Launch) (b : Nat) (D : va_G) (aC : Nat → ClassId) (S : vs_S) (n f t : Nat) (hn : n < 2 ^ 40) (hf : f < 3) (ht : t < 8) : vs_M l b D aC false true y_D_greatestCode (.code y_D_greatestCode c_D_greatestCode 9 (Option.some Jvm.ClassFile.FieldType.int)) { frames := 2, cells := 0, slots := 0, locals := 60 } [.ref 1, .long (lN n), .int (nI f), .int (nI t)] (vs_mem S) (vs_ret (some (.int (gc (S.1 2) f t 4 n 0))) (vs_mem S)) := by
  refine vs_M.of (by decide) (Nat.le_of_ble_eq_true rfl) ?_
  intro p e s m args below meth c C hmn hr hx htg
  generalize hQ : vs_E below args s b D aC false true (vs_ret (some (.int (gc (S.1 2) f t 4 n 0))) (vs_mem S)) { frames := 2, cells := 0, slots := 0, locals := 60 } = Q
  refine vs_iconst (v := 0) C (by decide) d_D_greatestCode_0 ?_
  refine vs_istore C d_D_greatestCode_1 (by decide) ?_
  refine vs_lload_n C rfl d_D_greatestCode_3 ?_
  refine vs_lstore C d_D_greatestCode_4 (by decide) ?_
  refine vs_iconst (v := 0) C (by decide) d_D_greatestCode_6 ?_
  refine vs_istore C d_D_greatestCode_7 (by decide) ?_
  refine gc_l C S n f t hf ht (fun r i g => ?_) 4 0 n 0 rfl hn rfl
  refine vs_iload C rfl d_D_greatestCode_60 ?_
  subst hQ
  exact vs_iret C hr d_D_greatestCode_62 ⟨Nat.le_of_ble_eq_true rfl, Nat.le_of_ble_eq_true rfl⟩ (fun h => by cases h) (by first | exact (fun _ => rfl) | exact (fun h => by cases h)) (⟨rfl, rfl⟩)
def fd0 (S : vs_S) : vs_S := vs_ui S 1 4 ((S.2.2.2.2.1 1 4) + 1)
def fd1 (S : vs_S) (d q : Nat) : vs_S := vs_uI S 5 (upd (S.1 5) d (S.1 5 d ||| S.1 5 q))
def fd2 (S : vs_S) (d q : Nat) : vs_S := if S.1 4 d = 0 then vs_uI (fd1 S d q) 4 (upd (S.1 4) d (S.1 4 q)) else fd1 S d q
set_option maxRecDepth 100000 in
set_option maxHeartbeats 4000000 in
theorem k_D_finishDraft_n (l : Launch) (b : Nat) (D : va_G) (aC : Nat → ClassId) (S : vs_S) (d : Nat) (hd : (S.2.2.2.2.1 1 4) = nI d) (hd40 : d < 40) : vs_M l b D aC false false y_D_finishDraft (.code y_D_finishDraft c_D_finishDraft 3 (Option.some Jvm.ClassFile.FieldType.int)) { frames := 0, cells := 0, slots := 0, locals := 0 } [.ref 1, .int (-1)] (vs_mem S) (vs_ret (some (.int (nI d))) (vs_mem (fd0 S))) := by
  refine vs_M.of (by decide) (Nat.le_of_ble_eq_true rfl) ?_
  intro p e s m args below meth c C hmn hr hx htg
  generalize hQ : vs_E below args s b D aC false false (vs_ret (some (.int (nI d))) (vs_mem (fd0 S))) { frames := 0, cells := 0, slots := 0, locals := 0 } = Q
  refine vs_aload_n C rfl d_D_finishDraft_0 ?_
  refine vs_get C fl_D_24 d_D_finishDraft_1 rfl rfl ?_
  refine vs_istore_n C d_D_finishDraft_4 (by decide) ?_
  refine vs_iload_n C rfl d_D_finishDraft_5 ?_
  refine vs_iconst (v := (-1)) C (by decide) d_D_finishDraft_6 ?_
  refine vs_icmp_eq (tgt := 46) C d_D_finishDraft_7 (by decide) (fun h1 => ?_) (fun h1 => ?_)
  · refine vs_aload_n C rfl d_D_finishDraft_46 ?_
    refine vs_dup C rfl d_D_finishDraft_47 ?_
    refine vs_get C fl_D_24 d_D_finishDraft_48 rfl rfl ?_
    refine vs_iconst (v := 1) C (by decide) d_D_finishDraft_51 ?_
    refine vs_iadd C d_D_finishDraft_52 ?_
    refine vs_put C fl_D_24 d_D_finishDraft_53 rfl rfl rfl (Nat.le_of_ble_eq_true rfl) ?_
    refine vs_iload_n C rfl d_D_finishDraft_56 ?_
    subst hQ
    exact vs_iret C hr d_D_finishDraft_57 ⟨Nat.le_of_ble_eq_true rfl, Nat.le_of_ble_eq_true rfl⟩ (fun h => by cases h) (by first | exact (fun _ => rfl) | exact (fun h => by cases h)) (⟨by rw [hd], rfl⟩)
  · exact absurd rfl h1
set_option maxRecDepth 100000 in
set_option maxHeartbeats 4000000 in
theorem k_D_finishDraft_p (l : Launch) (b : Nat) (D : va_G) (aC : Nat → ClassId) (S : vs_S) (d q : Nat) (hd : (S.2.2.2.2.1 1 4) = nI d) (hd40 : d < 40) (hq : q < d) : vs_M l b D aC false false y_D_finishDraft (.code y_D_finishDraft c_D_finishDraft 3 (Option.some Jvm.ClassFile.FieldType.int)) { frames := 0, cells := 0, slots := 0, locals := 0 } [.ref 1, .int (nI q)] (vs_mem S) (vs_ret (some (.int (nI d))) (vs_mem (fd0 (fd2 S d q)))) := by
  refine vs_M.of (by decide) (Nat.le_of_ble_eq_true rfl) ?_
  intro p e s m args below meth c C hmn hr hx htg
  generalize hQ : vs_E below args s b D aC false false (vs_ret (some (.int (nI d))) (vs_mem (fd0 (fd2 S d q)))) { frames := 0, cells := 0, slots := 0, locals := 0 } = Q
  refine vs_aload_n C rfl d_D_finishDraft_0 ?_
  refine vs_get C fl_D_24 d_D_finishDraft_1 rfl rfl ?_
  refine vs_istore_n C d_D_finishDraft_4 (by decide) ?_
  refine vs_iload_n C rfl d_D_finishDraft_5 ?_
  refine vs_iconst (v := (-1)) C (by decide) d_D_finishDraft_6 ?_
  refine vs_icmp_eq (tgt := 46) C d_D_finishDraft_7 (by decide) (fun h1 => ?_) (fun h1 => ?_)
  · have h2 : (nI q).toInt = (-1 : Int32).toInt := by rw [h1]
    rw [nI_toInt (by omega)] at h2
    exact absurd h2 (by rw [show (-1 : Int32).toInt = -1 from by decide]; omega)
  · refine vs_aload_n C rfl d_D_finishDraft_10 ?_
    refine vs_get C fl_D_21 d_D_finishDraft_11 rfl rfl ?_
    refine vs_iload_n C rfl d_D_finishDraft_14 ?_
    refine vs_dup2 C rfl rfl d_D_finishDraft_15 ?_
    refine vs_ialdN C d_D_finishDraft_16 rfl (hd) ((by omega)) (by decide) ?_
    refine vs_aload_n C rfl d_D_finishDraft_17 ?_
    refine vs_get C fl_D_21 d_D_finishDraft_18 rfl rfl ?_
    refine vs_iload_n C rfl d_D_finishDraft_21 ?_
    refine vs_ialdN C d_D_finishDraft_22 rfl (rfl) ((by omega)) (by decide) ?_
    refine vs_ior C d_D_finishDraft_23 ?_
    refine vs_iastN C d_D_finishDraft_24 rfl (hd) ((by omega)) (by decide) ?_
    refine vs_aload_n C rfl d_D_finishDraft_25 ?_
    refine vs_get C fl_D_18 d_D_finishDraft_26 rfl rfl ?_
    refine vs_iload_n C rfl d_D_finishDraft_29 ?_
    refine vs_ialdN C d_D_finishDraft_30 rfl (hd) ((by omega)) (by decide) ?_
    refine vs_if_ne (tgt := 46) C d_D_finishDraft_31 (by decide) (fun h2 => ?_) (fun h2 => ?_)
    · have hne : ¬ S.1 4 d = 0 := h2
      rw [show fd2 S d q = fd1 S d q from if_neg hne] at hQ
      refine vs_aload_n C rfl d_D_finishDraft_46 ?_
      refine vs_dup C rfl d_D_finishDraft_47 ?_
      refine vs_get C fl_D_24 d_D_finishDraft_48 rfl rfl ?_
      refine vs_iconst (v := 1) C (by decide) d_D_finishDraft_51 ?_
      refine vs_iadd C d_D_finishDraft_52 ?_
      refine vs_put C fl_D_24 d_D_finishDraft_53 rfl rfl rfl (Nat.le_of_ble_eq_true rfl) ?_
      refine vs_iload_n C rfl d_D_finishDraft_56 ?_
      subst hQ
      exact vs_iret C hr d_D_finishDraft_57 ⟨Nat.le_of_ble_eq_true rfl, Nat.le_of_ble_eq_true rfl⟩ (fun h => by cases h) (by first | exact (fun _ => rfl) | exact (fun h => by cases h)) (⟨by rw [hd], rfl⟩)
    · have he : S.1 4 d = 0 := h2
      rw [show fd2 S d q = vs_uI (fd1 S d q) 4 (upd (S.1 4) d (S.1 4 q)) from if_pos he] at hQ
      refine vs_aload_n C rfl d_D_finishDraft_34 ?_
      refine vs_get C fl_D_18 d_D_finishDraft_35 rfl rfl ?_
      refine vs_iload_n C rfl d_D_finishDraft_38 ?_
      refine vs_aload_n C rfl d_D_finishDraft_39 ?_
      refine vs_get C fl_D_18 d_D_finishDraft_40 rfl rfl ?_
      refine vs_iload_n C rfl d_D_finishDraft_43 ?_
      refine vs_ialdN C d_D_finishDraft_44 rfl (rfl) ((by omega)) (by decide) ?_
      refine vs_iastN C d_D_finishDraft_45 rfl (hd) ((by omega)) (by decide) ?_
      refine vs_aload_n C rfl d_D_finishDraft_46 ?_
      refine vs_dup C rfl d_D_finishDraft_47 ?_
      refine vs_get C fl_D_24 d_D_finishDraft_48 rfl rfl ?_
      refine vs_iconst (v := 1) C (by decide) d_D_finishDraft_51 ?_
      refine vs_iadd C d_D_finishDraft_52 ?_
      refine vs_put C fl_D_24 d_D_finishDraft_53 rfl rfl rfl (Nat.le_of_ble_eq_true rfl) ?_
      refine vs_iload_n C rfl d_D_finishDraft_56 ?_
      subst hQ
      exact vs_iret C hr d_D_finishDraft_57 ⟨Nat.le_of_ble_eq_true rfl, Nat.le_of_ble_eq_true rfl⟩ (fun h => by cases h) (by first | exact (fun _ => rfl) | exact (fun h => by cases h)) (⟨by rw [hd], rfl⟩)
end
