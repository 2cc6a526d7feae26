/-! THE LAYER: memory by positions (cell k of ours lies at address b + k), a judgement vs_G over it, a row an instruction -/
abbrev vs_C : Type := (Nat × vp_A) ⊕ (Nat × List Value)
/-- a value by position: '.ref k' is our cell k; '.retAddr a' is the address a itself (the script) -/
def vs_v (b : Nat) (v : Value) : Value := match v with
  | .ref k => .ref (b + k)
  | .retAddr a => .ref a
  | w => w
theorem vs_v_cat (b : Nat) (v : Value) : (vs_v b v).category = v.category := by cases v <;> rfl
def vs_c (b : Nat) (aC : Nat → ClassId) (x : vs_C) : va_E := match x with
  | .inl q => .inl (aC q.1, q.2)
  | .inr q => .inr (q.1, q.2.map (vs_v b))
def vs_w (b : Nat) (aC : Nat → ClassId) : Nat → List vs_C → va_W
  | _, [] => []
  | k, x :: r => (b + k, vs_c b aC x) :: vs_w b aC (k + 1) r
theorem vs_w_get (b : Nat) (aC : Nat → ClassId) : ∀ (mem : List vs_C) (k i : Nat), (vs_w b aC k mem)[i]? = (mem[i]?).map (fun x => (b + (k + i), vs_c b aC x))
  | [], k, i => by simp [vs_w]
  | x :: r, k, 0 => by simp [vs_w]
  | x :: r, k, i + 1 => by
    have h := vs_w_get b aC r (k + 1) i
    have e : k + 1 + i = k + (i + 1) := by omega
    rw [e] at h
    simpa [vs_w] using h
theorem vs_w_len (b : Nat) (aC : Nat → ClassId) : ∀ (mem : List vs_C) (k : Nat), (vs_w b aC k mem).length = mem.length
  | [], k => rfl
  | x :: r, k => by simp [vs_w, vs_w_len b aC r (k + 1)]
theorem vs_w_set (b : Nat) (aC : Nat → ClassId) (y : vs_C) : ∀ (mem : List vs_C) (k i : Nat), vs_w b aC k (mem.set i y) = (vs_w b aC k mem).set i (b + (k + i), vs_c b aC y)
  | [], k, i => by simp [vs_w]
  | x :: r, k, 0 => by simp [vs_w]
  | x :: r, k, i + 1 => by
    have h := vs_w_set b aC y r (k + 1) i
    have e : k + 1 + i = k + (i + 1) := by omega
    rw [e] at h
    simp [vs_w, h]
theorem vs_w_app (b : Nat) (aC : Nat → ClassId) (y : vs_C) : ∀ (mem : List vs_C) (k : Nat), vs_w b aC k (mem ++ [y]) = vs_w b aC k mem ++ [(b + (k + mem.length), vs_c b aC y)]
  | [], k => by simp [vs_w]
  | x :: r, k => by
    have h := vs_w_app b aC y r (k + 1)
    have e : k + 1 + r.length = k + (r.length + 1) := by omega
    rw [e] at h
    simp [vs_w, h]
theorem vs_w_at {b : Nat} {aC : Nat → ClassId} {mem : List vs_C} {i : Nat} {x : vs_C} (h : mem[i]? = some x) : (vs_w b aC 0 mem)[i]? = some (b + i, vs_c b aC x) := by
  rw [vs_w_get, h]
  simp
theorem vs_w_D {b : Nat} {aC : Nat → ClassId} {mem : List vs_C} : va_D (fun q => b ≤ q) (vs_w b aC 0 mem) := by
  refine ⟨fun i j x y hi hj hxy => ?_, fun k q hk => ?_⟩
  · rw [vs_w_get] at hi hj
    cases h1 : mem[i]? with
    | none => rw [h1] at hi; simp at hi
    | some u =>
      cases h2 : mem[j]? with
      | none => rw [h2] at hj; simp at hj
      | some v =>
        rw [h1] at hi; rw [h2] at hj
        simp only [Option.map_some, Option.some.injEq] at hi hj
        subst hi; subst hj
        simp only at hxy
        omega
  · rw [vs_w_get] at hk
    cases h1 : mem[k]? with
    | none => rw [h1] at hk; simp at hk
    | some u =>
      rw [h1] at hk
      simp only [Option.map_some, Option.some.injEq] at hk
      subst hk
      show b ≤ b + (0 + k)
      omega
/-- the array classes: 0 int, 1 long, 2 float, 3 boolean, 4 double -/
def vs_t (aC : Nat → ClassId) : List (ClassId × FieldType) := [(aC 0, .int), (aC 1, .long), (aC 2, .float), (aC 3, .boolean), (aC 4, .double)]
/-- a static of Throwable holds a reference or null, in a cell that is none of ours -/
def vs_Zs (b : Nat) (n d : String) (U : State) (H : Heap) : Prop := ∃ (cT : ClassId) (k : Class) (i : Nat) (f : Field) (a : Nat) (cell : Cell) (v : Value), U.vm.findClass "java/lang/Throwable" = some cT ∧ U.fieldFound? "java/lang/Throwable" n d = some (cT, k, i, f) ∧ f.isStatic = true ∧ k.statics = some a ∧ H[a]? = some cell ∧ cell.vm.isStatics = true ∧ cell.cls = cT ∧ f.slot < cell.slots.size ∧ k.staticTypes[f.slot]? = some f.type ∧ cell.slots[f.slot]? = some v ∧ (v = .null ∨ ∃ t, v = .ref t) ∧ a < b
theorem vs_Zs.moved {b : Nat} {n d : String} {u U : State} {H H1 : Heap} (h : vs_Zs b n d u H) (hvm : u.vm.Alike U.vm) (hq : ∀ a : Nat, a < b → H1[a]? = H[a]?) : vs_Zs b n d U H1 := by
  obtain ⟨cT, k, i, f, a, cell, v, h1, h2, h3, h4, h5, h6, h7, h8, h9, h10, h11, h12⟩ := h
  obtain ⟨k', hi', he⟩ := State.fieldFound?_setVm hvm h2
  exact ⟨cT, k', i, f, a, cell, v, by rw [hvm.findClass]; exact h1, hi', h3, by rw [he]; exact h4, by rw [hq a h12]; exact h5, h6, h7, h8, by rw [he]; exact h9, h10, h11, h12⟩
/-- an exception of the class x isn't one of the class y -/
def vs_nc (x y : String) (U : State) : Prop := ∀ ca cb : ClassId, U.vm.findClass x = some ca → U.vm.findClass y = some cb → U.vm.assignable ca cb = false
theorem vs_nc.moved {x y : String} {u U : State} (hvm : u.vm.Alike U.vm) (h : vs_nc x y u) : vs_nc x y U := fun ca cb h1 h2 => by
  rw [hvm.findClass] at h1 h2
  rw [hvm.assignable]
  exact h ca cb h1 h2
def vs_nC (U : State) : Prop := vs_nc "java/lang/IllegalStateException" "java/lang/IllegalArgumentException" U ∧ vs_nc "java/util/NoSuchElementException" "java/lang/IllegalArgumentException" U ∧ vs_nc "java/lang/UnsupportedOperationException" "java/lang/IllegalArgumentException" U ∧ vs_nc "java/lang/UnsupportedOperationException" "java/util/NoSuchElementException" U
/-- what the start gives of the exceptions -/
def vs_Z (b : Nat) (U : State) (H : Heap) : Prop := vs_Zs b "UNASSIGNED_STACK" "[Ljava/lang/StackTraceElement;" U H ∧ vs_Zs b "SUPPRESSED_SENTINEL" "Ljava/util/List;" U H ∧ vs_nC U
theorem vs_Z.moved {b : Nat} {u U : State} {H H1 : Heap} (h : vs_Z b u H) (hvm : u.vm.Alike U.vm) (hq : ∀ a : Nat, a < b → H1[a]? = H[a]?) : vs_Z b U H1 := ⟨h.1.moved hvm hq, h.2.1.moved hvm hq, h.2.2.1.moved hvm, h.2.2.2.1.moved hvm, h.2.2.2.2.1.moved hvm, h.2.2.2.2.2.moved hvm⟩
/-- what stands for the whole of a method's walk -/
def vs_X (p : Program) (s : State) (m : MethodId) (args : Array Value) (meth : Method) (c : Code) (b : Nat) (D : va_G) (aC : Nat → ClassId) (own : String) (cc : ByteArray) (nL : Nat) : Prop :=
  p.tables.exec = Jvm.exec ∧ c.code = cc ∧ c.maxLocals = nL ∧ s.vm.findClass own = some m.cls ∧ (∀ w ∈ gT, w.before args s = true) ∧ va_K D vwCl (vs_t aC) s ∧ b ≤ s.heap.size ∧ meth.locks = false ∧ vs_Z b s s.heap ∧ (∀ w ∈ gN, va_Nw w s)
/-- the locals, by index -/
def vs_l (b : Nat) (ls : Array Slot) (nL : Nat) (lv : List (Option Value)) : Prop := ls.size = nL ∧ lv_wf ls ∧ ∀ (i : Nat) (v : Value), lv[i]? = some (some v) → ls[i]? = some (.val (vs_v b v))
/-- THE JUDGEMENT: the machine at pc with these locals, this stack and this memory comes to a state with Q -/
def vs_G (p : Program) (l : Launch) (e : Env) (R : Room) (s : State) (m : MethodId) (args : Array Value) (below : List Frame) (meth : Method) (c : Code) (b : Nat) (D : va_G) (aC : Nat → ClassId) (nL : Nat) (Q : State → Prop) (kc ks : Nat) (ck : Bool) (mem : List vs_C) (pc : Nat) (lv : List (Option Value)) (st : List Value) : Prop :=
  ∀ (H : Heap) (locs : List Loc) (ls : Array Slot), va_P D vwCl (vs_w b aC 0 mem) H → va_S (fun q => b ≤ q) s.heap H locs → (ck = true → ∀ q : Nat, q < s.heap.size → H[q]? = s.heap[q]?) → vs_l b ls nL lv → W p l e R s m args below meth c H locs kc ks Q (F0 m pc ls (st.map (vs_v b)))
/-- the listed values as the kit lists them -/
def vs_a (b : Nat) (lv : List (Option Value)) : List (Nat × Value) := (List.range lv.length).filterMap (fun j => (lv[j]?).bind (fun o => o.map (fun v => (j, vs_v b v))))
theorem vs_a_in {b : Nat} {lv : List (Option Value)} {j : Nat} {w : Value} : (j, w) ∈ vs_a b lv ↔ ∃ v, lv[j]? = some (some v) ∧ w = vs_v b v := by
  constructor
  · intro h
    obtain ⟨i, -, hi⟩ := List.mem_filterMap.mp h
    cases h1 : lv[i]? with
    | none => rw [h1] at hi; simp at hi
    | some o =>
      cases o with
      | none => rw [h1] at hi; simp at hi
      | some v =>
        rw [h1] at hi
        simp only [Option.bind_some, Option.map_some, Option.some.injEq, Prod.mk.injEq] at hi
        obtain ⟨rfl, rfl⟩ := hi
        exact ⟨v, h1, rfl⟩
  · rintro ⟨v, h, rfl⟩
    refine List.mem_filterMap.mpr ⟨j, List.mem_range.mpr (List.getElem?_eq_some_iff.mp h).1, ?_⟩
    rw [h]
    rfl
theorem vs_l_has {b : Nat} {ls : Array Slot} {nL : Nat} {lv : List (Option Value)} (h : vs_l b ls nL lv) : lv_has ls nL (vs_a b lv) := by
  refine ⟨h.1, h.2.1, fun q hq => ?_⟩
  obtain ⟨j, w⟩ := q
  obtain ⟨v, h1, rfl⟩ := vs_a_in.mp hq
  exact h.2.2 j v h1
/-- a store at i spoils a long that stands just before -/
def vs_k (lv : List (Option Value)) (i : Nat) : List (Option Value) := match i with
  | 0 => lv
  | j + 1 => match lv[j]? with
    | some (some w) => if w.category = 2 then lv.set j none else lv
    | _ => lv
def vs_s1 (lv : List (Option Value)) (i : Nat) (v : Value) : List (Option Value) := (vs_k lv i).set i (some v)
def vs_s2 (lv : List (Option Value)) (i : Nat) (v : Value) : List (Option Value) := ((vs_k lv i).set i (some v)).set (i + 1) none
theorem vs_k_get {lv : List (Option Value)} {i j : Nat} {w : Value} (h : (vs_k lv i)[j]? = some (some w)) : lv[j]? = some (some w) ∧ ¬ (j + 1 = i ∧ w.category = 2) := by
  cases i with
  | zero => exact ⟨h, fun q => by omega⟩
  | succ n =>
    simp only [vs_k] at h
    cases h1 : lv[n]? with
    | none =>
      rw [h1] at h
      refine ⟨h, fun q => ?_⟩
      have : j = n := by omega
      subst this
      rw [h1] at h; cases h
    | some o =>
      cases o with
      | none =>
        rw [h1] at h
        refine ⟨h, fun q => ?_⟩
        have : j = n := by omega
        subst this
        rw [h1] at h; cases h
      | some u =>
        rw [h1] at h
        simp only at h
        by_cases hc : u.category = 2
        · rw [if_pos hc] at h
          by_cases hj : j = n
          · subst hj
            rw [List.getElem?_set_self (List.getElem?_eq_some_iff.mp h1).1] at h
            cases h
          · rw [List.getElem?_set_ne (Ne.symm hj)] at h
            exact ⟨h, fun q => hj (by omega)⟩
        · rw [if_neg hc] at h
          refine ⟨h, fun q => ?_⟩
          have : j = n := by omega
          subst this
          rw [h1] at h
          cases h
          exact hc q.2
theorem vs_st1 {b : Nat} {ls : Array Slot} {nL i : Nat} {lv : List (Option Value)} {v : Value} (h : lv_has ls nL ((i, vs_v b v) :: (vs_a b lv).filter (fun q => !(q.1 == i) && !(q.1 + 1 == i && q.2.category == 2)))) : vs_l b ls nL (vs_s1 lv i v) := by
  refine ⟨h.1, h.2.1, fun j w hj => ?_⟩
  by_cases hji : j = i
  · subst hji
    have hlt : j < (vs_k lv j).length := by
      have := (List.getElem?_eq_some_iff.mp hj).1
      simpa [vs_s1] using this
    rw [vs_s1, List.getElem?_set_self hlt] at hj
    cases hj
    exact h.2.2 (j, vs_v b v) List.mem_cons_self
  · rw [vs_s1, List.getElem?_set_ne (Ne.symm hji)] at hj
    obtain ⟨h1, h2⟩ := vs_k_get hj
    refine h.2.2 (j, vs_v b w) (List.mem_cons_of_mem _ (List.mem_filter.mpr ⟨vs_a_in.mpr ⟨w, h1, rfl⟩, ?_⟩))
    simp only [vs_v_cat, Bool.and_eq_true, Bool.not_eq_true', beq_eq_false_iff_ne, ne_eq]
    refine ⟨hji, ?_⟩
    by_cases hc : j + 1 = i
    · have : ¬ w.category = 2 := fun q => h2 ⟨hc, q⟩
      simp [this]
    · simp [hc]
theorem vs_st2 {b : Nat} {ls : Array Slot} {nL i : Nat} {lv : List (Option Value)} {v : Value} (h : lv_has ls nL ((i, vs_v b v) :: (vs_a b lv).filter (fun q => !(q.1 == i) && (!(q.1 == i + 1) && !(q.1 + 1 == i && q.2.category == 2))))) : vs_l b ls nL (vs_s2 lv i v) := by
  refine ⟨h.1, h.2.1, fun j w hj => ?_⟩
  by_cases hj1 : j = i + 1
  · subst hj1
    have hlt := (List.getElem?_eq_some_iff.mp hj).1
    rw [vs_s2, List.getElem?_set_self (by simpa [vs_s2] using hlt)] at hj
    cases hj
  · rw [vs_s2, List.getElem?_set_ne (Ne.symm hj1)] at hj
    by_cases hji : j = i
    · subst hji
      have hlt := (List.getElem?_eq_some_iff.mp hj).1
      rw [List.getElem?_set_self (by simpa using hlt)] at hj
      cases hj
      exact h.2.2 (j, vs_v b v) List.mem_cons_self
    · rw [List.getElem?_set_ne (Ne.symm hji)] at hj
      obtain ⟨h1, h2⟩ := vs_k_get hj
      refine h.2.2 (j, vs_v b w) (List.mem_cons_of_mem _ (List.mem_filter.mpr ⟨vs_a_in.mpr ⟨w, h1, rfl⟩, ?_⟩))
      simp only [vs_v_cat, Bool.and_eq_true, Bool.not_eq_true', beq_eq_false_iff_ne, ne_eq]
      refine ⟨hji, hj1, ?_⟩
      by_cases hc : j + 1 = i
      · have : ¬ w.category = 2 := fun q => h2 ⟨hc, q⟩
        simp [this]
      · simp [hc]
/-- a method's first locals -/
def vs_e : List Value → List (Option Value)
  | [] => []
  | v :: r => if v.category = 2 then some v :: none :: vs_e r else some v :: vs_e r
theorem vs_e_in {b : Nat} : ∀ (av : List Value) (k j : Nat) (v : Value), (vs_e av)[j]? = some (some v) → (k + j, vs_v b v) ∈ lv_args k (av.map (vs_v b))
  | [], k, j, v, h => by simp [vs_e] at h
  | u :: r, k, j, v, h => by
    by_cases hc : u.category = 2
    · simp only [vs_e, if_pos hc] at h
      simp only [List.map_cons, lv_args, vs_v_cat, if_pos hc]
      match j, h with
      | 0, h => simp at h; subst h; simp
      | 1, h => simp at h
      | j + 2, h =>
        have h' : (vs_e r)[j]? = some (some v) := by simpa using h
        have := vs_e_in (b := b) r (k + 2) j v h'
        have e : k + 2 + j = k + (j + 2) := by omega
        rw [e] at this
        exact List.mem_cons_of_mem _ this
    · simp only [vs_e, if_neg hc] at h
      simp only [List.map_cons, lv_args, vs_v_cat, if_neg hc]
      match j, h with
      | 0, h => simp at h; subst h; simp
      | j + 1, h =>
        have h' : (vs_e r)[j]? = some (some v) := by simpa using h
        have := vs_e_in (b := b) r (k + 1) j v h'
        have e : k + 1 + j = k + (j + 1) := by omega
        rw [e] at this
        exact List.mem_cons_of_mem _ this
/-- with room for the rest -/
def vs_e0 (nL : Nat) (av : List Value) : List (Option Value) := vs_e av ++ List.replicate (nL - (vs_e av).length) none
theorem vs_entry {b nL : Nat} {av : List Value} (h : (vs_e av).length ≤ nL) : vs_l b ((lg_sl (av.map (vs_v b)) ++ List.replicate (nL - (lg_sl (av.map (vs_v b))).length) Slot.unset).toArray) nL (vs_e0 nL av) := by
  have hlen : ∀ r : List Value, (lg_sl (r.map (vs_v b))).length = (vs_e r).length := by
    intro r
    induction r with
    | nil => rfl
    | cons u r ih =>
      have e : lg_sl ((u :: r).map (vs_v b)) = (if (vs_v b u).category = 2 then [Slot.val (vs_v b u), .second] else [.val (vs_v b u)]) ++ lg_sl (r.map (vs_v b)) := rfl
      rw [e, vs_v_cat]
      by_cases hc : u.category = 2
      · simp [vs_e, hc, ih]
      · simp [vs_e, hc, ih]
  have hl := lv_entry (av.map (vs_v b)) (n := nL) (by rw [hlen]; exact h)
  refine ⟨hl.1, hl.2.1, fun j v hj => ?_⟩
  have h2 : (vs_e av)[j]? = some (some v) := by
    by_cases hlt : j < (vs_e av).length
    · rw [vs_e0, List.getElem?_append_left hlt] at hj
      exact hj
    · rw [vs_e0, List.getElem?_append_right (by omega)] at hj
      have := List.mem_of_getElem? hj
      simp at this
  have h3 := vs_e_in (b := b) av 0 j v h2
  rw [Nat.zero_add] at h3
  exact hl.2.2 _ h3
