theorem vs_Zs.lays {b : Nat} {n d : String} {U : State} (h : vs_Zs b n d U U.heap) {args : Array Value} : (Cond.laysStatic "java/lang/Throwable" n d).before args U = true := by
  obtain ⟨cT, k, i, f, a, cell, v, h1, h2, h3, h4, h5, h6, h7, h8, h9, h10, h11, h12⟩ := h
  exact Cond.laysStatic_of h1 h2 h3 h4 h5 h6 h7 h8 h9
theorem vs_Zs.isRef {b : Nat} {n d : String} {U : State} (h : vs_Zs b n d U U.heap) {args : Array Value} : (Cond.isRef (.static "java/lang/Throwable" n d)).before args U = true := by
  obtain ⟨cT, k, i, f, a, cell, v, h1, h2, h3, h4, h5, h6, h7, h8, h9, h10, h11, h12⟩ := h
  have hev : (Term.static "java/lang/Throwable" n d).eval args U none [] U = some v := by
    simp [Term.eval, State.fieldNamed?, h2, h3, h4, h5, h6, h10]
  simp only [Cond.before, Cond.holds, Cond.value, hev]
  rcases h11 with rfl | ⟨t, rfl⟩ <;> rfl
/-- the words on the statics -/
def vs_A0 : List Cond := [.laysStatic "java/lang/Throwable" "UNASSIGNED_STACK" "[Ljava/lang/StackTraceElement;", .laysStatic "java/lang/Throwable" "SUPPRESSED_SENTINEL" "Ljava/util/List;", .isRef (.static "java/lang/Throwable" "UNASSIGNED_STACK" "[Ljava/lang/StackTraceElement;"), .isRef (.static "java/lang/Throwable" "SUPPRESSED_SENTINEL" "Ljava/util/List;")]
def vs_ns : List String := ["java/lang/RuntimeException", "java/lang/Exception"]
/-- a throw site of own: kind k, its constructor at entry ic, its class at entry idx -/
def vs_T (own : String) (idx ic k : Nat) : Prop := (∀ a ∈ Bundle.ownAtoms0 own ic (vs_n k) vs_ns, a ∈ gT ∨ a ∈ gN ∨ a ∈ vs_A0) ∧ Bundle.fit (vs_n k) = true ∧ Cond.classLink own idx (vs_n k) ∈ gT ∧ Cond.instantiable (vs_n k) 6 ∈ gT ∧ Cond.initialized (vs_n k) ∈ gT
theorem vs_old {s U : State} {kc ks : Nat} (h : s.sameButNew U [] kc ks) (q : Nat) (hq : q < s.heap.size) : U.heap[q]? = s.heap[q]? := by
  obtain ⟨-, -, -, -, -, h6⟩ := h
  have hc : s.heap[q]? = some s.heap[q] := Array.getElem?_eq_getElem hq
  obtain ⟨c', e1, e2, e3, e4⟩ := h6 q _ hc
  rw [e1, hc]
  have : c'.slots = s.heap[q].slots := Array.ext_getElem? (fun i => e4 i (by simp))
  rw [e2, this]
section Throw
variable {p : Program} {l : Launch} {e : Env} {R : Room} {s : State} {m : MethodId} {args : Array Value} {below : List Frame} {meth : Method} {c : Code} {b : Nat} {D : va_G} {aC : Nat → ClassId} {nL : Nat} {kc ks : Nat} {mem : List vs_C} {pc : Nat} {lv : List (Option Value)} {st : List Value} {own : String} {cc : ByteArray} {pu : Bool} {post : (Option Value ⊕ Nat) → List vs_C → Prop} {rm : Room}
theorem vs_throw (C : vs_X p s m args meth c b D aC own cc nL) (hfl : l.flags = flags0) (hx : c.exceptionTable.isEmpty = true) {idx ic k : Nat} (hE : vs_T own idx ic k) (d0 : decode cc pc = .ok (.new idx, 3)) (d3 : decode cc (pc + 3) = .ok (.dup, 1)) (d4 : decode cc (pc + 4) = .ok (.invokespecial ic, 3)) (d7 : decode cc (pc + 7) = .ok (.athrow, 1)) (hsz : b + mem.length ≤ s.heap.size) (hc : kc + 1 ≤ rm.cells ∧ ks + 6 ≤ rm.slots) (hR : rm.cells ≤ R.cells ∧ rm.slots ≤ R.slots ∧ 6 ≤ R.frames ∧ (st.map fun v => v.category).sum + 81 ≤ R.locals) (hp : post (.inr k) mem) : vs_G p l e R s m args below meth c b D aC nL (vs_E below args s b D aC false pu post rm) kc ks true mem pc lv st := by
  intro H locs ls hP hS hk hl T hT X
  have hcl := hk rfl
  obtain ⟨x1, x2, x3, x4, x5, x6⟩ := X.same
  have X0 : Stand p l e R s m args below meth c T [] kc ks := { X with same := ⟨x1, x2, x3, x4, x5, fun a c0 ha => ⟨c0, by
    show T.heap[a]? = some c0
    rw [hT, hcl a (Array.getElem?_eq_some_iff.mp ha).1]
    exact ha, rfl, rfl, fun _ _ => rfl⟩⟩ }
  obtain ⟨hat, hfit, hcl1, hin1, hini1⟩ := hE
  have hins := C.2.2.2.2.1 _ hin1
  obtain ⟨cX, kX0, hcX, hkX0, -⟩ := Cond.instantiable_spec hins
  have hsum : ((st.map (vs_v b)).map fun v => v.category).sum = (st.map fun v => v.category).sum := by
    rw [List.map_map]
    simp [Function.comp_def, vs_v_cat]
  refine W.newcK C.1 C.2.1 C.2.2.2.1 (C.2.2.2.2.1 _ hcl1) hins (C.2.2.2.2.1 _ hini1) (g := F0 m pc ls (st.map (vs_v b))) rfl d0 (Nat.le_trans hc.1 hR.1) (Nat.le_trans hc.2 hR.2.1) hcX rfl (fun H1 kX hkX e1 z1 o1 => ?_) T hT X0
  refine lv_dup (m := m) (pc := pc + 3) (ls := ls) (rest := st.map (vs_v b)) C.1 C.2.1 d3 (va := .ref H.size) rfl ?_
  intro T1 hT1 X1
  have htr : e.platform.stackTraces = false := by
    rw [X.admits.platform]
    show l.stackTraces = false
    unfold Launch.stackTraces
    rw [hfl]
    decide
  have hout : ∀ x ∈ c.exceptionTable.toList, covers x (pc + 4 + 3) = false := by
    intro x hx2
    have : c.exceptionTable = #[] := by simpa using hx
    rw [this] at hx2
    simp at hx2
  have hA : ∀ a ∈ Bundle.ownAtoms0 own ic (vs_n k) vs_ns, a.before args s = true := by
    intro a ha
    rcases hat a ha with h | h | h
    · exact C.2.2.2.2.1 a h
    · exact va_Nw.use (gN_tab h) (C.2.2.2.2.2.2.2.2.2 a h)
    · simp only [vs_A0, List.mem_cons, List.not_mem_nil, or_false] at h
      rcases h with rfl | rfl | rfl | rfl
      · exact C.2.2.2.2.2.2.2.2.1.1.lays
      · exact C.2.2.2.2.2.2.2.2.1.2.1.lays
      · exact C.2.2.2.2.2.2.2.2.1.1.isRef
      · exact C.2.2.2.2.2.2.2.2.1.2.1.isRef
  obtain ⟨U, hsteps, hrun, hend, hW, hsame, ce, hce, hoc⟩ := X1.ctorThrow0 C.1 htr C.2.2.2.1 hfit (names := vs_ns) (by decide) hA (fun x h => by cases h) hcX hkX (by rw [hT1]; exact e1) hS.1 (g := F0 m (pc + 4) ls (.ref H.size :: .ref H.size :: st.map (vs_v b))) rfl (by rw [C.2.2.1]; exact hl.1) rfl rfl rfl (by rw [C.2.1]; exact d4) (by rw [C.2.1]; exact d7) hout (by show 2 + 3 < R.frames; have := hR.2.2.1; omega) (by
    show 2 * 0 + (1 + ((st.map (vs_v b)).map fun v => v.category).sum) + (13 * (2 + 1) + 41) ≤ R.locals
    rw [hsum]
    have := hR.2.2.2
    omega) C.2.2.2.2.2.2.2.1
  have hold := vs_old hsame
  have hold' : ∀ q : Nat, q < s.heap.size → U.heap[q]? = s.heap[q]? := hold
  refine ⟨U, hsteps, .threw H.size, hrun, hend, ⟨.inr k, mem, ⟨H.size, ce, rfl, hce, by rw [hW.alike.findClass]; exact hoc.cls, by rw [hoc.vm]; rfl⟩, hp, ?_, (fun h => by cases h), fun _ q hq => hold' q hq, hsame.2.1, fun q hq _ => hold' q hq⟩, [], ⟨hW, hsame.mono hc.1 hc.2⟩, (fun q h => by cases h)⟩
  refine hP.kept (fun i x hx2 => ?_)
  have hlt : x.1 < s.heap.size := by
    rw [vs_w_get] at hx2
    cases hmi : mem[i]? with
    | none => rw [hmi] at hx2; simp at hx2
    | some y =>
      rw [hmi] at hx2
      simp only [Option.map_some, Option.some.injEq] at hx2
      subst hx2
      have := (List.getElem?_eq_some_iff.mp hmi).1
      show b + (0 + i) < s.heap.size
      omega
  rw [hold' _ hlt, hcl _ hlt]
end Throw
