/-- exception kinds -/
def vs_n : Nat → String
  | 0 => "java/lang/IllegalArgumentException"
  | 1 => "java/lang/IllegalStateException"
  | 2 => "java/util/NoSuchElementException"
  | 3 => "java/lang/IndexOutOfBoundsException"
  | _ => "java/lang/UnsupportedOperationException"
/-- how an invocation ends: with a value (by position), or thrown: kind k -/
def vs_o (b : Nat) (t : State) (r : Option Value ⊕ Nat) (oc : Outcome) : Prop := match r with
  | .inl v => oc = .returned (v.map (vs_v b))
  | .inr k => ∃ (x : Addr) (cell : Cell), oc = .threw x ∧ t.heap[x]? = some cell ∧ t.vm.findClass (vs_n k) = some cell.cls ∧ cell.vm.isStatics = false
def vs_Q (b : Nat) (D : va_G) (aC : Nat → ClassId) (tg pu : Bool) (post : (Option Value ⊕ Nat) → List vs_C → Prop) : Array Value → State → Outcome → State → Prop := fun _ st oc t => ∃ (r : Option Value ⊕ Nat) (mem' : List vs_C), vs_o b t r oc ∧ post r mem' ∧ va_P D vwCl (vs_w b aC 0 mem') t.heap ∧ (tg = true → t.heap.size = b + mem'.length) ∧ (pu = true → ∀ q : Nat, q < st.heap.size → t.heap[q]? = st.heap[q]?) ∧ va_F (fun q => b ≤ q) st t
def vs_Fr (st t : State) (L : List Loc) (k n : Nat) : Prop := st.WarmedH t.vm ∧ st.sameButNew ({ t with vm := st.vm } : State) L k n
def vs_P (b : Nat) (D : va_G) (aC : Nat → ClassId) (tg : Bool) (av : List Value) (mem : List vs_C) : Array Value → State → Prop := fun v U => v = (av.map (vs_v b)).toArray ∧ va_P D vwCl (vs_w b aC 0 mem) U.heap ∧ va_K D vwCl (vs_t aC) U ∧ b ≤ U.heap.size ∧ (tg = true → U.heap.size = b + mem.length) ∧ vs_Z b U U.heap ∧ (∀ w ∈ gN, va_Nw w U)
/-- THE CONTRACT of y at these arguments and this memory: it ends, and 'post' holds of its end -/
def vs_M (l : Launch) (b : Nat) (D : va_G) (aC : Nat → ClassId) (tg pu : Bool) (y : MethodName) (cw : Cond) (rm : Room) (av : List Value) (mem : List vs_C) (post : (Option Value ⊕ Nat) → List vs_C → Prop) : Prop :=
  MetFree l y (headSpec (cw :: gT) rm) (vs_P b D aC tg av mem) (fun _ _ _ _ _ => True) (fun a st o t => vs_Q b D aC tg pu post a st o t ∧ ∃ L, vs_Fr st t L rm.cells rm.slots ∧ ∀ q ∈ L, b ≤ q.base)
/-- the end of a walk -/
def vs_E (below : List Frame) (args : Array Value) (s : State) (b : Nat) (D : va_G) (aC : Nat → ClassId) (tg pu : Bool) (post : (Option Value ⊕ Nat) → List vs_C → Prop) (rm : Room) : State → Prop := fun t => ∃ o, t.status = .running ∧ Ended t below o ∧ (vs_Q b D aC tg pu post args s o t ∧ ∃ L, vs_Fr s t L rm.cells rm.slots ∧ ∀ q ∈ L, b ≤ q.base)
theorem vs_P_blind {b : Nat} {D : va_G} {aC : Nat → ClassId} {tg : Bool} {av : List Value} {mem : List vs_C} : FrameBlind (vs_P b D aC tg av mem) := by
  intro a U g mk q
  obtain ⟨q0, qP, qK, qb, qt, qZ, qN⟩ := q
  exact ⟨q0, qP, va_K.moved (u := U) (U := U.calling g mk a) (Vm.Alike.refl U.vm) qK, qb, qt, qZ.moved (u := U) (U := U.calling g mk a) (Vm.Alike.refl U.vm) (fun _ _ => rfl), fun w hw => va_Nw.same (u := U) (U := U.calling g mk a) (gN_tab hw) rfl (qN w hw)⟩
theorem vs_M.of {l : Launch} {b : Nat} {D : va_G} {aC : Nat → ClassId} {tg pu : Bool} {y : MethodName} {cc : ByteArray} {mL : Nat} {rt : Option FieldType} {rm : Room} {av : List Value} {mem : List vs_C} {post : (Option Value ⊕ Nat) → List vs_C → Prop} (hy : plainName y.cls = true) (hlen : (vs_e av).length ≤ mL)
    (body : ∀ p e s m args below meth c, vs_X p s m args meth c b D aC y.cls cc mL → meth.name = y.name → meth.sig.returnType = rt → c.exceptionTable.isEmpty = true → (tg = true → s.heap.size = b + mem.length) → vs_G p l e rm s m args below meth c b D aC mL (vs_E below args s b D aC tg pu post rm) 0 0 true mem 0 (vs_e0 mL av) []) : vs_M l b D aC tg pu y (.code y cc mL rt) rm av mem post := by
  refine MetFree.of_bodyS (code := cc) (maxLocals := mL) (ret := rt) hy ?_ ?_
  · intro args s m h hn
    obtain ⟨meth, c, h1, h2, h3, h4, h5, h6, -, -⟩ := Cond.code_spec hn (atoms_spec (ws := Cond.code y cc mL rt :: gT) h _ List.mem_cons_self)
    exact ⟨meth, c, h1, h2, h3, h4, h5, h6⟩
  · intro p e s m args below meth c s₁ B hml hP _
    obtain ⟨rfl, qP, qK, qb, qt, qZ, qN⟩ := hP
    have hts := atoms_spec (ws := Cond.code y cc mL rt :: gT) B.pre
    have hh0 : s₁.heap = s.heap := by rw [B.state]; rfl
    have hG := body p e s m _ below meth c ⟨B.exec, B.bytes, hml, findClass_of_methodNamed B.named, fun w h => hts w (List.mem_cons_of_mem _ h), qK, qb, B.notSynchronized, qZ, qN⟩ (name_of_methodNamed B.named B.method).1 B.returns (B.noHandlers (hts _ List.mem_cons_self)) qt
    have hW := hG s.heap [] _ qP va_S.rf (fun _ _ _ => rfl) (vs_entry (b := b) (nL := mL) (av := av) hlen)
    rw [List.map_nil, ← lg_entry_eq] at hW
    obtain ⟨t, a1, o, b1, b2, b3⟩ := hW s₁ hh0 (Stand.of_body B)
    exact ⟨t, o, a1, b1, b2, b3⟩
/-- a contract without throws is one of the kit's -/
theorem vs_M.met {l : Launch} {b : Nat} {D : va_G} {aC : Nat → ClassId} {tg pu : Bool} {y : MethodName} {cw : Cond} {rm : Room} {av : List Value} {mem : List vs_C} {post : (Option Value ⊕ Nat) → List vs_C → Prop} (h : vs_M l b D aC tg pu y cw rm av mem post) (hno : ∀ k mem', ¬ post (.inr k) mem') : Met l y (cw :: gT) rm (vs_P b D aC tg av mem) (vs_Q b D aC tg pu post) rm.cells rm.slots (fun q => b ≤ q) := by
  intro p e ha hc hk s m args below hf happ hP hK
  obtain ⟨n, o, h1, h2, h3, hq, L, ⟨f1, f2⟩, h5⟩ := h p e ha hc hk s m args below hf happ hP hK
  refine ⟨n, o, h1, h2, h3, hq, L, ⟨?_, f1, f2⟩, h5⟩
  obtain ⟨r, mem', ho, hp, -⟩ := hq
  cases r with
  | inl v => exact ⟨_, ho⟩
  | inr k => exact absurd hp (hno k mem')
/-- the words on a method -/
def vs_Y (y : MethodName) (cc : ByteArray) (mL : Nat) (rt : Option FieldType) (n : Nat) : Prop := Cond.code y cc mL rt ∈ gT ∧ Cond.initialized y.cls ∈ gT ∧ y.cls ≠ "java/lang/invoke/MethodHandle" ∧ y.cls ≠ "java/lang/invoke/VarHandle" ∧ (parseMethodDescriptor y.desc).map (fun d => d.parameters.length) = some n
def vs_L (own : String) (idx : Nat) (y : MethodName) : Prop := Cond.methodLink own idx y ∈ gT ∨ ∃ host, Cond.methodLinkNest own idx y host ∈ gN
theorem gT_sub {cw : Cond} (h : cw ∈ gT) : GoodIn gT (cw :: gT) := fun w hw => (List.mem_cons.mp hw).elim (fun e => by rw [e]; exact gT_good _ h) (gT_good w)
section Calls
variable {p : Program} {l : Launch} {e : Env} {R : Room} {s : State} {m : MethodId} {args : Array Value} {below : List Frame} {meth : Method} {c : Code} {b : Nat} {D : va_G} {aC : Nat → ClassId} {nL : Nat} {Q : State → Prop} {kc ks : Nat} {ck : Bool} {mem : List vs_C} {pc : Nat} {lv : List (Option Value)} {st : List Value} {own : String} {cc : ByteArray}
theorem vs_after {H : Heap} {locs : List Loc} {ls : Array Slot} {st0 rest : List Value} {a : Array Value} {mc ms : Nat} {tg pu : Bool} {post : (Option Value ⊕ Nat) → List vs_C → Prop} (hr : va_Run p l e R s m args below meth c H locs kc ks mc ms (F0 m pc ls st0) rest (vs_Q b D aC tg pu post a) (fun q => b ≤ q)) (hS : va_S (fun q => b ≤ q) s.heap H locs)
    (kk : ∀ (r : Option Value) (mem' : List vs_C) (H1 : Heap) (locs1 : List Loc), post (.inl r) mem' → va_P D vwCl (vs_w b aC 0 mem') H1 → va_S (fun q => b ≤ q) s.heap H1 locs1 → (pu = true → ∀ q : Nat, q < H.size → H1[q]? = H[q]?) → W p l e R s m args below meth c H1 locs1 (kc + mc) (ks + ms) Q (F0 m (pc + 3) ls ((r.map (vs_v b)).toList ++ rest))) : W p l e R s m args below meth c H locs kc ks Q (F0 m pc ls st0) := by
  intro T hT X
  obtain ⟨v, st₀, t, T', L, h0, X', hL, e1, e2, ⟨r, mem', ho, hp, hP, -, hpu, hz, hk⟩, st⟩ := hr T hT X
  rw [h0] at hz hk hpu
  cases r with
  | inr k => obtain ⟨x, cell, hx, -⟩ := ho; cases hx
  | inl r =>
    cases ho
    have hS' : va_S (fun q => b ≤ q) s.heap T'.heap (locs ++ L) := ⟨Nat.le_trans hS.1 (by rw [e1]; exact hz), fun q h1 h2 => by rw [e1, hk q (Nat.lt_of_lt_of_le h1 hS.1) h2]; exact hS.2.1 q h1 h2, fun q hq => by
      rcases List.mem_append.mp hq with h | h
      · exact hS.2.2 q h
      · exact hL q h⟩
    obtain ⟨t2, a1, b1⟩ := kk r mem' T'.heap (locs ++ L) hp (by rw [e1]; exact hP) hS' (fun h q hq => by rw [e1]; exact hpu h q hq) T' rfl X'
    exact ⟨t2, st t2 a1, b1⟩
theorem vs_pre (C : vs_X p s m args meth c b D aC own cc nL) {H : Heap} {locs : List Loc} {av : List Value} {tg : Bool} (hP : va_P D vwCl (vs_w b aC 0 mem) H) (hS : va_S (fun q => b ≤ q) s.heap H locs) (ht : tg = true → H.size = b + mem.length) : ∀ U : State, U.heap = H → s.WarmedH U.vm → vs_P b D aC tg av mem (av.map (vs_v b)).toArray U := by
  intro U hU hW
  refine ⟨rfl, by rw [hU]; exact hP, va_K.moved hW.alike C.2.2.2.2.2.1, by rw [hU]; exact Nat.le_trans C.2.2.2.2.2.2.1 hS.1, by rw [hU]; exact ht, C.2.2.2.2.2.2.2.2.1.moved hW.alike (fun a ha => by rw [hU]; exact hS.2.1 a (Nat.lt_of_lt_of_le ha C.2.2.2.2.2.2.1) (by omega)), fun w hw => gN_warm hw hW (C.2.2.2.2.2.2.2.2.2 w hw)⟩
/-- a method that is called on an object: its memory is given over whole -/
theorem vs_callV (C : vs_X p s m args meth c b D aC own cc nL) {idx n p0 ci mL : Nat} {y : MethodName} {bytes : ByteArray} {rt : Option FieldType} {rm : Room} {As fs : List Value} {tg pu : Bool} {post : (Option Value ⊕ Nat) → List vs_C → Prop} (hM : vs_M l b D aC tg pu y (.code y bytes mL rt) rm (.ref p0 :: As) mem post) (hno : ∀ k mem', ¬ post (.inr k) mem') (hY : vs_Y y bytes mL rt n) (hL : vs_L own idx y) (hi : Cond.instanceMethod y ∈ gT) (hs : Cond.selects y.cls y y ∈ gT) (hd : decode cc pc = .ok (.invokevirtual idx, 3)) (hm : mem[p0]? = some (.inr (ci, fs))) (hci : (vwCl[ci]?).map (fun q => q.1) = some y.cls) (hn : As.length = n) (hw : (st.map fun v => v.category).sum ≤ 8) (hR : rm.frames + 1 ≤ R.frames ∧ 8 + (mL + 11) + rm.locals ≤ R.locals) (hf : kc + rm.cells ≤ R.cells ∧ ks + rm.slots ≤ R.slots) (ht : tg = true → s.heap.size + kc ≤ b + mem.length)
    (kk : ∀ (r : Option Value) (mem' : List vs_C), post (.inl r) mem' → vs_G p l e R s m args below meth c b D aC nL Q (kc + rm.cells) (ks + rm.slots) (ck && pu) mem' (pc + 3) lv (r.toList ++ st)) : vs_G p l e R s m args below meth c b D aC nL Q kc ks ck mem pc lv (As.reverse ++ .ref p0 :: st) := by
  intro H locs ls hP hS hk hl T hT X
  have hup : H.size ≤ s.heap.size + kc := by
    have := X.same.2.2.1
    rw [← hT]
    exact this
  have hlo := vs_size hP (Nat.le_trans C.2.2.2.2.2.2.1 hS.1)
  have hrest : ((st.map (vs_v b)).map fun v => v.category).sum ≤ 8 := by
    rw [List.map_map]
    simpa [Function.comp_def, vs_v_cat] using hw
  have hpre : PreV s H y.cls (b + p0) (vs_P b D aC tg (.ref p0 :: As) mem) (As.map (vs_v b)) := by
    obtain ⟨q, hq, hq1⟩ := Option.map_eq_some_iff.mp hci
    refine ⟨vs_P_blind, ?_, vs_pre C hP hS (fun h => by have := ht h; omega)⟩
    rw [← hq1]
    exact va_recv C.2.2.2.2.2.1 hP hq (vs_w_at (b := b) (aC := aC) hm)
  have hmet := hM.met hno
  have hstack : (F0 m pc ls ((As.reverse ++ .ref p0 :: st).map (vs_v b))).stack = (As.map (vs_v b)).reverse ++ .ref (b + p0) :: st.map (vs_v b) := by
    show (As.reverse ++ .ref p0 :: st).map (vs_v b) = _
    rw [List.map_append, List.map_reverse]
    rfl
  have hgo : ∀ (r : Option Value) (mem' : List vs_C) (H1 : Heap) (locs1 : List Loc), post (.inl r) mem' → va_P D vwCl (vs_w b aC 0 mem') H1 → va_S (fun q => b ≤ q) s.heap H1 locs1 → (pu = true → ∀ q : Nat, q < H.size → H1[q]? = H[q]?) → W p l e R s m args below meth c H1 locs1 (kc + rm.cells) (ks + rm.slots) Q (F0 m (pc + 3) ls ((r.map (vs_v b)).toList ++ st.map (vs_v b))) := by
    intro r mem' H1 locs1 hp hP1 hS1 hp1
    have := kk r mem' hp H1 locs1 ls hP1 hS1 (fun h q hq => by rw [Bool.and_eq_true] at h; rw [hp1 h.2 q (Nat.lt_of_lt_of_le hq hS.1)]; exact hk h.1 q hq) hl
    cases r <;> exact this
  have hS5 : CallFix p m c cc nL s args gT own := ⟨C.1, C.2.1, C.2.2.1, C.2.2.2.1, C.2.2.2.2.1⟩
  have hrun : va_Run p l e R s m args below meth c H locs kc ks rm.cells rm.slots (F0 m pc ls ((As.reverse ++ .ref p0 :: st).map (vs_v b))) (st.map (vs_v b)) (vs_Q b D aC tg pu post (Value.ref (b + p0) :: As.map (vs_v b)).toArray) (fun q => b ≤ q) := by
    rcases hL with hL | ⟨host, hL⟩
    · exact va_runV hS5 hmet (n := n) ⟨callB_of n C.2.2.2.2.1 (gT_sub hY.1) rfl rfl rfl (C.2.2.2.2.1 _ hY.2.1) (C.2.2.2.2.1 _ hL) hY.2.2 hR, C.2.2.2.2.1 _ hi, C.2.2.2.2.1 _ hs⟩ hpre rfl (by simpa using hn) hl.1 hstack (lv_room hrest) hd hf
    · exact va_runVN hS5 hmet (n := n) ⟨va_cnB n C.2.2.2.2.1 (gT_sub hY.1) rfl rfl rfl (C.2.2.2.2.2.2.2.2.2 _ hL) (C.2.2.2.2.1 _ hY.2.1) hY.2.2 hR, C.2.2.2.2.1 _ hi, C.2.2.2.2.1 _ hs⟩ hpre rfl (by simpa using hn) hl.1 hstack (lv_room hrest) hd hf
  exact vs_after hrun hS hgo T hT X
theorem vs_callS (C : vs_X p s m args meth c b D aC own cc nL) {idx n mL : Nat} {y : MethodName} {bytes : ByteArray} {rt : Option FieldType} {rm : Room} {As : List Value} {tg pu : Bool} {post : (Option Value ⊕ Nat) → List vs_C → Prop} (hM : vs_M l b D aC tg pu y (.code y bytes mL rt) rm As mem post) (hno : ∀ k mem', ¬ post (.inr k) mem') (hY : vs_Y y bytes mL rt n) (hL : vs_L own idx y) (hi : Cond.static y ∈ gT) (hd : decode cc pc = .ok (.invokestatic idx, 3)) (hn : As.length = n) (hw : (st.map fun v => v.category).sum ≤ 8) (hR : rm.frames + 1 ≤ R.frames ∧ 8 + (mL + 11) + rm.locals ≤ R.locals) (hf : kc + rm.cells ≤ R.cells ∧ ks + rm.slots ≤ R.slots) (ht : tg = true → s.heap.size + kc ≤ b + mem.length)
    (kk : ∀ (r : Option Value) (mem' : List vs_C), post (.inl r) mem' → vs_G p l e R s m args below meth c b D aC nL Q (kc + rm.cells) (ks + rm.slots) (ck && pu) mem' (pc + 3) lv (r.toList ++ st)) : vs_G p l e R s m args below meth c b D aC nL Q kc ks ck mem pc lv (As.reverse ++ st) := by
  intro H locs ls hP hS hk hl T hT X
  have hup : H.size ≤ s.heap.size + kc := by
    have := X.same.2.2.1
    rw [← hT]
    exact this
  have hlo := vs_size hP (Nat.le_trans C.2.2.2.2.2.2.1 hS.1)
  have hrest : ((st.map (vs_v b)).map fun v => v.category).sum ≤ 8 := by
    rw [List.map_map]
    simpa [Function.comp_def, vs_v_cat] using hw
  have hpre : PreS s H (vs_P b D aC tg As mem) (As.map (vs_v b)) := ⟨vs_P_blind, vs_pre C hP hS (fun h => by have := ht h; omega)⟩
  have hmet := hM.met hno
  have hstack : (F0 m pc ls ((As.reverse ++ st).map (vs_v b))).stack = (As.map (vs_v b)).reverse ++ st.map (vs_v b) := by
    show (As.reverse ++ st).map (vs_v b) = _
    rw [List.map_append, List.map_reverse]
  have hgo : ∀ (r : Option Value) (mem' : List vs_C) (H1 : Heap) (locs1 : List Loc), post (.inl r) mem' → va_P D vwCl (vs_w b aC 0 mem') H1 → va_S (fun q => b ≤ q) s.heap H1 locs1 → (pu = true → ∀ q : Nat, q < H.size → H1[q]? = H[q]?) → W p l e R s m args below meth c H1 locs1 (kc + rm.cells) (ks + rm.slots) Q (F0 m (pc + 3) ls ((r.map (vs_v b)).toList ++ st.map (vs_v b))) := by
    intro r mem' H1 locs1 hp hP1 hS1 hp1
    have := kk r mem' hp H1 locs1 ls hP1 hS1 (fun h q hq => by rw [Bool.and_eq_true] at h; rw [hp1 h.2 q (Nat.lt_of_lt_of_le hq hS.1)]; exact hk h.1 q hq) hl
    cases r <;> exact this
  have hS5 : CallFix p m c cc nL s args gT own := ⟨C.1, C.2.1, C.2.2.1, C.2.2.2.1, C.2.2.2.2.1⟩
  have hrun : va_Run p l e R s m args below meth c H locs kc ks rm.cells rm.slots (F0 m pc ls ((As.reverse ++ st).map (vs_v b))) (st.map (vs_v b)) (vs_Q b D aC tg pu post (As.map (vs_v b)).toArray) (fun q => b ≤ q) := by
    rcases hL with hL | ⟨host, hL⟩
    · exact va_runS hS5 hmet (n := n) ⟨callB_of n C.2.2.2.2.1 (gT_sub hY.1) rfl rfl rfl (C.2.2.2.2.1 _ hY.2.1) (C.2.2.2.2.1 _ hL) hY.2.2 hR, C.2.2.2.2.1 _ hi⟩ hpre rfl (by simpa using hn) hl.1 hstack (lv_room hrest) hd hf
    · exact va_runSN hS5 hmet (n := n) ⟨va_cnB n C.2.2.2.2.1 (gT_sub hY.1) rfl rfl rfl (C.2.2.2.2.2.2.2.2.2 _ hL) (C.2.2.2.2.1 _ hY.2.1) hY.2.2 hR, C.2.2.2.2.1 _ hi, trivial⟩ hpre rfl (by simpa using hn) hl.1 hstack (lv_room hrest) hd hf
  exact vs_after hrun hS hgo T hT X
theorem vs_callI (C : vs_X p s m args meth c b D aC own cc nL) {idx n p0 mL : Nat} {y : MethodName} {bytes : ByteArray} {rm : Room} {As : List Value} {tg pu : Bool} {post : (Option Value ⊕ Nat) → List vs_C → Prop} (hM : vs_M l b D aC tg pu y (.code y bytes mL none) rm (.ref p0 :: As) mem post) (hno : ∀ k mem', ¬ post (.inr k) mem') (hY : vs_Y y bytes mL none n) (hL : vs_L own idx y) (hi : Cond.instanceMethod y ∈ gT) (hyn : y.name = "<init>") (hd : decode cc pc = .ok (.invokespecial idx, 3)) (hn : As.length = n) (hw : (st.map fun v => v.category).sum ≤ 8) (hR : rm.frames + 1 ≤ R.frames ∧ 8 + (mL + 11) + rm.locals ≤ R.locals) (hf : kc + rm.cells ≤ R.cells ∧ ks + rm.slots ≤ R.slots) (ht : tg = true → s.heap.size + kc ≤ b + mem.length)
    (kk : ∀ (r : Option Value) (mem' : List vs_C), post (.inl r) mem' → vs_G p l e R s m args below meth c b D aC nL Q (kc + rm.cells) (ks + rm.slots) (ck && pu) mem' (pc + 3) lv (r.toList ++ st)) : vs_G p l e R s m args below meth c b D aC nL Q kc ks ck mem pc lv (As.reverse ++ .ref p0 :: st) := by
  intro H locs ls hP hS hk hl T hT X
  have hup : H.size ≤ s.heap.size + kc := by
    have := X.same.2.2.1
    rw [← hT]
    exact this
  have hlo := vs_size hP (Nat.le_trans C.2.2.2.2.2.2.1 hS.1)
  have hrest : ((st.map (vs_v b)).map fun v => v.category).sum ≤ 8 := by
    rw [List.map_map]
    simpa [Function.comp_def, vs_v_cat] using hw
  have hpre : PreS s H (vs_P b D aC tg (.ref p0 :: As) mem) (.ref (b + p0) :: As.map (vs_v b)) := ⟨vs_P_blind, vs_pre C hP hS (fun h => by have := ht h; omega)⟩
  have hmet := hM.met hno
  have hstack : (F0 m pc ls ((As.reverse ++ .ref p0 :: st).map (vs_v b))).stack = (As.map (vs_v b)).reverse ++ .ref (b + p0) :: st.map (vs_v b) := by
    show (As.reverse ++ .ref p0 :: st).map (vs_v b) = _
    rw [List.map_append, List.map_reverse]
    rfl
  have hgo : ∀ (r : Option Value) (mem' : List vs_C) (H1 : Heap) (locs1 : List Loc), post (.inl r) mem' → va_P D vwCl (vs_w b aC 0 mem') H1 → va_S (fun q => b ≤ q) s.heap H1 locs1 → (pu = true → ∀ q : Nat, q < H.size → H1[q]? = H[q]?) → W p l e R s m args below meth c H1 locs1 (kc + rm.cells) (ks + rm.slots) Q (F0 m (pc + 3) ls ((r.map (vs_v b)).toList ++ st.map (vs_v b))) := by
    intro r mem' H1 locs1 hp hP1 hS1 hp1
    have := kk r mem' hp H1 locs1 ls hP1 hS1 (fun h q hq => by rw [Bool.and_eq_true] at h; rw [hp1 h.2 q (Nat.lt_of_lt_of_le hq hS.1)]; exact hk h.1 q hq) hl
    cases r <;> exact this
  have hS5 : CallFix p m c cc nL s args gT own := ⟨C.1, C.2.1, C.2.2.1, C.2.2.2.1, C.2.2.2.2.1⟩
  have hrun : va_Run p l e R s m args below meth c H locs kc ks rm.cells rm.slots (F0 m pc ls ((As.reverse ++ .ref p0 :: st).map (vs_v b))) (st.map (vs_v b)) (vs_Q b D aC tg pu post (Value.ref (b + p0) :: As.map (vs_v b)).toArray) (fun q => b ≤ q) := by
    rcases hL with hL | ⟨host, hL⟩
    · exact va_runI hS5 hmet (n := n) ⟨callB_of n C.2.2.2.2.1 (gT_sub hY.1) rfl rfl rfl (C.2.2.2.2.1 _ hY.2.1) (C.2.2.2.2.1 _ hL) hY.2.2 hR, hyn, C.2.2.2.2.1 _ hi⟩ hpre rfl (by simpa using hn) hl.1 hstack (lv_room hrest) hd hf
    · exact va_runIN hS5 hmet (n := n) ⟨va_cnB n C.2.2.2.2.1 (gT_sub hY.1) rfl rfl rfl (C.2.2.2.2.2.2.2.2.2 _ hL) (C.2.2.2.2.1 _ hY.2.1) hY.2.2 hR, hyn, C.2.2.2.2.1 _ hi⟩ hpre rfl (by simpa using hn) hl.1 hstack (lv_room hrest) hd hf
  exact vs_after hrun hS hgo T hT X
theorem W.weak {H : Heap} {locs : List Loc} {g : JFrame} {Q' : State → Prop} (h : ∀ t, Q t → Q' t) (k : W p l e R s m args below meth c H locs kc ks Q g) : W p l e R s m args below meth c H locs kc ks Q' g := fun T hT X => by
  obtain ⟨t, a, q⟩ := k T hT X
  exact ⟨t, a, h t q⟩
end Calls
