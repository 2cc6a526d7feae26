theorem vs_M.ofW {l : Launch} {b : Nat} {D : va_G} {aC : Nat → ClassId} {tg pu : Bool} {y : MethodName} {cc : ByteArray} {mL : Nat} {rt : Option FieldType} {hs : List (Nat × Nat × Nat × Nat)} {rm : Room} {av : List Value} {mem : List vs_C} {post : (Option Value ⊕ Nat) → List vs_C → Prop} (hy : plainName y.cls = true) (hlen : (vs_e av).length ≤ mL)
    (body : ∀ p e s m args below meth c, vs_X p s m args meth c b D aC y.cls cc mL → meth.name = y.name → meth.sig.returnType = rt → c.exceptionTable.toList = hs.map (fun q => ⟨q.1, q.2.1, q.2.2.1, q.2.2.2⟩) → (tg = true → s.heap.size = b + mem.length) → vs_G p l e rm s m args below meth c b D aC mL (vs_E below args s b D aC tg pu post rm) 0 0 true mem 0 (vs_e0 mL av) []) : vs_M l b D aC tg pu y (.codeWith y cc mL rt hs) rm av mem post := by
  refine MetFree.of_bodyS (code := cc) (maxLocals := mL) (ret := rt) hy ?_ ?_
  · intro args s m h hn
    obtain ⟨m', meth, c, h0, h1, h2, h3, h4, -, h5, h6, -⟩ := Cond.codeWith_spec (atoms_spec (ws := Cond.codeWith y cc mL rt hs :: gT) h _ List.mem_cons_self)
    cases hn.symm.trans h0
    exact ⟨meth, c, h1, h2, h3, h4, h5, h6⟩
  · intro p e s m args below meth c s₁ B hml hP _
    obtain ⟨rfl, qP, qK, qb, qt, qZ, qN⟩ := hP
    have hts := atoms_spec (ws := Cond.codeWith y cc mL rt hs :: gT) B.pre
    have hh0 : s₁.heap = s.heap := by rw [B.state]; rfl
    have htab : c.exceptionTable.toList = hs.map (fun q => ⟨q.1, q.2.1, q.2.2.1, q.2.2.2⟩) := by
      obtain ⟨m', meth', c', h0, h1, h2, h3, h4, h7, h5, h6, -⟩ := Cond.codeWith_spec (hts _ List.mem_cons_self)
      cases B.named.symm.trans h0
      cases B.method.symm.trans h1
      cases (Stand.of_body B).code.symm.trans h2
      rw [← h7, List.map_map]
      simp [Function.comp_def]
    have hG := body p e s m _ below meth c ⟨B.exec, B.bytes, hml, findClass_of_methodNamed B.named, fun w h => hts w (List.mem_cons_of_mem _ h), qK, qb, B.notSynchronized, qZ, qN⟩ (name_of_methodNamed B.named B.method).1 B.returns htab qt
    have hW := hG s.heap [] _ qP va_S.rf (fun _ _ _ => rfl) (vs_entry (b := b) (nL := mL) (av := av) hlen)
    rw [List.map_nil, ← lg_entry_eq] at hW
    obtain ⟨t, a1, o, b1, b2, b3⟩ := hW s₁ hh0 (Stand.of_body B)
    exact ⟨t, o, a1, b1, b2, b3⟩
/-- a kind k thrown at pc comes to hpc -/
def vs_H (own : String) (tab : List ExceptionTableEntry) (pc k hpc : Nat) : Prop := ∃ (pre rest : List ExceptionTableEntry) (x : ExceptionTableEntry), tab = pre ++ x :: rest ∧ covers x pc = true ∧ x.handlerPc = hpc ∧ x.catchType ≠ 0 ∧ Cond.classLink own x.catchType (vs_n k) ∈ gT ∧ Cond.castable (vs_n k) (vs_n k) ∈ gN ∧ ∀ y ∈ pre, covers y pc = true ∧ y.catchType ≠ 0 ∧ ∃ nm, Cond.classLink own y.catchType nm ∈ gT ∧ ∀ U, vs_nC U → vs_nc (vs_n k) nm U
section Help
variable {p : Program} {l : Launch} {e : Env} {R : Room} {s : State} {m : MethodId} {args : Array Value} {below : List Frame} {meth : Method} {c : Code} {b : Nat} {D : va_G} {aC : Nat → ClassId} {nL : Nat} {Q : State → Prop} {kc ks : Nat} {ck : Bool} {mem : List vs_C} {pc : Nat} {lv : List (Option Value)} {st : List Value} {own : String} {cc : ByteArray}
theorem vs_callVT (C : vs_X p s m args meth c b D aC own cc nL) {idx n p0 ci mL : Nat} {y : MethodName} {bytes : ByteArray} {rt : Option FieldType} {rm : Room} {As fs : List Value} {pu : Bool} {post : (Option Value ⊕ Nat) → List vs_C → Prop} (hM : vs_M l b D aC false pu y (.code y bytes mL rt) rm (.ref p0 :: As) mem post) (hY : vs_Y y bytes mL rt n) (hL : Cond.methodLink own idx y ∈ gT) (hi : Cond.instanceMethod y ∈ gT) (hs : Cond.selects y.cls y y ∈ gT) (hd : decode cc pc = .ok (.invokevirtual idx, 3)) (hm : mem[p0]? = some (.inr (ci, fs))) (hci : (vwCl[ci]?).map (fun q => q.1) = some y.cls) (hn : As.length = n) (hw : (st.map fun v => v.category).sum ≤ 8) (hR : rm.frames + 1 ≤ R.frames ∧ 8 + (mL + 11) + rm.locals ≤ R.locals) (hf : kc + rm.cells ≤ R.cells ∧ ks + rm.slots ≤ R.slots)
    (hH : ∀ (k : Nat) (mem' : List vs_C), post (.inr k) mem' → ∃ hpc, vs_H own c.exceptionTable.toList pc k hpc ∧ ∀ x : Nat, vs_G p l e R s m args below meth c b D aC nL Q (kc + rm.cells) (ks + rm.slots) (ck && pu) mem' hpc lv [.retAddr x])
    (kk : ∀ (r : Option Value) (mem' : List vs_C), post (.inl r) mem' → vs_G p l e R s m args below meth c b D aC nL Q (kc + rm.cells) (ks + rm.slots) (ck && pu) mem' (pc + 3) lv (r.toList ++ st)) : vs_G p l e R s m args below meth c b D aC nL Q kc ks ck mem pc lv (As.reverse ++ .ref p0 :: st) := by
  intro H locs ls hP hS hk hl T hT X
  have hrest : ((st.map (vs_v b)).map fun v => v.category).sum ≤ 8 := by
    rw [List.map_map]
    simpa [Function.comp_def, vs_v_cat] using hw
  have hstack : (F0 m pc ls ((As.reverse ++ .ref p0 :: st).map (vs_v b))).stack = (As.map (vs_v b)).reverse ++ .ref (b + p0) :: st.map (vs_v b) := by
    show (As.reverse ++ .ref p0 :: st).map (vs_v b) = _
    rw [List.map_append, List.map_reverse]
    rfl
  have hy : y.cls ≠ "java/lang/invoke/MethodHandle" ∧ y.cls ≠ "java/lang/invoke/VarHandle" := ⟨hY.2.2.1, hY.2.2.2.1⟩
  have hpay := pay_in C.2.2.2.2.1 (gT_sub hY.1)
  obtain ⟨q, hq, hq1⟩ := Option.map_eq_some_iff.mp hci
  obtain ⟨cellB, hcB, hoB, hclB⟩ := va_recv C.2.2.2.2.2.1 hP hq (vs_w_at (b := b) (aC := aC) hm)
  rw [hq1] at hclB
  obtain ⟨mk, methM, hnamed, hmethM, hstM, habM⟩ := Cond.instanceMethod_spec (C.2.2.2.2.1 _ hi)
  obtain ⟨methM', cM, hmethM', -, -, -, -, -, -, hsigM⟩ := Cond.code_spec hnamed (C.2.2.2.2.1 _ hY.1)
  cases hmethM.symm.trans hmethM'
  obtain ⟨c2, r2, m2, q1, q2, q3, q4, kP, hkP, hkPi⟩ := Cond.selects_spec (C.2.2.2.2.1 _ hs)
  cases hclB.symm.trans q1
  cases (State.methodFound?_of_named hnamed hy).symm.trans q2
  cases hnamed.symm.trans q3
  have hselP : selectMethod e.platform s.vm cellB.cls mk = .method mk := by rw [Launch.admits_selectMethod X.admits]; exact q4
  have hlen : ∀ sig, parseMethodDescriptor y.desc = some sig → (As.map (vs_v b)).length = sig.parameters.length := by
    intro sig h
    have h2 := hY.2.2.2.2
    rw [h] at h2
    rw [List.length_map, hn]
    exact (Option.some.inj h2).symm
  obtain ⟨vm₁, X₁, hstep₁⟩ := X.invokevirtual C.1 C.2.2.2.1 (C.2.2.2.2.1 _ hL) hnamed hmethM hstM hkP hkPi hy (a := b + p0) (cell := cellB) (by rw [hT]; exact hcB)
    (fun z h => by rw [h] at hoB; cases hoB) hselP hmethM habM hkP hkPi (g := F0 m pc ls ((As.reverse ++ .ref p0 :: st).map (vs_v b))) rfl (argsL := As.map (vs_v b)) (rest := st.map (vs_v b)) (hlen _ hsigM) hstack (by rw [C.2.1]; exact hd)
  have hnU := X₁.named hnamed
  obtain ⟨methY, cY, hmY, hcY, -, hlY, -⟩ := Cond.code_spec hnU (hpay _ List.mem_cons_self (Value.ref (b + p0) :: As.map (vs_v b)).toArray (T.setVm vm₁) X₁.warmed)
  obtain ⟨o, t, T', L, hqq, X', hLb, e1, e2, hret, hthr⟩ := vs_back (b := b) hM vs_P_blind X₁ hnU hmY hcY hlY (a := (Value.ref (b + p0) :: As.map (vs_v b)).toArray) (hpay _ (List.mem_cons_of_mem _ hY.2.1) _ _ X₁.warmed) (atoms_intro fun w hw' => hpay w hw' _ _ X₁.warmed) (vs_pre (tg := false) (av := .ref p0 :: As) C hP hS (fun h => by cases h) _ hT X₁.warmed)
    (g := F0 m pc ls (st.map (vs_v b))) (ig := .invokevirtual idx) (len := 3) rfl (by rw [C.2.2.1]; exact hl.1) (by rw [C.2.1]; exact hd) (lv_room hrest) hR.1 hR.2 hf
  obtain ⟨r, mem', ho, hp, hP', -, hpu, hz, hkf⟩ := hqq
  have hz' : H.size ≤ t.heap.size := by rw [← hT]; exact hz
  have hkf' : ∀ q : Nat, q < H.size → ¬ b ≤ q → t.heap[q]? = H[q]? := by rw [← hT]; exact hkf
  have hpu' : pu = true → ∀ q : Nat, q < H.size → t.heap[q]? = H[q]? := by rw [← hT]; exact hpu
  have hS' : va_S (fun q => b ≤ q) s.heap T'.heap (locs ++ L) := ⟨Nat.le_trans hS.1 (by rw [e1]; exact hz'), fun q h1 h2 => by rw [e1, hkf' q (Nat.lt_of_lt_of_le h1 hS.1) h2]; exact hS.2.1 q h1 h2, fun q hq => by
    rcases List.mem_append.mp hq with h | h
    · exact hS.2.2 q h
    · exact hLb q h⟩
  have hck : (ck && pu) = true → ∀ q : Nat, q < s.heap.size → T'.heap[q]? = s.heap[q]? := fun h q hq => by
    rw [Bool.and_eq_true] at h
    rw [e1, hpu' h.2 q (Nat.lt_of_lt_of_le hq hS.1)]
    exact hk h.1 q hq
  cases r with
  | inl v =>
    obtain ⟨t2, a1, b1⟩ := kk v mem' hp T'.heap (locs ++ L) ls (by rw [e1]; exact hP') hS' hck hl T' rfl X'
    refine ⟨t2, hstep₁ _ (fun acts => ?_), b1⟩
    rw [doInvoke_state]
    refine (hret _ ho).trans ?_
    cases v <;> exact a1
  | inr k =>
    obtain ⟨x, cell, hox, hcx, hfc, hst⟩ := ho
    obtain ⟨hpc, ⟨pre, rest, row, htab, hcov, hhp, hct, hlk, hcast, hpre⟩, hg⟩ := hH k mem' hp
    have hpl : e.platform.magicAccessors = ({} : Platform).magicAccessors := by rw [X.admits.platform]
    have hfs : s.vm.findClass (vs_n k) = some cell.cls := by
      have h := hfc
      rw [← e2, X'.warmed.alike.findClass] at h
      exact h
    obtain ⟨ca, cb, h1, h2, hasg⟩ := Cond.castable_spec (va_Nw.use (A := args) rfl (C.2.2.2.2.2.2.2.2.2 _ hcast))
    cases hfs.symm.trans h1
    cases hfs.symm.trans h2
    obtain ⟨c', hc', hcl⟩ := Cond.classLink_spec C.2.2.2.1 (C.2.2.2.2.1 _ hlk) e.platform hpl
    cases hfs.symm.trans hc'
    obtain ⟨dk, _, _, kt, hd0, _, _, _, _, hkt, _, hopen⟩ := id hcl.here
    have hall : ∀ z ∈ pre, vs_rw e.platform s m.cls pc cell.cls false z := by
      intro z hz2
      obtain ⟨y1, y2, nm, y3, y4⟩ := hpre z hz2
      obtain ⟨cn, hcn, hcln⟩ := Cond.classLink_spec C.2.2.2.1 (C.2.2.2.2.1 _ y3) e.platform hpl
      exact ⟨y1, y2, cn, hcln, y4 s C.2.2.2.2.2.2.2.2.1.2.2 _ _ hfs hcn⟩
    obtain ⟨vm', hW', hfind⟩ := vs_goes (e := e) (s0 := s) (f := F0 m pc ls (st.map (vs_v b))) (a := x) (cell := cell) (VmData.ne_statics_of hst) ⟨kt, hkt⟩ row rest ⟨hcov, hct, _, hcl, hasg⟩ pre ((T'.setTop (F0 m pc ls (st.map (vs_v b)))).pushFrame (.throwing x)) X'.warmed (by rw [show ((T'.setTop (F0 m pc ls (st.map (vs_v b)))).pushFrame (.throwing x)).heap = T'.heap from throwing_heap _ _ _, e1]; exact hcx) hall
    have hfd : vs_fd e ((T'.setTop (F0 m pc ls (st.map (vs_v b)))).pushFrame (.throwing x)) (F0 m pc ls (st.map (vs_v b))) x (.found row.handlerPc) vm' := fun Q1 E1 d1 acts1 => by
      rw [W.findHandler_eq (meth := meth) (code := c) X'.method' X'.code, htab]
      exact hfind Q1 E1 d1 acts1
    obtain ⟨t2, a1, b1⟩ := hg x T'.heap (locs ++ L) ls (by rw [e1]; exact hP') hS' hck hl (T'.setVm vm') rfl (X'.noted hW')
    refine ⟨t2, hstep₁ _ (fun acts => ?_), b1⟩
    rw [doInvoke_state]
    refine (hthr x hox).trans (vs_caught X'.here hfd ?_)
    rw [hhp]
    exact a1
/-- a helper with a table of its own, called by the law: it catches all -/
theorem vs_callSW (C : vs_X p s m args meth c b D aC own cc nL) {idx n mL : Nat} {y : MethodName} {bytes : ByteArray} {rt : Option FieldType} {hs : List (Nat × Nat × Nat × Nat)} {rm : Room} {As : List Value} {pu : Bool} {post : (Option Value ⊕ Nat) → List vs_C → Prop} (hM : vs_M l b D aC false pu y (.codeWith y bytes mL rt hs) rm As mem post) (hno : ∀ k mem', ¬ post (.inr k) mem') (hcw : Cond.codeWith y bytes mL rt hs ∈ gT) (hini : Cond.initialized y.cls ∈ gT) (hyy : y.cls ≠ "java/lang/invoke/MethodHandle" ∧ y.cls ≠ "java/lang/invoke/VarHandle" ∧ (parseMethodDescriptor y.desc).map (fun d => d.parameters.length) = some n) (hL : Cond.methodLink own idx y ∈ gT) (hi : Cond.static y ∈ gT) (hd : decode cc pc = .ok (.invokestatic idx, 3)) (hn : As.length = n) (hw : (st.map fun v => v.category).sum ≤ 8) (hR : rm.frames + 1 ≤ R.frames ∧ 8 + (mL + 11) + rm.locals ≤ R.locals) (hf : kc + rm.cells ≤ R.cells ∧ ks + rm.slots ≤ R.slots)
    (kk : ∀ (r : Option Value) (mem' : List vs_C), post (.inl r) mem' → vs_G p l e R s m args below meth c b D aC nL Q (kc + rm.cells) (ks + rm.slots) (ck && pu) mem' (pc + 3) lv (r.toList ++ st)) : vs_G p l e R s m args below meth c b D aC nL Q kc ks ck mem pc lv (As.reverse ++ st) := by
  intro H locs ls hP hS hk hl T hT X
  have hrest : ((st.map (vs_v b)).map fun v => v.category).sum ≤ 8 := by
    rw [List.map_map]
    simpa [Function.comp_def, vs_v_cat] using hw
  have hstack : (F0 m pc ls ((As.reverse ++ st).map (vs_v b))).stack = (As.map (vs_v b)).reverse ++ st.map (vs_v b) := by
    show (As.reverse ++ st).map (vs_v b) = _
    rw [List.map_append, List.map_reverse]
  have hpay := pay_in C.2.2.2.2.1 (gT_sub hcw)
  obtain ⟨mk, methM, cM, hnamed, hmethM, hcM, -, -, -, -, -, hsigM⟩ := Cond.codeWith_spec (C.2.2.2.2.1 _ hcw)
  have hstatic : methM.isStatic = true := Cond.static_spec hnamed hmethM (C.2.2.2.2.1 _ hi)
  obtain ⟨kP, hkP, -⟩ := className_of_methodNamed hnamed
  have hinitP : kP.init = .initialized := Cond.initialized_spec (findClass_of_methodNamed hnamed) hkP (C.2.2.2.2.1 _ hini)
  have hlen : ∀ sig, parseMethodDescriptor y.desc = some sig → (As.map (vs_v b)).length = sig.parameters.length := by
    intro sig h
    have h2 := hyy.2.2
    rw [h] at h2
    rw [List.length_map, hn]
    exact (Option.some.inj h2).symm
  obtain ⟨vm₁, X₁, hstep₁⟩ := X.invokestatic C.1 C.2.2.2.1 (C.2.2.2.2.1 _ hL) hnamed hmethM hstatic hkP hinitP ⟨hyy.1, hyy.2.1⟩ (g := F0 m pc ls ((As.reverse ++ st).map (vs_v b))) rfl (argsL := As.map (vs_v b)) (rest := st.map (vs_v b)) (hlen _ hsigM) hstack (by rw [C.2.1]; exact hd)
  have hnU := X₁.named hnamed
  obtain ⟨mk', methY, cY, hnY, hmY, hcY, -, hlY, -⟩ := Cond.codeWith_spec (hpay _ List.mem_cons_self (As.map (vs_v b)).toArray (T.setVm vm₁) X₁.warmed)
  cases hnU.symm.trans hnY
  obtain ⟨o, t, T', L, hqq, X', hLb, e1, e2, hret, -⟩ := vs_back (b := b) hM vs_P_blind X₁ hnU hmY hcY hlY (a := (As.map (vs_v b)).toArray) (hpay _ (List.mem_cons_of_mem _ hini) _ _ X₁.warmed) (atoms_intro fun w hw' => hpay w hw' _ _ X₁.warmed) (vs_pre (tg := false) (av := As) C hP hS (fun h => by cases h) _ hT X₁.warmed)
    (g := F0 m pc ls (st.map (vs_v b))) (ig := .invokestatic idx) (len := 3) rfl (by rw [C.2.2.1]; exact hl.1) (by rw [C.2.1]; exact hd) (lv_room hrest) hR.1 hR.2 hf
  obtain ⟨r, mem', ho, hp, hP', -, hpu, hz, hkf⟩ := hqq
  have hz' : H.size ≤ t.heap.size := by rw [← hT]; exact hz
  have hkf' : ∀ q : Nat, q < H.size → ¬ b ≤ q → t.heap[q]? = H[q]? := by rw [← hT]; exact hkf
  have hpu' : pu = true → ∀ q : Nat, q < H.size → t.heap[q]? = H[q]? := by rw [← hT]; exact hpu
  have hS' : va_S (fun q => b ≤ q) s.heap T'.heap (locs ++ L) := ⟨Nat.le_trans hS.1 (by rw [e1]; exact hz'), fun q h1 h2 => by rw [e1, hkf' q (Nat.lt_of_lt_of_le h1 hS.1) h2]; exact hS.2.1 q h1 h2, fun q hq => by
    rcases List.mem_append.mp hq with h | h
    · exact hS.2.2 q h
    · exact hLb q h⟩
  have hck : (ck && pu) = true → ∀ q : Nat, q < s.heap.size → T'.heap[q]? = s.heap[q]? := fun h q hq => by
    rw [Bool.and_eq_true] at h
    rw [e1, hpu' h.2 q (Nat.lt_of_lt_of_le hq hS.1)]
    exact hk h.1 q hq
  cases r with
  | inr k => exact absurd hp (hno k mem')
  | inl v =>
    obtain ⟨t2, a1, b1⟩ := kk v mem' hp T'.heap (locs ++ L) ls (by rw [e1]; exact hP') hS' hck hl T' rfl X'
    refine ⟨t2, hstep₁ _ (fun acts => ?_), b1⟩
    rw [doInvoke_state]
    refine (hret _ ho).trans ?_
    cases v <;> exact a1
theorem vs_astore_nA (C : vs_X p s m args meth c b D aC own cc nL) {i : Fin 4} {x : Nat} (hd : decode cc pc = .ok (.astore_n i, 1)) (hn : (i : Nat) < nL) (k : vs_G p l e R s m args below meth c b D aC nL Q kc ks ck mem (pc + 1) (vs_s1 lv (i : Nat) (.retAddr x)) st) : vs_G p l e R s m args below meth c b D aC nL Q kc ks ck mem pc lv (.retAddr x :: st) := fun H locs ls hP hS hk hl => lv_astore_n C.1 C.2.1 hd rfl (vs_l_has hl) hn rfl (fun ls' hl' => k H locs ls' hP hS hk (vs_st1 (b := b) (v := .retAddr x) hl'))
theorem vs_astoreA (C : vs_X p s m args meth c b D aC own cc nL) {i : Nat} {x : Nat} (hd : decode cc pc = .ok (.astore i, 2)) (hn : i < nL) (k : vs_G p l e R s m args below meth c b D aC nL Q kc ks ck mem (pc + 2) (vs_s1 lv i (.retAddr x)) st) : vs_G p l e R s m args below meth c b D aC nL Q kc ks ck mem pc lv (.retAddr x :: st) := fun H locs ls hP hS hk hl => lv_astore C.1 C.2.1 hd (vs_l_has hl) hn rfl (fun ls' hl' => k H locs ls' hP hS hk (vs_st1 (b := b) (v := .retAddr x) hl'))
end Help
