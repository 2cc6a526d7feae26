/-- a contract's usual end: this value, this memory -/
def vs_ret (v : Option Value) (mem1 : List vs_C) : (Option Value ⊕ Nat) → List vs_C → Prop := fun r mem' => r = .inl v ∧ mem' = mem1
theorem vs_ret_no {v : Option Value} {mem1 : List vs_C} : ∀ k mem', ¬ vs_ret v mem1 (.inr k) mem' := fun _ _ h => by cases h.1
section Calls2
variable {p : Program} {l : Launch} {e : Env} {R : Room} {s : State} {m : MethodId} {args : Array Value} {below : List Frame} {meth : Method} {c : Code} {b : Nat} {D : va_G} {aC : Nat → ClassId} {nL : Nat} {Q : State → Prop} {kc ks : Nat} {ck : Bool} {mem : List vs_C} {pc : Nat} {lv : List (Option Value)} {st : List Value} {own : String} {cc : ByteArray}
theorem vs_cV (C : vs_X p s m args meth c b D aC own cc nL) {idx n p0 ci mL : Nat} {y : MethodName} {bytes : ByteArray} {rt : Option FieldType} {rm : Room} {As fs : List Value} {tg pu : Bool} {v : Option Value} {mem1 : List vs_C} {st0 : List Value} (hM : vs_M l b D aC tg pu y (.code y bytes mL rt) rm (.ref p0 :: As) mem (vs_ret v mem1)) (hY : vs_Y y bytes mL rt n) (hL : vs_L own idx y) (hi : Cond.instanceMethod y ∈ gT) (hs : Cond.selects y.cls y y ∈ gT) (hd : decode cc pc = .ok (.invokevirtual idx, 3)) (hm : mem[p0]? = some (.inr (ci, fs))) (hci : (vwCl[ci]?).map (fun q => q.1) = some y.cls) (hst : st0 = As.reverse ++ .ref p0 :: st) (hlen : As.length = n) (hn : (st.map fun v => v.category).sum ≤ 8) (hR : rm.frames + 1 ≤ R.frames ∧ 8 + (mL + 11) + rm.locals ≤ R.locals) (hf : kc + rm.cells ≤ R.cells ∧ ks + rm.slots ≤ R.slots) (ht : tg = true → s.heap.size + kc ≤ b + mem.length)
    (kk : vs_G p l e R s m args below meth c b D aC nL Q (kc + rm.cells) (ks + rm.slots) (ck && pu) mem1 (pc + 3) lv (v.toList ++ st)) : vs_G p l e R s m args below meth c b D aC nL Q kc ks ck mem pc lv st0 := by
  subst hst
  refine vs_callV C hM vs_ret_no hY hL hi hs hd hm hci hlen hn hR hf ht ?_
  rintro r mem' ⟨h1, h2⟩
  cases h1
  subst h2
  exact kk
theorem vs_cS (C : vs_X p s m args meth c b D aC own cc nL) {idx n mL : Nat} {y : MethodName} {bytes : ByteArray} {rt : Option FieldType} {rm : Room} {As : List Value} {tg pu : Bool} {v : Option Value} {mem1 : List vs_C} {st0 : List Value} (hM : vs_M l b D aC tg pu y (.code y bytes mL rt) rm As mem (vs_ret v mem1)) (hY : vs_Y y bytes mL rt n) (hL : vs_L own idx y) (hi : Cond.static y ∈ gT) (hd : decode cc pc = .ok (.invokestatic idx, 3)) (hst : st0 = As.reverse ++ st) (hlen : As.length = n) (hn : (st.map fun v => v.category).sum ≤ 8) (hR : rm.frames + 1 ≤ R.frames ∧ 8 + (mL + 11) + rm.locals ≤ R.locals) (hf : kc + rm.cells ≤ R.cells ∧ ks + rm.slots ≤ R.slots) (ht : tg = true → s.heap.size + kc ≤ b + mem.length)
    (kk : vs_G p l e R s m args below meth c b D aC nL Q (kc + rm.cells) (ks + rm.slots) (ck && pu) mem1 (pc + 3) lv (v.toList ++ st)) : vs_G p l e R s m args below meth c b D aC nL Q kc ks ck mem pc lv st0 := by
  subst hst
  refine vs_callS C hM vs_ret_no hY hL hi hd hlen hn hR hf ht ?_
  rintro r mem' ⟨h1, h2⟩
  cases h1
  subst h2
  exact kk
theorem vs_mem_eq {mem2 : List vs_C} (h : mem2 = mem) (k : vs_G p l e R s m args below meth c b D aC nL Q kc ks ck mem2 pc lv st) : vs_G p l e R s m args below meth c b D aC nL Q kc ks ck mem pc lv st := h ▸ k
theorem vs_ck {ck' : Bool} (k : vs_G p l e R s m args below meth c b D aC nL Q kc ks false mem pc lv st) : vs_G p l e R s m args below meth c b D aC nL Q kc ks ck' mem pc lv st := fun H locs ls hP hS _ hl => k H locs ls hP hS (fun h => by cases h) hl
theorem vs_st_eq {st2 : List Value} (h : st2 = st) (k : vs_G p l e R s m args below meth c b D aC nL Q kc ks ck mem pc lv st2) : vs_G p l e R s m args below meth c b D aC nL Q kc ks ck mem pc lv st := h ▸ k
theorem vs_lv_eq {lv2 : List (Option Value)} (h : lv2 = lv) (k : vs_G p l e R s m args below meth c b D aC nL Q kc ks ck mem pc lv2 st) : vs_G p l e R s m args below meth c b D aC nL Q kc ks ck mem pc lv st := h ▸ k
end Calls2

