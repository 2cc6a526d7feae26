section Ends
variable {p : Program} {l : Launch} {e : Env} {R : Room} {s : State} {m : MethodId} {args : Array Value} {below : List Frame} {meth : Method} {c : Code} {b : Nat} {D : va_G} {aC : Nat → ClassId} {nL : Nat} {Q : State → Prop} {kc ks : Nat} {ck : Bool} {mem : List vs_C} {pc : Nat} {lv : List (Option Value)} {st : List Value} {own : String} {cc : ByteArray} {tg pu : Bool} {post : (Option Value ⊕ Nat) → List vs_C → Prop} {rm : Room}
theorem vs_toE (t : State) (h : MQ below (vs_Q b D aC tg pu post) args s rm.cells rm.slots (fun q => b ≤ q) t) : vs_E below args s b D aC tg pu post rm t := by
  obtain ⟨o, h1, h2, h3, L, ⟨-, h4, h5⟩, h6⟩ := h
  exact ⟨o, h1, h2, h3, L, ⟨h4, h5⟩, h6⟩
theorem vs_up (C : vs_X p s m args meth c b D aC own cc nL) {H : Heap} {locs : List Loc} {T : State} (hP : va_P D vwCl (vs_w b aC 0 mem) H) (hS : va_S (fun q => b ≤ q) s.heap H locs) (hT : T.heap = H) (X : Stand p l e R s m args below meth c T locs kc ks) (ht : tg = true → s.heap.size + kc ≤ b + mem.length) : tg = true → H.size = b + mem.length := by
  intro h
  have h1 := ht h
  have h2 : H.size ≤ s.heap.size + kc := by
    have := X.same.2.2.1
    rw [← hT]
    exact this
  have h3 := vs_size hP (Nat.le_trans C.2.2.2.2.2.2.1 hS.1)
  omega
theorem vs_iret (C : vs_X p s m args meth c b D aC own cc nL) {v : Int32} (hr : meth.sig.returnType = some .int) (hd : decode cc pc = .ok (.ireturn, 1)) (hc : kc ≤ rm.cells ∧ ks ≤ rm.slots) (ht : tg = true → s.heap.size + kc ≤ b + mem.length) (hu : pu = true → ck = true) (hp : post (.inl (some (.int v))) mem) : vs_G p l e R s m args below meth c b D aC nL (vs_E below args s b D aC tg pu post rm) kc ks ck mem pc lv [.int v] := by
  intro H locs ls hP hS hk hl T hT X
  have hz := vs_up C hP hS hT X ht
  exact W.widen hc.1 hc.2 (W.weak vs_toE (W.iret (Qc := vs_Q b D aC tg pu post) (free := fun q => b ≤ q) C.1 C.2.1 hr (fun t h1 _ => ⟨.inl (some (.int v)), mem, rfl, hp, by rw [h1]; exact hP, by rw [h1]; exact hz, fun h q hq => by rw [h1]; exact hk (hu h) q hq, hS.F h1⟩) hS.2.2 hd C.2.2.2.2.2.2.2.1)) T hT X
theorem vs_lret (C : vs_X p s m args meth c b D aC own cc nL) {v : Int64} (hr : meth.sig.returnType = some .long) (hd : decode cc pc = .ok (.lreturn, 1)) (hc : kc ≤ rm.cells ∧ ks ≤ rm.slots) (ht : tg = true → s.heap.size + kc ≤ b + mem.length) (hu : pu = true → ck = true) (hp : post (.inl (some (.long v))) mem) : vs_G p l e R s m args below meth c b D aC nL (vs_E below args s b D aC tg pu post rm) kc ks ck mem pc lv [.long v] := by
  intro H locs ls hP hS hk hl T hT X
  have hz := vs_up C hP hS hT X ht
  exact W.widen hc.1 hc.2 (W.weak vs_toE (W.lret (Qc := vs_Q b D aC tg pu post) (free := fun q => b ≤ q) C.1 C.2.1 hr (fun t h1 _ => ⟨.inl (some (.long v)), mem, rfl, hp, by rw [h1]; exact hP, by rw [h1]; exact hz, fun h q hq => by rw [h1]; exact hk (hu h) q hq, hS.F h1⟩) hS.2.2 hd C.2.2.2.2.2.2.2.1)) T hT X
theorem vs_fret (C : vs_X p s m args meth c b D aC own cc nL) {v : UInt32} (hr : meth.sig.returnType = some .float) (hd : decode cc pc = .ok (.freturn, 1)) (hc : kc ≤ rm.cells ∧ ks ≤ rm.slots) (ht : tg = true → s.heap.size + kc ≤ b + mem.length) (hu : pu = true → ck = true) (hp : post (.inl (some (.float v))) mem) : vs_G p l e R s m args below meth c b D aC nL (vs_E below args s b D aC tg pu post rm) kc ks ck mem pc lv [.float v] := by
  intro H locs ls hP hS hk hl T hT X
  have hz := vs_up C hP hS hT X ht
  exact W.widen hc.1 hc.2 (W.weak vs_toE (W.fret (Qc := vs_Q b D aC tg pu post) (free := fun q => b ≤ q) C.1 C.2.1 hr (fun t h1 _ => ⟨.inl (some (.float v)), mem, rfl, hp, by rw [h1]; exact hP, by rw [h1]; exact hz, fun h q hq => by rw [h1]; exact hk (hu h) q hq, hS.F h1⟩) hS.2.2 hd C.2.2.2.2.2.2.2.1)) T hT X
theorem vs_dret (C : vs_X p s m args meth c b D aC own cc nL) {v : UInt64} (hr : meth.sig.returnType = some .double) (hd : decode cc pc = .ok (.dreturn, 1)) (hc : kc ≤ rm.cells ∧ ks ≤ rm.slots) (ht : tg = true → s.heap.size + kc ≤ b + mem.length) (hu : pu = true → ck = true) (hp : post (.inl (some (.double v))) mem) : vs_G p l e R s m args below meth c b D aC nL (vs_E below args s b D aC tg pu post rm) kc ks ck mem pc lv [.double v] := by
  intro H locs ls hP hS hk hl T hT X
  have hz := vs_up C hP hS hT X ht
  exact W.widen hc.1 hc.2 (W.weak vs_toE (W.dret (Qc := vs_Q b D aC tg pu post) (free := fun q => b ≤ q) C.1 C.2.1 hr (fun t h1 _ => ⟨.inl (some (.double v)), mem, rfl, hp, by rw [h1]; exact hP, by rw [h1]; exact hz, fun h q hq => by rw [h1]; exact hk (hu h) q hq, hS.F h1⟩) hS.2.2 hd C.2.2.2.2.2.2.2.1)) T hT X
theorem vs_zret (C : vs_X p s m args meth c b D aC own cc nL) {v : Int32} (hr : meth.sig.returnType = some .boolean) (hn : narrow .boolean (.int v) = .int v) (hd : decode cc pc = .ok (.ireturn, 1)) (hc : kc ≤ rm.cells ∧ ks ≤ rm.slots) (ht : tg = true → s.heap.size + kc ≤ b + mem.length) (hu : pu = true → ck = true) (hp : post (.inl (some (.int v))) mem) : vs_G p l e R s m args below meth c b D aC nL (vs_E below args s b D aC tg pu post rm) kc ks ck mem pc lv [.int v] := by
  intro H locs ls hP hS hk hl T hT X
  have hz := vs_up C hP hS hT X ht
  exact W.widen hc.1 hc.2 (W.weak vs_toE (W.zret (Qc := vs_Q b D aC tg pu post) (free := fun q => b ≤ q) C.1 C.2.1 hr hn (fun t h1 _ => ⟨.inl (some (.int v)), mem, rfl, hp, by rw [h1]; exact hP, by rw [h1]; exact hz, fun h q hq => by rw [h1]; exact hk (hu h) q hq, hS.F h1⟩) hS.2.2 hd C.2.2.2.2.2.2.2.1)) T hT X
theorem vs_vret (C : vs_X p s m args meth c b D aC own cc nL) (hr : meth.sig.returnType = none) (hd : decode cc pc = .ok (.return_, 1)) (hc : kc ≤ rm.cells ∧ ks ≤ rm.slots) (ht : tg = true → s.heap.size + kc ≤ b + mem.length) (hu : pu = true → ck = true) (hp : post (.inl none) mem) : vs_G p l e R s m args below meth c b D aC nL (vs_E below args s b D aC tg pu post rm) kc ks ck mem pc lv [] := by
  intro H locs ls hP hS hk hl T hT X
  have hz := vs_up C hP hS hT X ht
  exact W.widen hc.1 hc.2 (W.weak vs_toE (W.vret (Qc := vs_Q b D aC tg pu post) (free := fun q => b ≤ q) C.1 C.2.1 hr (fun t h1 _ => ⟨.inl none, mem, rfl, hp, by rw [h1]; exact hP, by rw [h1]; exact hz, fun h q hq => by rw [h1]; exact hk (hu h) q hq, hS.F h1⟩) hS.2.2 hd C.2.2.2.2.2.2.2.1)) T hT X
theorem vs_obj (C : vs_X p s m args meth c b D aC own cc nL) {idx p0 : Nat} (hL : Cond.methodLink own idx objectInit ∈ gT) (hd : decode cc pc = .ok (.invokespecial idx, 3)) (hR : 1 ≤ R.frames ∧ (st.map fun v => v.category).sum + 12 ≤ R.locals) (kk : vs_G p l e R s m args below meth c b D aC nL Q kc ks ck mem (pc + 3) lv st) : vs_G p l e R s m args below meth c b D aC nL Q kc ks ck mem pc lv (.ref p0 :: st) := by
  intro H locs ls hP hS hk hl
  refine W.objInit C.1 C.2.1 C.2.2.2.1 (C.2.2.2.2.1 _ hL) (C.2.2.2.2.1 _ w_27) (C.2.2.2.2.1 _ w_28) (g := F0 m pc ls (.ref (b + p0) :: st.map (vs_v b))) rfl (by rw [C.2.2.1]; exact hl.1) rfl hd hR.1 ?_ (kk H locs ls hP hS hk hl)
  have : ((st.map (vs_v b)).map fun v => v.category).sum = (st.map fun v => v.category).sum := by
    rw [List.map_map]
    simp [Function.comp_def, vs_v_cat]
  show 2 * 0 + _ + 12 ≤ R.locals
  rw [this]
  have := hR.2
  omega
theorem vs_mmax (C : vs_X p s m args meth c b D aC own cc nL) {idx : Nat} {x y : Int32} (hL : Cond.methodLink own idx Lib.Math.max.name ∈ gT) (hd : decode cc pc = .ok (.invokestatic idx, 3)) (hR : 1 ≤ R.frames ∧ (st.map fun v => v.category).sum + 13 ≤ R.locals) (hc : kc ≤ R.cells ∧ ks ≤ R.slots) (kk : vs_G p l e R s m args below meth c b D aC nL Q kc ks ck mem (pc + 3) lv (.int (if x < y then y else x) :: st)) : vs_G p l e R s m args below meth c b D aC nL Q kc ks ck mem pc lv (.int y :: .int x :: st) := by
  intro H locs ls hP hS hk hl
  refine va_mmax C.1 C.2.1 (by rw [C.2.2.1]; exact hl.1.symm) C.2.2.2.1 (C.2.2.2.2.1 _ hL) (C.2.2.2.2.1 _ w_576) (C.2.2.2.2.1 _ w_18) (C.2.2.2.2.1 _ w_577) hR.1 ?_ hc.1 hc.2 hd (kk H locs ls hP hS hk hl)
  have : ((st.map (vs_v b)).map fun v => v.category).sum = (st.map fun v => v.category).sum := by
    rw [List.map_map]
    simp [Function.comp_def, vs_v_cat]
  rw [this]
  exact hR.2
theorem vs_mmin (C : vs_X p s m args meth c b D aC own cc nL) {idx : Nat} {x y : Int32} (hL : Cond.methodLink own idx Lib.Math.min.name ∈ gT) (hd : decode cc pc = .ok (.invokestatic idx, 3)) (hR : 1 ≤ R.frames ∧ (st.map fun v => v.category).sum + 13 ≤ R.locals) (hc : kc ≤ R.cells ∧ ks ≤ R.slots) (kk : vs_G p l e R s m args below meth c b D aC nL Q kc ks ck mem (pc + 3) lv (.int (if y < x then y else x) :: st)) : vs_G p l e R s m args below meth c b D aC nL Q kc ks ck mem pc lv (.int y :: .int x :: st) := by
  intro H locs ls hP hS hk hl
  refine va_mmin C.1 C.2.1 (by rw [C.2.2.1]; exact hl.1.symm) C.2.2.2.1 (C.2.2.2.2.1 _ hL) (C.2.2.2.2.1 _ w_599) (C.2.2.2.2.1 _ w_18) (C.2.2.2.2.1 _ w_600) hR.1 ?_ hc.1 hc.2 hd (kk H locs ls hP hS hk hl)
  have : ((st.map (vs_v b)).map fun v => v.category).sum = (st.map fun v => v.category).sum := by
    rw [List.map_map]
    simp [Function.comp_def, vs_v_cat]
  rw [this]
  exact hR.2
theorem vs_copyi (C : vs_X p s m args meth c b D aC own cc nL) {idx p0 p1 n0 n1 : Nat} {f g : Nat → Int32} {sp dp n : Int32} (hL : Cond.methodLink own idx arraycopyName ∈ gT) (hd : decode cc pc = .ok (.invokestatic idx, 3)) (h0 : mem[p0]? = some (.inl (0, n0, .inl f))) (h1 : mem[p1]? = some (.inl (0, n1, .inl g))) (g1 : ¬ sp < 0) (g2 : ¬ dp < 0) (g3 : ¬ n < 0) (g4 : sp.toNatClampNeg + n.toNatClampNeg ≤ n0) (g5 : dp.toNatClampNeg + n.toNatClampNeg ≤ n1) (hR : 1 ≤ R.frames ∧ (st.map fun v => v.category).sum + (nativeFrameWords "java/lang/System" "arraycopy" 5 + 11) ≤ R.locals) (kk : vs_G p l e R s m args below meth c b D aC nL Q kc ks false (mem.set p1 (.inl (0, n1, .inl (va_cpy f g sp.toNatClampNeg dp.toNatClampNeg n.toNatClampNeg)))) (pc + 3) lv st) : vs_G p l e R s m args below meth c b D aC nL Q kc ks ck mem pc lv (.int n :: .int dp :: .ref p1 :: .int sp :: .ref p0 :: st) := by
  intro H locs ls hP hS hk hl
  refine va_copyi C.1 C.2.1 (by rw [C.2.2.1]; exact hl.1.symm) C.2.2.2.1 (C.2.2.2.2.1 _ hL) (C.2.2.2.2.1 _ w_272) (C.2.2.2.2.1 _ w_271) (C.2.2.2.2.1 _ w_17) C.2.2.2.2.2.1 hP vs_w_D hS p0 p1 0 0 (vs_w_at (b := b) (aC := aC) h0) (vs_w_at (b := b) (aC := aC) h1) rfl rfl rfl g1 g2 g3 g4 g5 (fun _ _ => rfl) hR.1 ?_ hd (fun H1 locs1 hP1 _ hS1 => kk H1 locs1 ls (by rw [vs_w_set0]; exact hP1) hS1 (fun h => by cases h) hl)
  have : ((st.map (vs_v b)).map fun v => v.category).sum = (st.map fun v => v.category).sum := by
    rw [List.map_map]
    simp [Function.comp_def, vs_v_cat]
  rw [this]
  exact hR.2
theorem vs_copyl (C : vs_X p s m args meth c b D aC own cc nL) {idx p0 p1 n0 n1 : Nat} {f g : Nat → Int64} {sp dp n : Int32} (hL : Cond.methodLink own idx arraycopyName ∈ gT) (hd : decode cc pc = .ok (.invokestatic idx, 3)) (h0 : mem[p0]? = some (.inl (1, n0, .inr (.inl f)))) (h1 : mem[p1]? = some (.inl (1, n1, .inr (.inl g)))) (g1 : ¬ sp < 0) (g2 : ¬ dp < 0) (g3 : ¬ n < 0) (g4 : sp.toNatClampNeg + n.toNatClampNeg ≤ n0) (g5 : dp.toNatClampNeg + n.toNatClampNeg ≤ n1) (hR : 1 ≤ R.frames ∧ (st.map fun v => v.category).sum + (nativeFrameWords "java/lang/System" "arraycopy" 5 + 11) ≤ R.locals) (kk : vs_G p l e R s m args below meth c b D aC nL Q kc ks false (mem.set p1 (.inl (1, n1, .inr (.inl (va_cpy f g sp.toNatClampNeg dp.toNatClampNeg n.toNatClampNeg))))) (pc + 3) lv st) : vs_G p l e R s m args below meth c b D aC nL Q kc ks ck mem pc lv (.int n :: .int dp :: .ref p1 :: .int sp :: .ref p0 :: st) := by
  intro H locs ls hP hS hk hl
  refine va_copyl C.1 C.2.1 (by rw [C.2.2.1]; exact hl.1.symm) C.2.2.2.1 (C.2.2.2.2.1 _ hL) (C.2.2.2.2.1 _ w_272) (C.2.2.2.2.1 _ w_271) (C.2.2.2.2.1 _ w_17) C.2.2.2.2.2.1 hP vs_w_D hS p0 p1 1 1 (vs_w_at (b := b) (aC := aC) h0) (vs_w_at (b := b) (aC := aC) h1) rfl rfl rfl g1 g2 g3 g4 g5 (fun _ _ => rfl) hR.1 ?_ hd (fun H1 locs1 hP1 _ hS1 => kk H1 locs1 ls (by rw [vs_w_set0]; exact hP1) hS1 (fun h => by cases h) hl)
  have : ((st.map (vs_v b)).map fun v => v.category).sum = (st.map fun v => v.category).sum := by
    rw [List.map_map]
    simp [Function.comp_def, vs_v_cat]
  rw [this]
  exact hR.2
end Ends
