theorem vs_w_set0 {b : Nat} {aC : Nat → ClassId} {mem : List vs_C} {i : Nat} {y : vs_C} : vs_w b aC 0 (mem.set i y) = (vs_w b aC 0 mem).set i (b + i, vs_c b aC y) := by
  rw [vs_w_set, Nat.zero_add]
theorem vs_w_app0 {b : Nat} {aC : Nat → ClassId} {mem : List vs_C} {y : vs_C} : vs_w b aC 0 (mem ++ [y]) = vs_w b aC 0 mem ++ [(b + mem.length, vs_c b aC y)] := by
  rw [vs_w_app, Nat.zero_add]
theorem vs_size {b : Nat} {D : va_G} {aC : Nat → ClassId} {mem : List vs_C} {H : Heap} (hP : va_P D vwCl (vs_w b aC 0 mem) H) (hb : b ≤ H.size) : b + mem.length ≤ H.size := by
  cases hm : mem.length with
  | zero => exact hb
  | succ n =>
    have hlt : n < mem.length := by omega
    have := (hP n _ (vs_w_at (b := b) (aC := aC) (List.getElem?_eq_getElem hlt))).lt
    simp only at this
    omega
/-- entry idx of own's pool is field k of class ci, of type ty -/
def vs_F (own : String) (idx ci k : Nat) (ty : FieldType) (fin : Bool) : Prop := ∃ (Cn : String) (T : u_T) (N : Nat) (ty0 : Nat → FieldType), vwCl[ci]? = some (Cn, T, N) ∧ (∀ w ∈ u_ws Cn T N, w ∈ gT) ∧ (∀ k, k < N → parseFieldDescriptor (T k).2.2.1 = some (ty0 k)) ∧ (∀ a, a < N → ∀ b, b < N → a ≠ b → (T a).2.1 ≠ (T b).2.1) ∧ k < N ∧ ty0 k = ty ∧ (T k).2.2.2 = fin ∧ (T k).1 = Cn ∧ (Cond.fieldLink own idx (T k).1 (T k).2.1 (T k).2.2.1 ∈ gT ∨ ∃ host, Cond.fieldLinkNest own idx (T k).1 (T k).2.1 (T k).2.2.1 host ∈ gN)
/-- entry idx of own's pool is class ci, whose new object has the fields fs -/
def vs_N (own : String) (idx ci n : Nat) (fs : List Value) : Prop := ∃ (Cn : String) (T : u_T) (ty0 : Nat → FieldType), vwCl[ci]? = some (Cn, T, n) ∧ (∀ w ∈ u_ws Cn T n, w ∈ gT) ∧ (∀ k, k < n → parseFieldDescriptor (T k).2.2.1 = some (ty0 k)) ∧ Cond.classLink own idx Cn ∈ gT ∧ Cond.instantiable Cn n ∈ gT ∧ Cond.initialized Cn ∈ gT ∧ (∀ j, j < n → defaultValue (ty0 j) = vp_V fs j) ∧ ∀ b, fs.map (vs_v b) = fs
section Heap
variable {p : Program} {l : Launch} {e : Env} {R : Room} {s : State} {m : MethodId} {args : Array Value} {below : List Frame} {meth : Method} {c : Code} {b : Nat} {D : va_G} {aC : Nat → ClassId} {nL : Nat} {Q : State → Prop} {kc ks : Nat} {ck : Bool} {mem : List vs_C} {pc : Nat} {lv : List (Option Value)} {st : List Value} {own : String} {cc : ByteArray}
theorem vs_get (C : vs_X p s m args meth c b D aC own cc nL) {idx ci k p0 : Nat} {ty : FieldType} {fin : Bool} {fs : List Value} {v : Value} (hF : vs_F own idx ci k ty fin) (hd : decode cc pc = .ok (.getfield idx, 3)) (hm : mem[p0]? = some (.inr (ci, fs))) (hv : fs[k]? = some v) (kk : vs_G p l e R s m args below meth c b D aC nL Q kc ks ck mem (pc + 3) lv (v :: st)) : vs_G p l e R s m args below meth c b D aC nL Q kc ks ck mem pc lv (.ref p0 :: st) := by
  intro H locs ls hP hS hk hl
  obtain ⟨Cn, T, N, ty0, h1, h2, h3, h4, h5, h6, h7, h8, hlk⟩ := hF
  have he := vs_w_at (b := b) (aC := aC) hm
  have hv' : (fs.map (vs_v b))[k]? = some (vs_v b v) := by rw [List.getElem?_map, hv]; rfl
  rcases hlk with hlk | ⟨host, hlk⟩
  · exact va_get (D := D) (ci := ci) (C := Cn) (T := T) (N := N) C.1 C.2.1 C.2.2.2.2.1 h2 C.2.2.2.1 C.2.2.2.2.2.1 hP p0 he h1 k h5 (C.2.2.2.2.1 _ hlk) (fun _ h => h) hv' hd (kk H locs ls hP hS hk hl)
  · exact va_getN (D := D) (ci := ci) (C := Cn) (T := T) (N := N) C.1 C.2.1 C.2.2.2.2.1 h2 C.2.2.2.1 C.2.2.2.2.2.1 hP p0 he h1 k h5 (va_Nw.use rfl (C.2.2.2.2.2.2.2.2.2 _ hlk)) (fun _ h => h) hv' hd (kk H locs ls hP hS hk hl)
theorem vs_put (C : vs_X p s m args meth c b D aC own cc nL) {idx ci k p0 : Nat} {ty : FieldType} {fs : List Value} {v : Value} (hF : vs_F own idx ci k ty false) (hd : decode cc pc = .ok (.putfield idx, 3)) (hm : mem[p0]? = some (.inr (ci, fs))) (hn : narrow ty (vs_v b v) = vs_v b v) (hf : fits ty (vs_v b v) = true) (hkl : k < fs.length) (kk : vs_G p l e R s m args below meth c b D aC nL Q kc ks false (mem.set p0 (.inr (ci, fs.set k v))) (pc + 3) lv st) : vs_G p l e R s m args below meth c b D aC nL Q kc ks ck mem pc lv (v :: .ref p0 :: st) := by
  intro H locs ls hP hS hk hl
  obtain ⟨Cn, T, N, ty0, h1, h2, h3, h4, h5, h6, h7, h8, hlk⟩ := hF
  have he := vs_w_at (b := b) (aC := aC) hm
  have hgo : ∀ (H1 : Heap) (locs1 : List Loc), va_P D vwCl ((vs_w b aC 0 mem).set p0 (b + p0, .inr (ci, (fs.map (vs_v b)).set k (vs_v b v)))) H1 → va_D (fun q => b ≤ q) ((vs_w b aC 0 mem).set p0 (b + p0, .inr (ci, (fs.map (vs_v b)).set k (vs_v b v)))) → va_S (fun q => b ≤ q) s.heap H1 locs1 → W p l e R s m args below meth c H1 locs1 kc ks Q (F0 m (pc + 3) ls (st.map (vs_v b))) := by
    intro H1 locs1 hP1 _ hS1
    refine kk H1 locs1 ls ?_ hS1 (fun h => by cases h) hl
    rw [vs_w_set0]
    simpa [vs_c, List.map_set] using hP1
  rcases hlk with hlk | ⟨host, hlk⟩
  · exact va_put (D := D) (ci := ci) (C := Cn) (T := T) (N := N) C.1 C.2.1 C.2.2.2.2.1 h2 ty0 h3 h4 C.2.2.2.1 C.2.2.2.2.2.1 hP vs_w_D hS p0 he h1 k h5 (C.2.2.2.2.1 _ hlk) (fun _ h => h) h7 (by rw [← h6]; exact h3 k h5) hn hf (by simpa using hkl) hd hgo
  · exact va_putN (D := D) (ci := ci) (C := Cn) (T := T) (N := N) C.1 C.2.1 C.2.2.2.2.1 h2 ty0 h3 h4 C.2.2.2.1 C.2.2.2.2.2.1 hP vs_w_D hS p0 he h1 k h5 (va_Nw.use rfl (C.2.2.2.2.2.2.2.2.2 _ hlk)) (fun _ h => h) h7 (by rw [← h6]; exact h3 k h5) hn hf (by simpa using hkl) hd hgo
theorem vs_putF (C : vs_X p s m args meth c b D aC own cc nL) {idx ci k p0 : Nat} {ty : FieldType} {fs : List Value} {v : Value} (hF : vs_F own idx ci k ty true) (hin : meth.name = "<init>") (ho : (vwCl[ci]?).map (fun q => q.1) = some own) (hlk : ∀ Cn T N, vwCl[ci]? = some (Cn, T, N) → Cond.fieldLink own idx (T k).1 (T k).2.1 (T k).2.2.1 ∈ gT) (hd : decode cc pc = .ok (.putfield idx, 3)) (hm : mem[p0]? = some (.inr (ci, fs))) (hn : narrow ty (vs_v b v) = vs_v b v) (hf : fits ty (vs_v b v) = true) (hkl : k < fs.length) (kk : vs_G p l e R s m args below meth c b D aC nL Q kc ks false (mem.set p0 (.inr (ci, fs.set k v))) (pc + 3) lv st) : vs_G p l e R s m args below meth c b D aC nL Q kc ks ck mem pc lv (v :: .ref p0 :: st) := by
  intro H locs ls hP hS hk hl
  obtain ⟨Cn, T, N, ty0, h1, h2, h3, h4, h5, h6, h7, h8, -⟩ := hF
  have he := vs_w_at (b := b) (aC := aC) hm
  have hCn : Cn = own := by rw [h1] at ho; exact Option.some.inj ho
  refine va_putF (D := D) (ci := ci) (C := Cn) (T := T) (N := N) C.1 C.2.1 C.2.2.2.2.1 h2 ty0 h3 h4 C.2.2.2.1 C.2.2.2.2.2.1 hP vs_w_D hS p0 he h1 k h5 (C.2.2.2.2.1 _ (hlk _ _ _ h1)) (fun _ h => h) h7 hin (h8.trans hCn) (by rw [← h6]; exact h3 k h5) hn hf (by simpa using hkl) hd ?_
  intro H1 locs1 hP1 _ hS1
  refine kk H1 locs1 ls ?_ hS1 (fun h => by cases h) hl
  rw [vs_w_set0]
  simpa [vs_c, List.map_set] using hP1
theorem vs_new (C : vs_X p s m args meth c b D aC own cc nL) {idx ci n : Nat} {fs : List Value} (hN : vs_N own idx ci n fs) (hd : decode cc pc = .ok (.new idx, 3)) (hsz : s.heap.size + kc ≤ b + mem.length) (hcells : kc + 1 ≤ R.cells) (hslots : ks + n ≤ R.slots) (kk : vs_G p l e R s m args below meth c b D aC nL Q (kc + 1) (ks + n) ck (mem ++ [.inr (ci, fs)]) (pc + 3) lv (.ref mem.length :: st)) : vs_G p l e R s m args below meth c b D aC nL Q kc ks ck mem pc lv st := by
  intro H locs ls hP hS hk hl T hT X
  obtain ⟨Cn, Tt, ty0, h1, h2, h3, h4, h5, h6, h7, h8⟩ := hN
  have hup : H.size ≤ s.heap.size + kc := by
    have := X.same.2.2.1
    rw [← hT]
    exact this
  have hlo := vs_size hP (Nat.le_trans C.2.2.2.2.2.2.1 hS.1)
  have hH : H.size = b + mem.length := by omega
  have hKn := C.2.2.2.2.2.1.1 ci _ h1
  refine W.newcK C.1 C.2.1 C.2.2.2.1 (C.2.2.2.2.1 _ h4) (C.2.2.2.2.1 _ h5) (C.2.2.2.2.1 _ h6) (g := F0 m pc ls (st.map (vs_v b))) rfl hd hcells hslots hKn.2.1 hH (fun H1 kC hkC e1 z1 o1 => ?_) T hT X
  refine kk H1 locs ls ?_ ⟨Nat.le_trans hS.1 (by omega), fun x g1 g2 => (o1 x (by have := hS.1; omega)).trans (hS.2.1 x g1 g2), hS.2.2⟩ (fun hc q hq => (o1 q (by have := hS.1; omega)).trans (hk hc q hq)) hl
  rw [vs_w_app0]
  refine va_P.app (hP.kept (fun k x hx => o1 x.1 (by rw [← hH]; exact (hP k x hx).lt))) (fun k x hx => ?_)
  have hz : k < 1 := (List.getElem?_eq_some_iff.mp hx).1
  rw [show k = 0 by omega] at hx
  cases hx
  exact ⟨_, h1, (u_born ty0 C.2.2.2.2.1 h2 hKn hkC e1 h3).to (fun j hj => by show defaultValue (ty0 j) = vp_V (fs.map (vs_v b)) j; rw [h8 b]; exact h7 j hj)⟩
/-- a new array of n: of kind t (its place in vs_t) -/
theorem vs_newa (C : vs_X p s m args meth c b D aC own cc nL) {atype : ArrayType} {ty : FieldType} {t N : Nat} {n : Int32} {a0 : vp_A} (hw : Cond.arrayClass ty ∈ gT) (hty : newarray.typeOf atype = ty) (ht : (vs_t aC)[t]? = some (aC t, ty)) (hobj : ∀ cA U, va_RA U cA ty = (U.vm.findClass ("[" ++ ty.toString) = some cA)) (ha : ∀ cA : ClassId, vp_cell cA a0 = arrV cA N (fun _ => defaultValue ty)) (hd : decode cc pc = .ok (.newarray atype, 2)) (hn : ¬ n < 0) (hN : n.toNatClampNeg = N) (hbytes : N * componentBytes ty ≤ 536870912) (hsz : s.heap.size + kc ≤ b + mem.length) (hcells : kc + 1 ≤ R.cells) (hslots : ks + N ≤ R.slots) (kk : vs_G p l e R s m args below meth c b D aC nL Q (kc + 1) (ks + N) ck (mem ++ [.inl (t, a0)]) (pc + 2) lv (.ref mem.length :: st)) : vs_G p l e R s m args below meth c b D aC nL Q kc ks ck mem pc lv (.int n :: st) := by
  intro H locs ls hP hS hk hl T hT X
  subst hty
  have hup : H.size ≤ s.heap.size + kc := by
    have := X.same.2.2.1
    rw [← hT]
    exact this
  have hlo := vs_size hP (Nat.le_trans C.2.2.2.2.2.2.1 hS.1)
  have hH : H.size = b + mem.length := by omega
  have hra := (C.2.2.2.2.2.1.2 t _ ht).2
  rw [hobj] at hra
  refine va_newaK C.1 C.2.1 (C.2.2.2.2.1 _ hw) (g := F0 m pc ls (.int n :: st.map (vs_v b))) rfl hd rfl hn hN hbytes hcells hslots hH (fun H1 cA e1 z1 o1 hAr hNm => ?_) T hT X
  have hcA : cA = aC t := Option.some.inj (hNm.symm.trans hra)
  subst hcA
  refine kk H1 locs ls ?_ ⟨Nat.le_trans hS.1 (by omega), fun x g1 g2 => (o1 x (by have := hS.1; omega)).trans (hS.2.1 x g1 g2), hS.2.2⟩ (fun hc q hq => (o1 q (by have := hS.1; omega)).trans (hk hc q hq)) hl
  rw [vs_w_app0]
  refine va_P.app (hP.kept (fun k x hx => o1 x.1 (by rw [← hH]; exact (hP k x hx).lt))) (fun k x hx => ?_)
  have hz : k < 1 := (List.getElem?_eq_some_iff.mp hx).1
  rw [show k = 0 by omega] at hx
  cases hx
  show H1[b + mem.length]? = some (vp_cell _ _)
  rw [ha]
  exact e1
end Heap
