/-- the memory: int (and boolean) arrays, long, float, double arrays by position; int and long fields by position and place -/
abbrev vs_S : Type := (Nat → Nat → Int32) × (Nat → Nat → Int64) × (Nat → Nat → UInt32) × (Nat → Nat → UInt64) × (Nat → Nat → Int32) × (Nat → Nat → Int64)
/- positions: x 0, x.documents 1, x.documents.codes 2, x.documents.values 3, x.documents.allowed 4, x.documents.denied 5, x.documents.ids 1/4, x.filters 6, x.filters.segments 7, x.filters.users 8, x.filters.readable 9, x.filters.kept 6/3, x.filters.made 6/4, x.filters.reused 6/5, x.query 10, x.query.sorts 11, x.query.terms 12, x.query.fields 13, x.query.weights 14, x.query.open 15, x.query.veiledMust 10/5, x.query.size 10/6, x.hits 16, x.hits.ids 17, x.hits.scores 18, x.hits.size 16/2, x.hits.most 16/3, x.now 19, x.now.rights 20, x.now.rights.groupsOf 21, x.now.rights.levels 22, x.now.rights.clearances 23, x.now.segments 24, x.now.segments.numbers 25, x.now.segments.ids 26, x.now.segments.size 24/2, x.now.removed 19/2, x.seen 27, x.seen.rights 28, x.seen.rights.groupsOf 29, x.seen.rights.levels 30, x.seen.rights.clearances 31, x.seen.segments 32, x.seen.segments.numbers 33, x.seen.segments.ids 34, x.seen.segments.size 32/2, x.seen.removed 27/2, x.buffer 0/6, x.segmentsMade 0/7, x.blocksLooked 0/8, x.documentsFound 0/9, m 35, m.members 36, m.levels 37, m.clearances 38, m.oldMembers 39, m.oldLevels 40, m.oldClearances 41, m.value 42, m.code 43, m.allows 44, m.denies 45, m.parent 46, m.segment 47, m.seen 48, m.removed 49, m.seenRemoved 50, m.segments 51, m.shown 52, m.sort 53, m.term 54, m.field 55, m.order 56, m.hits 57, m.weight 58, m.scores 59, m.filterOf 60, m.filterFor 61, m.filterAt 62, m.ids 35/27, m.segmentMany 35/28, m.shownMany 35/29, m.serial 35/30, m.clauses 35/31, m.found 35/32, m.looked 35/33, m.matched 35/34, m.filters 35/35, m.made 35/36, m.reused 35/37, m.clock 35/38, m.thrown 35/39, out 63, outD 64 -/
def vs_mem (S : vs_S) : List vs_C := [
  .inr (7, [.ref 1, .ref 6, .ref 10, .ref 16, .ref 19, .ref 27, .long (S.2.2.2.2.2 0 6), .int (S.2.2.2.2.1 0 7), .int (S.2.2.2.2.1 0 8), .int (S.2.2.2.2.1 0 9)]),
  .inr (0, [.ref 2, .ref 3, .ref 4, .ref 5, .int (S.2.2.2.2.1 1 4)]),
  .inl (0, 984, .inl (S.1 2)),
  .inl (0, 123, .inl (S.1 3)),
  .inl (0, 41, .inl (S.1 4)),
  .inl (0, 41, .inl (S.1 5)),
  .inr (1, [.ref 7, .ref 8, .ref 9, .int (S.2.2.2.2.1 6 3), .int (S.2.2.2.2.1 6 4), .int (S.2.2.2.2.1 6 5)]),
  .inl (0, 5, .inl (S.1 7)),
  .inl (0, 5, .inl (S.1 8)),
  .inl (1, 5, .inr (.inl (S.2.1 9))),
  .inr (3, [.ref 11, .ref 12, .ref 13, .ref 14, .ref 15, .int (S.2.2.2.2.1 10 5), .int (S.2.2.2.2.1 10 6)]),
  .inl (0, 6, .inl (S.1 11)),
  .inl (0, 6, .inl (S.1 12)),
  .inl (0, 6, .inl (S.1 13)),
  .inl (2, 6, .inr (.inr (.inl (S.2.2.1 14)))),
  .inl (3, 6, .inl (S.1 15)),
  .inr (2, [.ref 17, .ref 18, .int (S.2.2.2.2.1 16 2), .int (S.2.2.2.2.1 16 3)]),
  .inl (0, 8, .inl (S.1 17)),
  .inl (2, 8, .inr (.inr (.inl (S.2.2.1 18)))),
  .inr (6, [.ref 20, .ref 24, .long (S.2.2.2.2.2 19 2)]),
  .inr (4, [.ref 21, .ref 22, .ref 23]),
  .inl (0, 16, .inl (S.1 21)),
  .inl (0, 3, .inl (S.1 22)),
  .inl (0, 8, .inl (S.1 23)),
  .inr (5, [.ref 25, .ref 26, .int (S.2.2.2.2.1 24 2)]),
  .inl (0, 6, .inl (S.1 25)),
  .inl (1, 6, .inr (.inl (S.2.1 26))),
  .inr (6, [.ref 28, .ref 32, .long (S.2.2.2.2.2 27 2)]),
  .inr (4, [.ref 29, .ref 30, .ref 31]),
  .inl (0, 16, .inl (S.1 29)),
  .inl (0, 3, .inl (S.1 30)),
  .inl (0, 8, .inl (S.1 31)),
  .inr (5, [.ref 33, .ref 34, .int (S.2.2.2.2.1 32 2)]),
  .inl (0, 6, .inl (S.1 33)),
  .inl (1, 6, .inr (.inl (S.2.1 34))),
  .inr (8, [.ref 36, .ref 37, .ref 38, .ref 39, .ref 40, .ref 41, .ref 42, .ref 43, .ref 44, .ref 45, .ref 46, .ref 47, .ref 48, .ref 49, .ref 50, .ref 51, .ref 52, .ref 53, .ref 54, .ref 55, .ref 56, .ref 57, .ref 58, .ref 59, .ref 60, .ref 61, .ref 62, .int (S.2.2.2.2.1 35 27), .int (S.2.2.2.2.1 35 28), .int (S.2.2.2.2.1 35 29), .int (S.2.2.2.2.1 35 30), .int (S.2.2.2.2.1 35 31), .int (S.2.2.2.2.1 35 32), .int (S.2.2.2.2.1 35 33), .int (S.2.2.2.2.1 35 34), .int (S.2.2.2.2.1 35 35), .int (S.2.2.2.2.1 35 36), .int (S.2.2.2.2.1 35 37), .int (S.2.2.2.2.1 35 38), .int (S.2.2.2.2.1 35 39)]),
  .inl (0, 16, .inl (S.1 36)),
  .inl (0, 3, .inl (S.1 37)),
  .inl (0, 8, .inl (S.1 38)),
  .inl (0, 16, .inl (S.1 39)),
  .inl (0, 3, .inl (S.1 40)),
  .inl (0, 8, .inl (S.1 41)),
  .inl (0, 123, .inl (S.1 42)),
  .inl (0, 984, .inl (S.1 43)),
  .inl (0, 41, .inl (S.1 44)),
  .inl (0, 41, .inl (S.1 45)),
  .inl (0, 41, .inl (S.1 46)),
  .inl (0, 40, .inl (S.1 47)),
  .inl (0, 40, .inl (S.1 48)),
  .inl (3, 40, .inl (S.1 49)),
  .inl (3, 40, .inl (S.1 50)),
  .inl (0, 6, .inl (S.1 51)),
  .inl (0, 6, .inl (S.1 52)),
  .inl (0, 6, .inl (S.1 53)),
  .inl (0, 6, .inl (S.1 54)),
  .inl (0, 6, .inl (S.1 55)),
  .inl (0, 6, .inl (S.1 56)),
  .inl (0, 9, .inl (S.1 57)),
  .inl (4, 6, .inr (.inr (.inr (.inl (S.2.2.2.1 58))))),
  .inl (2, 9, .inr (.inr (.inl (S.2.2.1 59)))),
  .inl (0, 5, .inl (S.1 60)),
  .inl (0, 5, .inl (S.1 61)),
  .inl (0, 5, .inl (S.1 62)),
  .inl (1, 1, .inr (.inl (S.2.1 63))),
  .inl (4, 1, .inr (.inr (.inr (.inl (S.2.2.2.1 64)))))]
def vs_uI (S : vs_S) (p : Nat) (f : Nat → Int32) : vs_S := (va_up S.1 p f, S.2)
def vs_uL (S : vs_S) (p : Nat) (f : Nat → Int64) : vs_S := (S.1, va_up S.2.1 p f, S.2.2)
def vs_uF (S : vs_S) (p : Nat) (f : Nat → UInt32) : vs_S := (S.1, S.2.1, va_up S.2.2.1 p f, S.2.2.2)
def vs_uD (S : vs_S) (p : Nat) (f : Nat → UInt64) : vs_S := (S.1, S.2.1, S.2.2.1, va_up S.2.2.2.1 p f, S.2.2.2.2)
def vs_ui (S : vs_S) (p k : Nat) (v : Int32) : vs_S := (S.1, S.2.1, S.2.2.1, S.2.2.2.1, va_up S.2.2.2.2.1 p (va_up (S.2.2.2.2.1 p) k v), S.2.2.2.2.2)
def vs_ul (S : vs_S) (p k : Nat) (v : Int64) : vs_S := (S.1, S.2.1, S.2.2.1, S.2.2.2.1, S.2.2.2.2.1, va_up S.2.2.2.2.2 p (va_up (S.2.2.2.2.2 p) k v))
section NRows
variable {p : Program} {l : Launch} {e : Env} {R : Room} {s : State} {m : MethodId} {args : Array Value} {below : List Frame} {meth : Method} {c : Code} {b : Nat} {D : va_G} {aC : Nat → ClassId} {nL : Nat} {Q : State → Prop} {kc ks : Nat} {ck : Bool} {mem : List vs_C} {pc : Nat} {lv : List (Option Value)} {st : List Value} {own : String} {cc : ByteArray}
theorem vs_ialdN (C : vs_X p s m args meth c b D aC own cc nL) {p0 n i : Nat} {f : Nat → Int32} {j : Int32} (hd : decode cc pc = .ok (.iaload, 1)) (hm : mem[p0]? = some (.inl (0, n, .inl f))) (hj : j = nI i) (hi : i < n) (hn : n < 2 ^ 31) (kk : vs_G p l e R s m args below meth c b D aC nL Q kc ks ck mem (pc + 1) lv (.int (f i) :: st)) : vs_G p l e R s m args below meth c b D aC nL Q kc ks ck mem pc lv (.int j :: .ref p0 :: st) := by
  subst hj
  refine vs_iald C hd hm (vp_in_nI hi hn) ?_
  rw [nI_clamp (Nat.lt_trans hi hn)]
  exact kk
theorem vs_iastN (C : vs_X p s m args meth c b D aC own cc nL) {p0 n i : Nat} {f : Nat → Int32} {j : Int32} {x : Int32} (hd : decode cc pc = .ok (.iastore, 1)) (hm : mem[p0]? = some (.inl (0, n, .inl f))) (hj : j = nI i) (hi : i < n) (hn : n < 2 ^ 31) (kk : vs_G p l e R s m args below meth c b D aC nL Q kc ks false (mem.set p0 (.inl (0, n, .inl (upd f i x)))) (pc + 1) lv st) : vs_G p l e R s m args below meth c b D aC nL Q kc ks ck mem pc lv (.int x :: .int j :: .ref p0 :: st) := by
  subst hj
  refine vs_iast C hd hm (vp_in_nI hi hn) ?_
  rw [nI_clamp (Nat.lt_trans hi hn)]
  exact kk
theorem vs_laldN (C : vs_X p s m args meth c b D aC own cc nL) {p0 n i : Nat} {f : Nat → Int64} {j : Int32} (hd : decode cc pc = .ok (.laload, 1)) (hm : mem[p0]? = some (.inl (1, n, .inr (.inl f)))) (hj : j = nI i) (hi : i < n) (hn : n < 2 ^ 31) (kk : vs_G p l e R s m args below meth c b D aC nL Q kc ks ck mem (pc + 1) lv (.long (f i) :: st)) : vs_G p l e R s m args below meth c b D aC nL Q kc ks ck mem pc lv (.int j :: .ref p0 :: st) := by
  subst hj
  refine vs_lald C hd hm (vp_in_nI hi hn) ?_
  rw [nI_clamp (Nat.lt_trans hi hn)]
  exact kk
theorem vs_lastN (C : vs_X p s m args meth c b D aC own cc nL) {p0 n i : Nat} {f : Nat → Int64} {j : Int32} {x : Int64} (hd : decode cc pc = .ok (.lastore, 1)) (hm : mem[p0]? = some (.inl (1, n, .inr (.inl f)))) (hj : j = nI i) (hi : i < n) (hn : n < 2 ^ 31) (kk : vs_G p l e R s m args below meth c b D aC nL Q kc ks false (mem.set p0 (.inl (1, n, .inr (.inl (vp_updL f i x))))) (pc + 1) lv st) : vs_G p l e R s m args below meth c b D aC nL Q kc ks ck mem pc lv (.long x :: .int j :: .ref p0 :: st) := by
  subst hj
  refine vs_last C hd hm (vp_in_nI hi hn) ?_
  rw [nI_clamp (Nat.lt_trans hi hn)]
  exact kk
theorem vs_faldN (C : vs_X p s m args meth c b D aC own cc nL) {p0 n i : Nat} {f : Nat → UInt32} {j : Int32} (hd : decode cc pc = .ok (.faload, 1)) (hm : mem[p0]? = some (.inl (2, n, .inr (.inr (.inl f))))) (hj : j = nI i) (hi : i < n) (hn : n < 2 ^ 31) (kk : vs_G p l e R s m args below meth c b D aC nL Q kc ks ck mem (pc + 1) lv (.float (f i) :: st)) : vs_G p l e R s m args below meth c b D aC nL Q kc ks ck mem pc lv (.int j :: .ref p0 :: st) := by
  subst hj
  refine vs_fald C hd hm (vp_in_nI hi hn) ?_
  rw [nI_clamp (Nat.lt_trans hi hn)]
  exact kk
theorem vs_fastN (C : vs_X p s m args meth c b D aC own cc nL) {p0 n i : Nat} {f : Nat → UInt32} {j : Int32} {x : UInt32} (hd : decode cc pc = .ok (.fastore, 1)) (hm : mem[p0]? = some (.inl (2, n, .inr (.inr (.inl f))))) (hj : j = nI i) (hi : i < n) (hn : n < 2 ^ 31) (kk : vs_G p l e R s m args below meth c b D aC nL Q kc ks false (mem.set p0 (.inl (2, n, .inr (.inr (.inl (vf_upd f i x)))))) (pc + 1) lv st) : vs_G p l e R s m args below meth c b D aC nL Q kc ks ck mem pc lv (.float x :: .int j :: .ref p0 :: st) := by
  subst hj
  refine vs_fast C hd hm (vp_in_nI hi hn) ?_
  rw [nI_clamp (Nat.lt_trans hi hn)]
  exact kk
theorem vs_zaldN (C : vs_X p s m args meth c b D aC own cc nL) {p0 n i : Nat} {f : Nat → Int32} {j : Int32} (hd : decode cc pc = .ok (.baload, 1)) (hm : mem[p0]? = some (.inl (3, n, .inl f))) (hj : j = nI i) (hi : i < n) (hn : n < 2 ^ 31) (kk : vs_G p l e R s m args below meth c b D aC nL Q kc ks ck mem (pc + 1) lv (.int (f i) :: st)) : vs_G p l e R s m args below meth c b D aC nL Q kc ks ck mem pc lv (.int j :: .ref p0 :: st) := by
  subst hj
  refine vs_zald C hd hm (vp_in_nI hi hn) ?_
  rw [nI_clamp (Nat.lt_trans hi hn)]
  exact kk
theorem vs_zastN (C : vs_X p s m args meth c b D aC own cc nL) {p0 n i : Nat} {f : Nat → Int32} {j : Int32} {x : Int32} (hd : decode cc pc = .ok (.bastore, 1)) (hm : mem[p0]? = some (.inl (3, n, .inl f))) (hj : j = nI i) (hi : i < n) (hn : n < 2 ^ 31) (kk : vs_G p l e R s m args below meth c b D aC nL Q kc ks false (mem.set p0 (.inl (3, n, .inl (upd f i (vp_nar .boolean x))))) (pc + 1) lv st) : vs_G p l e R s m args below meth c b D aC nL Q kc ks ck mem pc lv (.int x :: .int j :: .ref p0 :: st) := by
  subst hj
  refine vs_zast C hd hm (vp_in_nI hi hn) ?_
  rw [nI_clamp (Nat.lt_trans hi hn)]
  exact kk
theorem vs_daldN (C : vs_X p s m args meth c b D aC own cc nL) {p0 n i : Nat} {f : Nat → UInt64} {j : Int32} (hd : decode cc pc = .ok (.daload, 1)) (hm : mem[p0]? = some (.inl (4, n, .inr (.inr (.inr (.inl f)))))) (hj : j = nI i) (hi : i < n) (hn : n < 2 ^ 31) (kk : vs_G p l e R s m args below meth c b D aC nL Q kc ks ck mem (pc + 1) lv (.double (f i) :: st)) : vs_G p l e R s m args below meth c b D aC nL Q kc ks ck mem pc lv (.int j :: .ref p0 :: st) := by
  subst hj
  refine vs_dald C hd hm (vp_in_nI hi hn) ?_
  rw [nI_clamp (Nat.lt_trans hi hn)]
  exact kk
theorem vs_dastN (C : vs_X p s m args meth c b D aC own cc nL) {p0 n i : Nat} {f : Nat → UInt64} {j : Int32} {x : UInt64} (hd : decode cc pc = .ok (.dastore, 1)) (hm : mem[p0]? = some (.inl (4, n, .inr (.inr (.inr (.inl f)))))) (hj : j = nI i) (hi : i < n) (hn : n < 2 ^ 31) (kk : vs_G p l e R s m args below meth c b D aC nL Q kc ks false (mem.set p0 (.inl (4, n, .inr (.inr (.inr (.inl (vf_upd f i x))))))) (pc + 1) lv st) : vs_G p l e R s m args below meth c b D aC nL Q kc ks ck mem pc lv (.double x :: .int j :: .ref p0 :: st) := by
  subst hj
  refine vs_dast C hd hm (vp_in_nI hi hn) ?_
  rw [nI_clamp (Nat.lt_trans hi hn)]
  exact kk
end NRows
