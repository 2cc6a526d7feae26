theorem va_up_id {α : Type} (f : Nat → α) (k : Nat) : va_up f k (f k) = f := by
  funext j
  simp only [va_up]
  by_cases h : j = k
  · rw [if_pos h, h]
  · rw [if_neg h]
/-- the HITS by themselves: IDS, SCORES, how many -/
abbrev hp : Type := (Nat → Int32) × (Nat → UInt32) × Nat
def hpI (v : UInt32) : Nat → (Nat → Int32) → (Nat → UInt32) → Nat × (Nat → Int32) × (Nat → UInt32)
  | 0, a, s => (0, a, s)
  | i + 1, a, s => if 0 ≤ cmpG (s i) v then (i + 1, a, s) else hpI v i (upd a (i + 1) (a i)) (vf_upd s (i + 1) (s i))
theorem hI_hp (v : UInt32) : ∀ (i : Nat) (S : vs_S), hI v i S = ((hpI v i (S.1 17) (S.2.2.1 18)).1, vs_uF (vs_uI S 17 (hpI v i (S.1 17) (S.2.2.1 18)).2.1) 18 (hpI v i (S.1 17) (S.2.2.1 18)).2.2)
  | 0, S => by
    simp only [hI, hpI, vs_uF, vs_uI, va_up_id]
  | i + 1, S => by
    simp only [hI, hpI]
    by_cases h : 0 ≤ cmpG (S.2.2.1 18 i) v
    · rw [if_pos h, if_pos h]
      simp only [vs_uF, vs_uI, va_up_id]
    · rw [if_neg h, if_neg h, hI_hp v i (hMv S i)]
      have e1 : (hMv S i).1 17 = upd (S.1 17) (i + 1) (S.1 17 i) := rfl
      have e2 : (hMv S i).2.2.1 18 = vf_upd (S.2.2.1 18) (i + 1) (S.2.2.1 18 i) := rfl
      rw [e1, e2]
      simp only [hMv, vs_uF, vs_uI, bx_uu]
def lastp (h : hp) : UInt32 := if h.2.2 = 0 then FP.fconst0 else h.2.1 (h.2.2 - 1)
def hpTake (id : Int32) (v : UInt32) (M : Nat) (h : hp) : hp :=
  if h.2.2 = M ∧ ¬ 0 < cmpG v (lastp h) then h
  else (upd (hpI v (if h.2.2 < M then h.2.2 else M - 1) h.1 h.2.1).2.1 (hpI v (if h.2.2 < M then h.2.2 else M - 1) h.1 h.2.1).1 id, vf_upd (hpI v (if h.2.2 < M then h.2.2 else M - 1) h.1 h.2.1).2.2 (hpI v (if h.2.2 < M then h.2.2 else M - 1) h.1 h.2.1).1 v, if h.2.2 < M then h.2.2 + 1 else M)
def xHit (S : vs_S) (h : hp) : vs_S := vs_ui (vs_uF (vs_uI S 17 h.1) 18 h.2.1) 16 2 (nI h.2.2)
/-- the memory of a search: S with HITS h, bl BLOCKS LOOKED AT, df DOCUMENTS FOUND -/
def xS (S : vs_S) (h : hp) (bl df : Int32) : vs_S := vs_ui (vs_ui (xHit S h) 0 8 bl) 0 9 df
theorem scF_xS (S : vs_S) (h : hp) (bl df : Int32) (n : Nat) : ∀ k, scF (xS S h bl df) n k = scF S n k
  | 0 => rfl
  | k + 1 => by
    simp only [scF, scF_xS S h bl df n k]
    rfl
theorem scOK_xS {S : vs_S} {h : hp} {bl df : Int32} {n i : Nat} (hh : scOK S n i) : scOK (xS S h bl df) n i := by
  unfold scOK
  rw [scF_xS]
  exact hh
theorem hTake_xS (S : vs_S) (h : hp) (bl df id : Int32) (v : UInt32) (M : Nat) : vs_mem (hTake (xS S h bl df) id v h.2.2 M) = vs_mem (xS S (hpTake id v M h) bl df) := by
  have e : lastS (xS S h bl df) h.2.2 = lastp h := rfl
  unfold hTake hpTake
  rw [e]
  by_cases hc : h.2.2 = M ∧ ¬ 0 < cmpG v (lastp h)
  · rw [if_pos hc, if_pos hc]
  · rw [if_neg hc, if_neg hc, hI_hp]
    rfl
theorem hpTake_le (id : Int32) (v : UInt32) (M : Nat) (h : hp) (hM : h.2.2 ≤ M) : (hpTake id v M h).2.2 ≤ M := by
  unfold hpTake
  by_cases hc : h.2.2 = M ∧ ¬ 0 < cmpG v (lastp h)
  · rw [if_pos hc]; exact hM
  · rw [if_neg hc]
    show (if h.2.2 < M then h.2.2 + 1 else M) ≤ M
    split <;> omega
set_option maxRecDepth 100000 in
set_option maxHeartbeats 4000000 in
theorem k_X_appendSegment_0 (l : Launch) (b : Nat) (D : va_G) (aC : Nat → ClassId) (S : vs_S)  : vs_M l b D aC false false y_X_appendSegment (.code y_X_appendSegment c_X_appendSegment 3 (Option.none : Option Jvm.ClassFile.FieldType)) { frames := 1, cells := 0, slots := 0, locals := 23 } [.ref 0, .long 0] (vs_mem S) (vs_ret none (vs_mem S)) := by
  refine vs_M.of (by decide) (Nat.le_of_ble_eq_true rfl) ?_
  intro p e s m args below meth c C hmn hr hx htg
  generalize hQ : vs_E below args s b D aC false false (vs_ret none (vs_mem S)) { frames := 1, cells := 0, slots := 0, locals := 23 } = Q
  refine vs_lload_n C rfl d_X_appendSegment_0 ?_
  refine vs_lconst (v := 0) C (by decide) d_X_appendSegment_1 ?_
  refine vs_lcmp C d_X_appendSegment_2 ?_
  refine vs_if_eq (tgt := 31) C d_X_appendSegment_3 (by decide) (fun h1 => ?_) (fun h1 => ?_)
  · subst hQ
    exact vs_vret C hr d_X_appendSegment_31 ⟨Nat.le_of_ble_eq_true rfl, Nat.le_of_ble_eq_true rfl⟩ (fun h => by cases h) (by first | exact (fun _ => rfl) | exact (fun h => by cases h)) (⟨rfl, rfl⟩)
  · exact absurd (lg0.mpr rfl) h1
def xApp (S : vs_S) (k : Nat) (ids : Int64) : vs_S := vs_ui (vs_ui (vs_uL (vs_uI S 25 (upd (S.1 25) k (S.2.2.2.2.1 0 7))) 26 (vp_updL (S.2.1 26) k ids)) 24 2 (S.2.2.2.2.1 24 2 + 1)) 0 7 (S.2.2.2.2.1 0 7 + 1)
set_option maxRecDepth 100000 in
set_option maxHeartbeats 4000000 in
theorem k_X_appendSegment_1 (l : Launch) (b : Nat) (D : va_G) (aC : Nat → ClassId) (S : vs_S) (k : Nat) (ids : Int64) (hk : (S.2.2.2.2.1 24 2) = nI k) (hk6 : k < 6) (hne : ¬ ids = 0) : vs_M l b D aC false false y_X_appendSegment (.code y_X_appendSegment c_X_appendSegment 3 (Option.none : Option Jvm.ClassFile.FieldType)) { frames := 1, cells := 0, slots := 0, locals := 23 } [.ref 0, .long ids] (vs_mem S) (vs_ret none (vs_mem (xApp S k ids))) := by
  refine vs_M.of (by decide) (Nat.le_of_ble_eq_true rfl) ?_
  intro p e s m args below meth c C hmn hr hx htg
  generalize hQ : vs_E below args s b D aC false false (vs_ret none (vs_mem (xApp S k ids))) { frames := 1, cells := 0, slots := 0, locals := 23 } = Q
  refine vs_lload_n C rfl d_X_appendSegment_0 ?_
  refine vs_lconst (v := 0) C (by decide) d_X_appendSegment_1 ?_
  refine vs_lcmp C d_X_appendSegment_2 ?_
  refine vs_if_eq (tgt := 31) C d_X_appendSegment_3 (by decide) (fun h1 => ?_) (fun h1 => ?_)
  · exact absurd (lg0.mp h1) hne
  · refine vs_aload_n C rfl d_X_appendSegment_6 ?_
    refine vs_get C fl_X_40 d_X_appendSegment_7 rfl rfl ?_
    refine vs_get C fl_X_135 d_X_appendSegment_10 rfl rfl ?_
    refine vs_aload_n C rfl d_X_appendSegment_13 ?_
    refine vs_get C fl_X_51 d_X_appendSegment_14 rfl rfl ?_
    refine vs_lload_n C rfl d_X_appendSegment_17 ?_
    refine vs_cV C (k_S_append l b D aC S k (S.2.2.2.2.1 0 7) ids hk hk6) yk_S_append ml_X_237 im_S_append se_S_append d_X_appendSegment_18 rfl rfl rfl rfl (by exact Nat.le_of_ble_eq_true rfl) (by exact ⟨Nat.le_of_ble_eq_true rfl, Nat.le_of_ble_eq_true rfl⟩) (by exact ⟨Nat.le_of_ble_eq_true rfl, Nat.le_of_ble_eq_true rfl⟩) (fun h => by cases h) ?_
    refine vs_aload_n C rfl d_X_appendSegment_21 ?_
    refine vs_dup C rfl d_X_appendSegment_22 ?_
    refine vs_get C fl_X_51 d_X_appendSegment_23 rfl rfl ?_
    refine vs_iconst (v := 1) C (by decide) d_X_appendSegment_26 ?_
    refine vs_iadd C d_X_appendSegment_27 ?_
    refine vs_put C fl_X_51 d_X_appendSegment_28 rfl rfl rfl (Nat.le_of_ble_eq_true rfl) ?_
    subst hQ
    exact vs_vret C hr d_X_appendSegment_31 ⟨Nat.le_of_ble_eq_true rfl, Nat.le_of_ble_eq_true rfl⟩ (fun h => by cases h) (by first | exact (fun _ => rfl) | exact (fun h => by cases h)) (⟨rfl, rfl⟩)
def xTok (S : vs_S) (u : Int32) : Int32 := tk_o (S.1 29) 8 (1 <<< (u &&& 31))
set_option maxRecDepth 100000 in
set_option maxHeartbeats 4000000 in
theorem k_X_filterOf_s (l : Launch) (b : Nat) (D : va_G) (aC : Nat → ClassId) (S : vs_S) (kf j : Nat) (x u : Int32) (ids : Int64) (hkf : (S.2.2.2.2.1 6 3) = nI kf) (hkf5 : kf ≤ 5) (hp : pl (S.1 7) (S.1 8) x u kf = some j) : vs_M l b D aC false false y_X_filterOf (.code y_X_filterOf c_X_filterOf 8 (Option.some Jvm.ClassFile.FieldType.long)) { frames := 2, cells := 0, slots := 0, locals := 49 } [.ref 0, .int x, .long ids, .int u] (vs_mem S) (vs_ret (some (.long (S.2.1 9 j))) (vs_mem (fRe S j kf))) := by
  refine vs_M.of (by decide) (Nat.le_of_ble_eq_true rfl) ?_
  intro p e s m args below meth c C hmn hr hx htg
  generalize hQ : vs_E below args s b D aC false false (vs_ret (some (.long (S.2.1 9 j))) (vs_mem (fRe S j kf))) { frames := 2, cells := 0, slots := 0, locals := 49 } = Q
  have hj := (pl_some.mp hp).1
  refine vs_aload_n C rfl d_X_filterOf_0 ?_
  refine vs_get C fl_X_19 d_X_filterOf_1 rfl rfl ?_
  refine vs_iload_n C rfl d_X_filterOf_4 ?_
  refine vs_iload C rfl d_X_filterOf_5 ?_
  refine vs_cV C (k_F_placeOf l b D aC S x u kf hkf hkf5) yk_F_placeOf ml_X_241 im_F_placeOf se_F_placeOf d_X_filterOf_7 rfl rfl rfl rfl (by exact Nat.le_of_ble_eq_true rfl) (by exact ⟨Nat.le_of_ble_eq_true rfl, Nat.le_of_ble_eq_true rfl⟩) (by exact ⟨Nat.le_of_ble_eq_true rfl, Nat.le_of_ble_eq_true rfl⟩) (fun h => by cases h) ?_
  rw [hp]
  refine vs_istore C d_X_filterOf_10 (by decide) ?_
  refine vs_iload C rfl d_X_filterOf_12 ?_
  refine vs_if_lt (tgt := 27) C d_X_filterOf_14 (by decide) (fun h1 => ?_) (fun h1 => ?_)
  · exact absurd h1 (nI_pos (by omega))
  · refine vs_aload_n C rfl d_X_filterOf_17 ?_
    refine vs_get C fl_X_19 d_X_filterOf_18 rfl rfl ?_
    refine vs_iload C rfl d_X_filterOf_21 ?_
    refine vs_cV C (k_F_reuse l b D aC S kf j hkf hkf5 hj) yk_F_reuse ml_X_244 im_F_reuse se_F_reuse d_X_filterOf_23 rfl rfl rfl rfl (by exact Nat.le_of_ble_eq_true rfl) (by exact ⟨Nat.le_of_ble_eq_true rfl, Nat.le_of_ble_eq_true rfl⟩) (by exact ⟨Nat.le_of_ble_eq_true rfl, Nat.le_of_ble_eq_true rfl⟩) (fun h => by cases h) ?_
    subst hQ
    exact vs_lret C hr d_X_filterOf_26 ⟨Nat.le_of_ble_eq_true rfl, Nat.le_of_ble_eq_true rfl⟩ (fun h => by cases h) (by first | exact (fun _ => rfl) | exact (fun h => by cases h)) (⟨rfl, rfl⟩)
set_option maxRecDepth 100000 in
set_option maxHeartbeats 4000000 in
theorem k_X_filterOf_n (l : Launch) (b : Nat) (D : va_G) (aC : Nat → ClassId) (S : vs_S) (kf kd : Nat) (x u : Int32) (ids : Int64) (hkf : (S.2.2.2.2.1 6 3) = nI kf) (hkf5 : kf ≤ 5) (hkd : (S.2.2.2.2.1 1 4) = nI kd) (hkd40 : kd ≤ 40) (hp : pl (S.1 7) (S.1 8) x u kf = none) : vs_M l b D aC false false y_X_filterOf (.code y_X_filterOf c_X_filterOf 8 (Option.some Jvm.ClassFile.FieldType.long)) { frames := 2, cells := 0, slots := 0, locals := 49 } [.ref 0, .int x, .long ids, .int u] (vs_mem S) (vs_ret (some (.long (rd S ids (xTok S u) kd))) (vs_mem (fNew S kf x u (rd S ids (xTok S u) kd)))) := by
  refine vs_M.of (by decide) (Nat.le_of_ble_eq_true rfl) ?_
  intro p e s m args below meth c C hmn hr hx htg
  generalize hQ : vs_E below args s b D aC false false (vs_ret (some (.long (rd S ids (xTok S u) kd))) (vs_mem (fNew S kf x u (rd S ids (xTok S u) kd)))) { frames := 2, cells := 0, slots := 0, locals := 49 } = Q
  refine vs_aload_n C rfl d_X_filterOf_0 ?_
  refine vs_get C fl_X_19 d_X_filterOf_1 rfl rfl ?_
  refine vs_iload_n C rfl d_X_filterOf_4 ?_
  refine vs_iload C rfl d_X_filterOf_5 ?_
  refine vs_cV C (k_F_placeOf l b D aC S x u kf hkf hkf5) yk_F_placeOf ml_X_241 im_F_placeOf se_F_placeOf d_X_filterOf_7 rfl rfl rfl rfl (by exact Nat.le_of_ble_eq_true rfl) (by exact ⟨Nat.le_of_ble_eq_true rfl, Nat.le_of_ble_eq_true rfl⟩) (by exact ⟨Nat.le_of_ble_eq_true rfl, Nat.le_of_ble_eq_true rfl⟩) (fun h => by cases h) ?_
  rw [hp]
  refine vs_istore C d_X_filterOf_10 (by decide) ?_
  refine vs_iload C rfl d_X_filterOf_12 ?_
  refine vs_if_lt (tgt := 27) C d_X_filterOf_14 (by decide) (fun h1 => ?_) (fun h1 => ?_)
  · refine vs_aload_n C rfl d_X_filterOf_27 ?_
    refine vs_get C fl_X_12 d_X_filterOf_28 rfl rfl ?_
    refine vs_lload_n C rfl d_X_filterOf_31 ?_
    refine vs_aload_n C rfl d_X_filterOf_32 ?_
    refine vs_get C fl_X_44 d_X_filterOf_33 rfl rfl ?_
    refine vs_get C fl_X_68 d_X_filterOf_36 rfl rfl ?_
    refine vs_iload C rfl d_X_filterOf_39 ?_
    refine vs_cV C (k_R_tokensOf_Seen l b D aC S u) yk_R_tokensOf ml_X_213 im_R_tokensOf se_R_tokensOf d_X_filterOf_41 rfl rfl rfl rfl (by exact Nat.le_of_ble_eq_true rfl) (by exact ⟨Nat.le_of_ble_eq_true rfl, Nat.le_of_ble_eq_true rfl⟩) (by exact ⟨Nat.le_of_ble_eq_true rfl, Nat.le_of_ble_eq_true rfl⟩) (fun h => by cases h) ?_
    refine vs_cV C (k_D_readableOf l b D aC S ids (xTok S u) kd hkd hkd40) yk_D_readableOf ml_X_248 im_D_readableOf se_D_readableOf d_X_filterOf_44 rfl rfl rfl rfl (by exact Nat.le_of_ble_eq_true rfl) (by exact ⟨Nat.le_of_ble_eq_true rfl, Nat.le_of_ble_eq_true rfl⟩) (by exact ⟨Nat.le_of_ble_eq_true rfl, Nat.le_of_ble_eq_true rfl⟩) (fun h => by cases h) ?_
    refine vs_lstore C d_X_filterOf_47 (by decide) ?_
    refine vs_aload_n C rfl d_X_filterOf_49 ?_
    refine vs_get C fl_X_19 d_X_filterOf_50 rfl rfl ?_
    refine vs_iload_n C rfl d_X_filterOf_53 ?_
    refine vs_iload C rfl d_X_filterOf_54 ?_
    refine vs_lload C rfl d_X_filterOf_56 ?_
    refine vs_cV C (k_F_keepNew l b D aC S kf x u (rd S ids (xTok S u) kd) hkf hkf5) yk_F_keepNew ml_X_252 im_F_keepNew se_F_keepNew d_X_filterOf_58 rfl rfl rfl rfl (by exact Nat.le_of_ble_eq_true rfl) (by exact ⟨Nat.le_of_ble_eq_true rfl, Nat.le_of_ble_eq_true rfl⟩) (by exact ⟨Nat.le_of_ble_eq_true rfl, Nat.le_of_ble_eq_true rfl⟩) (fun h => by cases h) ?_
    refine vs_lload C rfl d_X_filterOf_61 ?_
    subst hQ
    exact vs_lret C hr d_X_filterOf_63 ⟨Nat.le_of_ble_eq_true rfl, Nat.le_of_ble_eq_true rfl⟩ (fun h => by cases h) (by first | exact (fun _ => rfl) | exact (fun h => by cases h)) (⟨rfl, rfl⟩)
  · exact absurd (show plV none < 0 by decide) h1
theorem one_shl {d : Nat} (hd : d < 64) : (1 : Int64) <<< ((nI d).toInt64 &&& 63) = lN (2 ^ d) := by
  have := wb_shl 1 hd
  rw [Nat.one_mul] at this
  exact this
/-- one BLOCK is LOOKED AT -/
def lk (F : Nat → Bool) (g : Nat → UInt32) (M : Nat) : Nat → Nat → hp × Int32 → hp × Int32
  | 0, _, x => x
  | k + 1, n, x => if n = 0 then x else lk F g M k (n - 2 ^ lo n) (if F (lo n) = true then (hpTake (nI (lo n)) (g (lo n)) M x.1, x.2 + 1) else x)
section Look
variable {p : Program} {l : Launch} {e : Env} {R : Room} {s : State} {m : MethodId} {args : Array Value} {below : List Frame} {meth : Method} {c : Code} {b : Nat} {D : va_G} {aC : Nat → ClassId} {Q : State → Prop} {kc ks : Nat} {ck : Bool}
theorem look_l (C : vs_X p s m args meth c b D aC "VeilSearch" c_X_lookAt 7) (S : vs_S) (n0 : Int64) (kq M : Nat) (bl : Int32) (hkq : (S.2.2.2.2.1 10 6) = nI kq) (hkq6 : kq ≤ 6) (hM : (S.2.2.2.2.1 16 3) = nI M) (hM1 : 1 ≤ M) (hM8 : M ≤ 8) (hfl : ∀ i, i < kq → (∃ f, f < 3 ∧ S.1 13 i = nI f) ∧ ∃ t, t < 8 ∧ S.1 12 i = nI t) (hok : ∀ d, d < 40 → ∀ i, i < kq → scOK S (2 ^ d) i) (R0 : hp × Int32)
    (K : ∀ lv, vs_G p l e { frames := 4, cells := 0, slots := 0, locals := 114 } s m args below meth c b D aC 7 Q 0 0 false (vs_mem (xS S R0.1 bl R0.2)) 95 lv []) : ∀ (k i n : Nat) (x : hp × Int32) (o6 : Option Value), i + k = 4 → n < 2 ^ 40 → x.1.2.2 ≤ M → lk (fun d => fnd S d kq) (fun d => scF S (2 ^ d) kq) M k n x = R0 → vs_G p l e { frames := 4, cells := 0, slots := 0, locals := 114 } s m args below meth c b D aC 7 Q 0 0 false (vs_mem (xS S x.1 bl x.2)) 15 [some (.ref 0), some (.long n0), none, some (.long (lN n)), none, some (.int (nI i)), o6] [] := by
  intro k
  induction k with
  | zero =>
    intro i n x o6 hi hn hx hR
    obtain rfl : i = 4 := by omega
    refine vs_iload C rfl d_X_lookAt_15 ?_
    refine vs_iconst (v := 4) C (by decide) d_X_lookAt_17 ?_
    refine vs_icmp_ge (tgt := 95) C d_X_lookAt_18 (by decide) (fun h1 => ?_) (fun h1 => ?_)
    · cases hR
      exact K _
    · exact absurd (Int32.le_refl _) h1
  | succ k ih =>
    intro i n x o6 hi hn hx hR
    refine vs_iload C rfl d_X_lookAt_15 ?_
    refine vs_iconst (v := 4) C (by decide) d_X_lookAt_17 ?_
    refine vs_icmp_ge (tgt := 95) C d_X_lookAt_18 (by decide) (fun h1 => ?_) (fun h1 => ?_)
    · exact absurd (n_ge (N := 4) (i := i) h1 rfl rfl (by decide) (by omega)) (by omega)
    · refine vs_lload_n C rfl d_X_lookAt_21 ?_
      refine vs_lconst (v := 0) C (by decide) d_X_lookAt_22 ?_
      refine vs_lcmp C d_X_lookAt_23 ?_
      refine vs_if_eq (tgt := 95) C d_X_lookAt_24 (by decide) (fun h2 => ?_) (fun h2 => ?_)
      · have hr0 : n = 0 := Decidable.not_not.mp (fun h => lN_ne0 h hn (lg0.mp h2))
        rw [show lk (fun d => fnd S d kq) (fun d => scF S (2 ^ d) kq) M (k + 1) n x = x from if_pos hr0] at hR
        cases hR
        exact K _
      · have hr0 : n ≠ 0 := fun h => h2 (by rw [h]; decide)
        obtain ⟨d, hd, b1, b2, e1, e2⟩ := lo_all hr0 hn
        have hlo := lo_is b1 b2 (by omega) (Nat.lt_trans hn (by decide))
        rw [show lk (fun d => fnd S d kq) (fun d => scF S (2 ^ d) kq) M (k + 1) n x = _ from if_neg hr0, hlo] at hR
        refine vs_lload_n C rfl d_X_lookAt_27 ?_
        refine vs_cS C (k_X_lowestId l b D aC (xS S x.1 bl x.2) (lN n)) yk_X_lowestId ml_X_274 st_X_lowestId d_X_lookAt_28 rfl rfl (by exact Nat.le_of_ble_eq_true rfl) (by exact ⟨Nat.le_of_ble_eq_true rfl, Nat.le_of_ble_eq_true rfl⟩) (by exact ⟨Nat.le_of_ble_eq_true rfl, Nat.le_of_ble_eq_true rfl⟩) (fun h => by cases h) ?_
        rw [e1]
        refine vs_istore C d_X_lookAt_31 (by decide) ?_
        refine vs_lload_n C rfl d_X_lookAt_33 ?_
        refine vs_lload_n C rfl d_X_lookAt_34 ?_
        refine vs_lconst (v := 1) C (by decide) d_X_lookAt_35 ?_
        refine vs_lsub C d_X_lookAt_36 ?_
        refine vs_land C d_X_lookAt_37 ?_
        rw [e2]
        refine vs_lstore_n C d_X_lookAt_38 (by decide) ?_
        refine vs_aload_n C rfl d_X_lookAt_39 ?_
        refine vs_get C fl_X_26 d_X_lookAt_40 rfl rfl ?_
        refine vs_iload C rfl d_X_lookAt_43 ?_
        refine vs_aload_n C rfl d_X_lookAt_45 ?_
        refine vs_get C fl_X_12 d_X_lookAt_46 rfl rfl ?_
        refine vs_cV C (k_Q_finds l b D aC (xS S x.1 bl x.2) d kq (by omega) hkq hkq6 hfl) yk_Q_finds ml_X_277 im_Q_finds se_Q_finds d_X_lookAt_49 rfl rfl rfl rfl (by exact Nat.le_of_ble_eq_true rfl) (by exact ⟨Nat.le_of_ble_eq_true rfl, Nat.le_of_ble_eq_true rfl⟩) (by exact ⟨Nat.le_of_ble_eq_true rfl, Nat.le_of_ble_eq_true rfl⟩) (fun h => by cases h) ?_
        have hgo : ∀ x2 : hp × Int32, x2.1.2.2 ≤ M → lk (fun d => fnd S d kq) (fun d => scF S (2 ^ d) kq) M k (n - 2 ^ d) x2 = R0 → vs_G p l e { frames := 4, cells := 0, slots := 0, locals := 114 } s m args below meth c b D aC 7 Q 0 0 false (vs_mem (xS S x2.1 bl x2.2)) 89 [some (.ref 0), some (.long n0), none, some (.long (lN (n - 2 ^ d))), none, some (.int (nI i)), some (.int (nI d))] [] := by
          intro x2 hx2 hR2
          refine vs_iinc C d_X_lookAt_89 rfl (nI_1 i) (by decide) ?_
          refine vs_goto (tgt := 15) C d_X_lookAt_92 (by decide) ?_
          exact ih (i + 1) (n - 2 ^ d) x2 (some (.int (nI d))) (by omega) (Nat.lt_of_le_of_lt (Nat.sub_le _ _) hn) hx2 hR2
        refine vs_if_eq (tgt := 89) C d_X_lookAt_52 (by decide) (fun h3 => ?_) (fun h3 => ?_)
        · have hf : ¬ fnd S d kq = true := b01_0.mp h3
          exact hgo x hx (by rw [if_neg hf] at hR; exact hR)
        · have hf : fnd S d kq = true := b01_n h3
          refine vs_aload_n C rfl d_X_lookAt_55 ?_
          refine vs_dup C rfl d_X_lookAt_56 ?_
          refine vs_get C fl_X_58 d_X_lookAt_57 rfl rfl ?_
          refine vs_iconst (v := 1) C (by decide) d_X_lookAt_60 ?_
          refine vs_iadd C d_X_lookAt_61 ?_
          refine vs_put C fl_X_58 d_X_lookAt_62 rfl rfl rfl (Nat.le_of_ble_eq_true rfl) ?_
          refine vs_aload_n C rfl d_X_lookAt_65 ?_
          refine vs_get C fl_X_33 d_X_lookAt_66 rfl rfl ?_
          refine vs_iload C rfl d_X_lookAt_69 ?_
          refine vs_aload_n C rfl d_X_lookAt_71 ?_
          refine vs_get C fl_X_26 d_X_lookAt_72 rfl rfl ?_
          refine vs_lconst (v := 1) C (by decide) d_X_lookAt_75 ?_
          refine vs_iload C rfl d_X_lookAt_76 ?_
          refine vs_lshl C d_X_lookAt_78 ?_
          refine vs_aload_n C rfl d_X_lookAt_79 ?_
          refine vs_get C fl_X_12 d_X_lookAt_80 rfl rfl ?_
          rw [one_shl (by omega)]
          refine vs_mem_eq (mem2 := vs_mem (xS S x.1 bl (x.2 + 1))) rfl ?_
          refine vs_cV C (k_Q_scoreOf l b D aC (xS S x.1 bl (x.2 + 1)) (2 ^ d) kq (Nat.pow_lt_pow_right (by decide) hd) hkq hkq6 hfl (fun i hi => scOK_xS (hok d hd i hi))) yk_Q_scoreOf ml_X_263 im_Q_scoreOf se_Q_scoreOf d_X_lookAt_83 rfl rfl rfl rfl (by exact Nat.le_of_ble_eq_true rfl) (by exact ⟨Nat.le_of_ble_eq_true rfl, Nat.le_of_ble_eq_true rfl⟩) (by exact ⟨Nat.le_of_ble_eq_true rfl, Nat.le_of_ble_eq_true rfl⟩) (fun h => by cases h) ?_
          rw [scF_xS]
          refine vs_cV C (k_H_take l b D aC (xS S x.1 bl (x.2 + 1)) (nI d) (scF S (2 ^ d) kq) x.1.2.2 M rfl hM hx hM1 hM8) yk_H_take ml_X_281 im_H_take se_H_take d_X_lookAt_86 rfl rfl rfl rfl (by exact Nat.le_of_ble_eq_true rfl) (by exact ⟨Nat.le_of_ble_eq_true rfl, Nat.le_of_ble_eq_true rfl⟩) (by exact ⟨Nat.le_of_ble_eq_true rfl, Nat.le_of_ble_eq_true rfl⟩) (fun h => by cases h) ?_
          refine vs_mem_eq (hTake_xS S x.1 bl (x.2 + 1) (nI d) (scF S (2 ^ d) kq) M).symm ?_
          exact hgo (hpTake (nI d) (scF S (2 ^ d) kq) M x.1, x.2 + 1) (hpTake_le _ _ _ _ hx) (by rw [if_pos hf] at hR; exact hR)
end Look
set_option maxRecDepth 100000 in
set_option maxHeartbeats 4000000 in
theorem k_X_lookAt (l : Launch) (b : Nat) (D : va_G) (aC : Nat → ClassId) (S : vs_S) (h : hp) (bl df : Int32) (n kq M : Nat) (hn : n < 2 ^ 40) (hkq : (S.2.2.2.2.1 10 6) = nI kq) (hkq6 : kq ≤ 6) (hM : (S.2.2.2.2.1 16 3) = nI M) (hM1 : 1 ≤ M) (hM8 : M ≤ 8) (hh : h.2.2 ≤ M) (hfl : ∀ i, i < kq → (∃ f, f < 3 ∧ S.1 13 i = nI f) ∧ ∃ t, t < 8 ∧ S.1 12 i = nI t) (hok : ∀ d, d < 40 → ∀ i, i < kq → scOK S (2 ^ d) i) : vs_M l b D aC false false y_X_lookAt (.code y_X_lookAt c_X_lookAt 7 (Option.none : Option Jvm.ClassFile.FieldType)) { frames := 4, cells := 0, slots := 0, locals := 114 } [.ref 0, .long (lN n)] (vs_mem (xS S h bl df)) (vs_ret none (vs_mem (xS S (lk (fun d => fnd S d kq) (fun d => scF S (2 ^ d) kq) M 4 n (h, df)).1 (bl + 1) (lk (fun d => fnd S d kq) (fun d => scF S (2 ^ d) kq) M 4 n (h, df)).2))) := by
  refine vs_M.of (by decide) (Nat.le_of_ble_eq_true rfl) ?_
  intro p e s m args below meth c C hmn hr hx htg
  generalize hQ : vs_E below args s b D aC false false (vs_ret none (vs_mem (xS S (lk (fun d => fnd S d kq) (fun d => scF S (2 ^ d) kq) M 4 n (h, df)).1 (bl + 1) (lk (fun d => fnd S d kq) (fun d => scF S (2 ^ d) kq) M 4 n (h, df)).2))) { frames := 4, cells := 0, slots := 0, locals := 114 } = Q
  refine vs_aload_n C rfl d_X_lookAt_0 ?_
  refine vs_dup C rfl d_X_lookAt_1 ?_
  refine vs_get C fl_X_55 d_X_lookAt_2 rfl rfl ?_
  refine vs_iconst (v := 1) C (by decide) d_X_lookAt_5 ?_
  refine vs_iadd C d_X_lookAt_6 ?_
  refine vs_put C fl_X_55 d_X_lookAt_7 rfl rfl rfl (Nat.le_of_ble_eq_true rfl) ?_
  refine vs_lload_n C rfl d_X_lookAt_10 ?_
  refine vs_lstore_n C d_X_lookAt_11 (by decide) ?_
  refine vs_iconst (v := 0) C (by decide) d_X_lookAt_12 ?_
  refine vs_istore C d_X_lookAt_13 (by decide) ?_
  refine vs_mem_eq (mem2 := vs_mem (xS S h (bl + 1) df)) rfl ?_
  refine look_l C S (lN n) kq M (bl + 1) hkq hkq6 hM hM1 hM8 hfl hok (lk (fun d => fnd S d kq) (fun d => scF S (2 ^ d) kq) M 4 n (h, df)) (fun lv => ?_) 4 0 n (h, df) none rfl hn hh rfl
  subst hQ
  exact vs_vret C hr d_X_lookAt_95 ⟨Nat.le_of_ble_eq_true rfl, Nat.le_of_ble_eq_true rfl⟩ (fun h => by cases h) (by first | exact (fun _ => rfl) | exact (fun h => by cases h)) (⟨rfl, rfl⟩)

