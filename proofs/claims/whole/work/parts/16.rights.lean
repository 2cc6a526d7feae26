theorem n_ge {i N : Nat} {x y : Int32} (h : x ≤ y) (hx : x = nI N) (hy : y = nI i) (hN : N < 2 ^ 31) (hi : i < 2 ^ 31) : N ≤ i := by
  subst hx; subst hy
  exact (nI_leI hN hi).mp h
theorem n_lt {i N : Nat} {x y : Int32} (h : ¬ x ≤ y) (hx : x = nI N) (hy : y = nI i) (hN : N < 2 ^ 31) (hi : i < 2 ^ 31) : i < N := by
  subst hx; subst hy
  rcases Nat.lt_or_ge i N with q | q
  · exact q
  · exact absurd ((nI_leI hN hi).mpr q) h
/-- the TOKENS, as the class adds them up -/
def tk_s (g : Nat → Int32) (i : Nat) (t : Int32) : Int32 := if ((t.toUInt32 >>> ((nI i).toUInt32 &&& Int32.toUInt32 31)).toInt32 &&& 1) = 0 then t else t ||| g i
def tk_i (g : Nat → Int32) : Nat → Int32 → Int32
  | 0, t => t
  | i + 1, t => tk_s g i (tk_i g i t)
def tk_o (g : Nat → Int32) : Nat → Int32 → Int32
  | 0, t => t
  | r + 1, t => tk_i g 16 (tk_o g r t)
section TokNow
variable {p : Program} {l : Launch} {e : Env} {R : Room} {s : State} {m : MethodId} {args : Array Value} {below : List Frame} {meth : Method} {c : Code} {b : Nat} {D : va_G} {aC : Nat → ClassId} {Q : State → Prop} {kc ks : Nat} {ck : Bool}
theorem tokNow_i (C : vs_X p s m args meth c b D aC "VeilSearch$Rights" c_R_tokensOf 5) (S : vs_S) (u r t0 : Int32) (K : vs_G p l e R s m args below meth c b D aC 5 Q kc ks ck (vs_mem S) 47 [some (.ref 20), some (.int u), some (.int (tk_i (S.1 21) 16 t0)), some (.int r), some (.int (nI 16))] []) : ∀ n i : Nat, i ≤ 16 → 16 - i < n → vs_G p l e R s m args below meth c b D aC 5 Q kc ks ck (vs_mem S) 15 [some (.ref 20), some (.int u), some (.int (tk_i (S.1 21) i t0)), some (.int r), some (.int (nI i))] [] := by
  intro n
  induction n with
  | zero => intro i _ h; omega
  | succ n ih =>
    intro i hi hn
    refine vs_iload C rfl d_R_tokensOf_15 ?_
    refine vs_bipush (v := 16) C (by decide) d_R_tokensOf_17 ?_
    refine vs_icmp_ge (tgt := 47) C d_R_tokensOf_19 (by decide) (fun h1 => ?_) (fun h1 => ?_)
    · have h2 := n_ge (N := 16) (i := i) h1 rfl rfl (by decide) (by omega)
      obtain rfl : i = 16 := by omega
      exact K
    · have hlt := n_lt (N := 16) (i := i) h1 rfl rfl (by decide) (by omega)
      refine vs_iload_n C rfl d_R_tokensOf_22 ?_
      refine vs_iload C rfl d_R_tokensOf_23 ?_
      refine vs_iushr C d_R_tokensOf_25 ?_
      refine vs_iconst (v := 1) C (by decide) d_R_tokensOf_26 ?_
      refine vs_iand C d_R_tokensOf_27 ?_
      refine vs_if_eq (tgt := 41) C d_R_tokensOf_28 (by decide) (fun h2 => ?_) (fun h2 => ?_)
      · refine vs_iinc C d_R_tokensOf_41 rfl (nI_1 i) (by decide) ?_
        refine vs_goto (tgt := 15) C d_R_tokensOf_44 (by decide) ?_
        have e : tk_i (S.1 21) (i + 1) t0 = tk_i (S.1 21) i t0 := if_pos h2
        have := ih (i + 1) (by omega) (by omega)
        rw [e] at this
        exact this
      · refine vs_iload_n C rfl d_R_tokensOf_31 ?_
        refine vs_aload_n C rfl d_R_tokensOf_32 ?_
        refine vs_get C fl_R_9 d_R_tokensOf_33 rfl rfl ?_
        refine vs_iload C rfl d_R_tokensOf_36 ?_
        refine vs_ialdN C d_R_tokensOf_38 rfl (rfl) (hlt) (by decide) ?_
        refine vs_ior C d_R_tokensOf_39 ?_
        refine vs_istore_n C d_R_tokensOf_40 (by decide) ?_
        refine vs_iinc C d_R_tokensOf_41 rfl (nI_1 i) (by decide) ?_
        refine vs_goto (tgt := 15) C d_R_tokensOf_44 (by decide) ?_
        have e : tk_i (S.1 21) (i + 1) t0 = tk_i (S.1 21) i t0 ||| S.1 21 i := if_neg h2
        have := ih (i + 1) (by omega) (by omega)
        rw [e] at this
        exact this
theorem tokNow_o (C : vs_X p s m args meth c b D aC "VeilSearch$Rights" c_R_tokensOf 5) (S : vs_S) (u t0 : Int32) (K : ∀ o, vs_G p l e R s m args below meth c b D aC 5 Q kc ks ck (vs_mem S) 53 [some (.ref 20), some (.int u), some (.int (tk_o (S.1 21) 8 t0)), some (.int (nI 8)), o] []) : ∀ n r : Nat, r ≤ 8 → 8 - r < n → ∀ o, vs_G p l e R s m args below meth c b D aC 5 Q kc ks ck (vs_mem S) 6 [some (.ref 20), some (.int u), some (.int (tk_o (S.1 21) r t0)), some (.int (nI r)), o] [] := by
  intro n
  induction n with
  | zero => intro r _ h; omega
  | succ n ih =>
    intro r hi hn o
    refine vs_iload_n C rfl d_R_tokensOf_6 ?_
    refine vs_bipush (v := 8) C (by decide) d_R_tokensOf_7 ?_
    refine vs_icmp_ge (tgt := 53) C d_R_tokensOf_9 (by decide) (fun h1 => ?_) (fun h1 => ?_)
    · have h2 := n_ge (N := 8) (i := r) h1 rfl rfl (by decide) (by omega)
      obtain rfl : r = 8 := by omega
      exact K o
    · have hlt := n_lt (N := 8) (i := r) h1 rfl rfl (by decide) (by omega)
      refine vs_iconst (v := 0) C (by decide) d_R_tokensOf_12 ?_
      refine vs_istore C d_R_tokensOf_13 (by decide) ?_
      refine tokNow_i C S u (nI r) (tk_o (S.1 21) r t0) ?_ 17 0 (by decide) (by decide)
      refine vs_iinc C d_R_tokensOf_47 rfl (nI_1 r) (by decide) ?_
      refine vs_goto (tgt := 6) C d_R_tokensOf_50 (by decide) ?_
      exact ih (r + 1) (by omega) (by omega) (some (.int (nI 16)))
end TokNow
set_option maxRecDepth 100000 in
set_option maxHeartbeats 4000000 in
theorem k_R_tokensOf_Now (l : Launch) (b : Nat) (D : va_G) (aC : Nat → ClassId) (S : vs_S) (u : Int32) : vs_M l b D aC false true y_R_tokensOf (.code y_R_tokensOf c_R_tokensOf 5 (Option.some Jvm.ClassFile.FieldType.int)) { frames := 0, cells := 0, slots := 0, locals := 0 } [.ref 20, .int u] (vs_mem S) (vs_ret (some (.int (tk_o (S.1 21) 8 (1 <<< (u &&& 31))))) (vs_mem S)) := by
  refine vs_M.of (by decide) (Nat.le_of_ble_eq_true rfl) ?_
  intro p e s m args below meth c C hmn hr hx htg
  generalize hQ : vs_E below args s b D aC false true (vs_ret (some (.int (tk_o (S.1 21) 8 (1 <<< (u &&& 31))))) (vs_mem S)) { frames := 0, cells := 0, slots := 0, locals := 0 } = Q
  refine vs_iconst (v := 1) C (by decide) d_R_tokensOf_0 ?_
  refine vs_iload_n C rfl d_R_tokensOf_1 ?_
  refine vs_ishl C d_R_tokensOf_2 ?_
  refine vs_istore_n C d_R_tokensOf_3 (by decide) ?_
  refine vs_iconst (v := 0) C (by decide) d_R_tokensOf_4 ?_
  refine vs_istore_n C d_R_tokensOf_5 (by decide) ?_
  refine tokNow_o C S u (1 <<< (u &&& 31)) (fun o => ?_) 9 0 (by decide) (by decide) none
  refine vs_iload_n C rfl d_R_tokensOf_53 ?_
  subst hQ
  exact vs_iret C hr d_R_tokensOf_54 ⟨Nat.le_of_ble_eq_true rfl, Nat.le_of_ble_eq_true rfl⟩ (fun h => by cases h) (by first | exact (fun _ => rfl) | exact (fun h => by cases h)) (⟨rfl, rfl⟩)
section TokSeen
variable {p : Program} {l : Launch} {e : Env} {R : Room} {s : State} {m : MethodId} {args : Array Value} {below : List Frame} {meth : Method} {c : Code} {b : Nat} {D : va_G} {aC : Nat → ClassId} {Q : State → Prop} {kc ks : Nat} {ck : Bool}
theorem tokSeen_i (C : vs_X p s m args meth c b D aC "VeilSearch$Rights" c_R_tokensOf 5) (S : vs_S) (u r t0 : Int32) (K : vs_G p l e R s m args below meth c b D aC 5 Q kc ks ck (vs_mem S) 47 [some (.ref 28), some (.int u), some (.int (tk_i (S.1 29) 16 t0)), some (.int r), some (.int (nI 16))] []) : ∀ n i : Nat, i ≤ 16 → 16 - i < n → vs_G p l e R s m args below meth c b D aC 5 Q kc ks ck (vs_mem S) 15 [some (.ref 28), some (.int u), some (.int (tk_i (S.1 29) i t0)), some (.int r), some (.int (nI i))] [] := by
  intro n
  induction n with
  | zero => intro i _ h; omega
  | succ n ih =>
    intro i hi hn
    refine vs_iload C rfl d_R_tokensOf_15 ?_
    refine vs_bipush (v := 16) C (by decide) d_R_tokensOf_17 ?_
    refine vs_icmp_ge (tgt := 47) C d_R_tokensOf_19 (by decide) (fun h1 => ?_) (fun h1 => ?_)
    · have h2 := n_ge (N := 16) (i := i) h1 rfl rfl (by decide) (by omega)
      obtain rfl : i = 16 := by omega
      exact K
    · have hlt := n_lt (N := 16) (i := i) h1 rfl rfl (by decide) (by omega)
      refine vs_iload_n C rfl d_R_tokensOf_22 ?_
      refine vs_iload C rfl d_R_tokensOf_23 ?_
      refine vs_iushr C d_R_tokensOf_25 ?_
      refine vs_iconst (v := 1) C (by decide) d_R_tokensOf_26 ?_
      refine vs_iand C d_R_tokensOf_27 ?_
      refine vs_if_eq (tgt := 41) C d_R_tokensOf_28 (by decide) (fun h2 => ?_) (fun h2 => ?_)
      · refine vs_iinc C d_R_tokensOf_41 rfl (nI_1 i) (by decide) ?_
        refine vs_goto (tgt := 15) C d_R_tokensOf_44 (by decide) ?_
        have e : tk_i (S.1 29) (i + 1) t0 = tk_i (S.1 29) i t0 := if_pos h2
        have := ih (i + 1) (by omega) (by omega)
        rw [e] at this
        exact this
      · refine vs_iload_n C rfl d_R_tokensOf_31 ?_
        refine vs_aload_n C rfl d_R_tokensOf_32 ?_
        refine vs_get C fl_R_9 d_R_tokensOf_33 rfl rfl ?_
        refine vs_iload C rfl d_R_tokensOf_36 ?_
        refine vs_ialdN C d_R_tokensOf_38 rfl (rfl) (hlt) (by decide) ?_
        refine vs_ior C d_R_tokensOf_39 ?_
        refine vs_istore_n C d_R_tokensOf_40 (by decide) ?_
        refine vs_iinc C d_R_tokensOf_41 rfl (nI_1 i) (by decide) ?_
        refine vs_goto (tgt := 15) C d_R_tokensOf_44 (by decide) ?_
        have e : tk_i (S.1 29) (i + 1) t0 = tk_i (S.1 29) i t0 ||| S.1 29 i := if_neg h2
        have := ih (i + 1) (by omega) (by omega)
        rw [e] at this
        exact this
theorem tokSeen_o (C : vs_X p s m args meth c b D aC "VeilSearch$Rights" c_R_tokensOf 5) (S : vs_S) (u t0 : Int32) (K : ∀ o, vs_G p l e R s m args below meth c b D aC 5 Q kc ks ck (vs_mem S) 53 [some (.ref 28), some (.int u), some (.int (tk_o (S.1 29) 8 t0)), some (.int (nI 8)), o] []) : ∀ n r : Nat, r ≤ 8 → 8 - r < n → ∀ o, vs_G p l e R s m args below meth c b D aC 5 Q kc ks ck (vs_mem S) 6 [some (.ref 28), some (.int u), some (.int (tk_o (S.1 29) r t0)), some (.int (nI r)), o] [] := by
  intro n
  induction n with
  | zero => intro r _ h; omega
  | succ n ih =>
    intro r hi hn o
    refine vs_iload_n C rfl d_R_tokensOf_6 ?_
    refine vs_bipush (v := 8) C (by decide) d_R_tokensOf_7 ?_
    refine vs_icmp_ge (tgt := 53) C d_R_tokensOf_9 (by decide) (fun h1 => ?_) (fun h1 => ?_)
    · have h2 := n_ge (N := 8) (i := r) h1 rfl rfl (by decide) (by omega)
      obtain rfl : r = 8 := by omega
      exact K o
    · have hlt := n_lt (N := 8) (i := r) h1 rfl rfl (by decide) (by omega)
      refine vs_iconst (v := 0) C (by decide) d_R_tokensOf_12 ?_
      refine vs_istore C d_R_tokensOf_13 (by decide) ?_
      refine tokSeen_i C S u (nI r) (tk_o (S.1 29) r t0) ?_ 17 0 (by decide) (by decide)
      refine vs_iinc C d_R_tokensOf_47 rfl (nI_1 r) (by decide) ?_
      refine vs_goto (tgt := 6) C d_R_tokensOf_50 (by decide) ?_
      exact ih (r + 1) (by omega) (by omega) (some (.int (nI 16)))
end TokSeen
set_option maxRecDepth 100000 in
set_option maxHeartbeats 4000000 in
theorem k_R_tokensOf_Seen (l : Launch) (b : Nat) (D : va_G) (aC : Nat → ClassId) (S : vs_S) (u : Int32) : vs_M l b D aC false true y_R_tokensOf (.code y_R_tokensOf c_R_tokensOf 5 (Option.some Jvm.ClassFile.FieldType.int)) { frames := 0, cells := 0, slots := 0, locals := 0 } [.ref 28, .int u] (vs_mem S) (vs_ret (some (.int (tk_o (S.1 29) 8 (1 <<< (u &&& 31))))) (vs_mem S)) := by
  refine vs_M.of (by decide) (Nat.le_of_ble_eq_true rfl) ?_
  intro p e s m args below meth c C hmn hr hx htg
  generalize hQ : vs_E below args s b D aC false true (vs_ret (some (.int (tk_o (S.1 29) 8 (1 <<< (u &&& 31))))) (vs_mem S)) { frames := 0, cells := 0, slots := 0, locals := 0 } = Q
  refine vs_iconst (v := 1) C (by decide) d_R_tokensOf_0 ?_
  refine vs_iload_n C rfl d_R_tokensOf_1 ?_
  refine vs_ishl C d_R_tokensOf_2 ?_
  refine vs_istore_n C d_R_tokensOf_3 (by decide) ?_
  refine vs_iconst (v := 0) C (by decide) d_R_tokensOf_4 ?_
  refine vs_istore_n C d_R_tokensOf_5 (by decide) ?_
  refine tokSeen_o C S u (1 <<< (u &&& 31)) (fun o => ?_) 9 0 (by decide) (by decide) none
  refine vs_iload_n C rfl d_R_tokensOf_53 ?_
  subst hQ
  exact vs_iret C hr d_R_tokensOf_54 ⟨Nat.le_of_ble_eq_true rfl, Nat.le_of_ble_eq_true rfl⟩ (fun h => by cases h) (by first | exact (fun _ => rfl) | exact (fun h => by cases h)) (⟨rfl, rfl⟩)
-- FIELD f is OPEN to USER u by THE SNAPSHOT of the class
set_option maxRecDepth 100000 in
set_option maxHeartbeats 4000000 in
theorem k_R_isOpen (l : Launch) (b : Nat) (D : va_G) (aC : Nat → ClassId) (S : vs_S) (f u : Nat) (hf : f < 3) (hu : u < 8) : vs_M l b D aC false true y_R_isOpen (.code y_R_isOpen c_R_isOpen 3 (Option.some Jvm.ClassFile.FieldType.boolean)) { frames := 0, cells := 0, slots := 0, locals := 0 } [.ref 28, .int (nI f), .int (nI u)] (vs_mem S) (vs_ret (some (.int (b01 (¬ S.1 31 u < S.1 30 f)))) (vs_mem S)) := by
  refine vs_M.of (by decide) (Nat.le_of_ble_eq_true rfl) ?_
  intro p e s m args below meth c C hmn hr hx htg
  generalize hQ : vs_E below args s b D aC false true (vs_ret (some (.int (b01 (¬ S.1 31 u < S.1 30 f)))) (vs_mem S)) { frames := 0, cells := 0, slots := 0, locals := 0 } = Q
  refine vs_aload_n C rfl d_R_isOpen_0 ?_
  refine vs_get C fl_R_18 d_R_isOpen_1 rfl rfl ?_
  refine vs_iload_n C rfl d_R_isOpen_4 ?_
  refine vs_ialdN C d_R_isOpen_5 rfl (rfl) (hu) (by decide) ?_
  refine vs_aload_n C rfl d_R_isOpen_6 ?_
  refine vs_get C fl_R_15 d_R_isOpen_7 rfl rfl ?_
  refine vs_iload_n C rfl d_R_isOpen_10 ?_
  refine vs_ialdN C d_R_isOpen_11 rfl (rfl) (hf) (by decide) ?_
  refine vs_icmp_lt (tgt := 19) C d_R_isOpen_12 (by decide) (fun h1 => ?_) (fun h1 => ?_)
  · refine vs_iconst (v := 0) C (by decide) d_R_isOpen_19 ?_
    subst hQ
    exact vs_zret C hr (by rfl) d_R_isOpen_20 ⟨Nat.le_of_ble_eq_true rfl, Nat.le_of_ble_eq_true rfl⟩ (fun h => by cases h) (by first | exact (fun _ => rfl) | exact (fun h => by cases h)) (vs_rti (show (0 : Int32) = b01 (¬ S.1 31 u < S.1 30 f) from (if_neg (fun h => h h1)).symm))
  · refine vs_iconst (v := 1) C (by decide) d_R_isOpen_15 ?_
    refine vs_goto (tgt := 20) C d_R_isOpen_16 (by decide) ?_
    subst hQ
    exact vs_zret C hr (by rfl) d_R_isOpen_20 ⟨Nat.le_of_ble_eq_true rfl, Nat.le_of_ble_eq_true rfl⟩ (fun h => by cases h) (by first | exact (fun _ => rfl) | exact (fun h => by cases h)) (vs_rti (show (1 : Int32) = b01 (¬ S.1 31 u < S.1 30 f) from (if_pos h1).symm))
def jn_v (b g on : Int32) : Int32 := if on = 0 then b &&& ((1 <<< (g &&& 31)) ^^^ (-1)) else b ||| (1 <<< (g &&& 31))
set_option maxRecDepth 100000 in
set_option maxHeartbeats 4000000 in
theorem k_R_join (l : Launch) (b : Nat) (D : va_G) (aC : Nat → ClassId) (S : vs_S) (t : Nat) (g on : Int32) (ht : t < 16) : vs_M l b D aC false false y_R_join (.code y_R_join c_R_join 5 (Option.some Jvm.ClassFile.FieldType.boolean)) { frames := 0, cells := 0, slots := 0, locals := 0 } [.ref 20, .int (nI t), .int g, .int on] (vs_mem S) (vs_ret (some (.int (b01 (¬ jn_v (S.1 21 t) g on = S.1 21 t)))) (vs_mem (vs_uI S 21 (upd (S.1 21) t (jn_v (S.1 21 t) g on))))) := by
  refine vs_M.of (by decide) (Nat.le_of_ble_eq_true rfl) ?_
  intro p e s m args below meth c C hmn hr hx htg
  generalize hQ : vs_E below args s b D aC false false (vs_ret (some (.int (b01 (¬ jn_v (S.1 21 t) g on = S.1 21 t)))) (vs_mem (vs_uI S 21 (upd (S.1 21) t (jn_v (S.1 21 t) g on))))) { frames := 0, cells := 0, slots := 0, locals := 0 } = Q
  refine vs_aload_n C rfl d_R_join_0 ?_
  refine vs_get C fl_R_9 d_R_join_1 rfl rfl ?_
  refine vs_iload_n C rfl d_R_join_4 ?_
  refine vs_ialdN C d_R_join_5 rfl (rfl) (ht) (by decide) ?_
  refine vs_istore C d_R_join_6 (by decide) ?_
  refine vs_aload_n C rfl d_R_join_8 ?_
  refine vs_get C fl_R_9 d_R_join_9 rfl rfl ?_
  refine vs_iload_n C rfl d_R_join_12 ?_
  refine vs_iload_n C rfl d_R_join_13 ?_
  have hend : ∀ v : Int32, v = jn_v (S.1 21 t) g on → vs_G p l e { frames := 0, cells := 0, slots := 0, locals := 0 } s m args below meth c b D aC 5 Q 0 0 true (vs_mem S) 34 [some (.ref 20), some (.int (nI t)), some (.int g), some (.int on), some (.int (S.1 21 t))] [.int v, .int (nI t), .ref 21] := by
    intro v hv
    subst hv
    refine vs_iastN C d_R_join_34 rfl (rfl) (ht) (by decide) ?_
    refine vs_aload_n C rfl d_R_join_35 ?_
    refine vs_get C fl_R_9 d_R_join_36 rfl rfl ?_
    refine vs_iload_n C rfl d_R_join_39 ?_
    refine vs_ialdN C d_R_join_40 rfl (rfl) (ht) (by decide) ?_
    refine vs_iload C rfl d_R_join_41 ?_
    have e : upd (S.1 21) t (jn_v (S.1 21 t) g on) t = jn_v (S.1 21 t) g on := by simp [upd]
    rw [e]
    refine vs_icmp_eq (tgt := 50) C d_R_join_43 (by decide) (fun h1 => ?_) (fun h1 => ?_)
    · refine vs_iconst (v := 0) C (by decide) d_R_join_50 ?_
      subst hQ
      exact vs_zret C hr (by rfl) d_R_join_51 ⟨Nat.le_of_ble_eq_true rfl, Nat.le_of_ble_eq_true rfl⟩ (fun h => by cases h) (by first | exact (fun _ => rfl) | exact (fun h => by cases h)) (vs_rti (show (0 : Int32) = b01 (¬ jn_v (S.1 21 t) g on = S.1 21 t) from (if_neg (fun h => h h1)).symm))
    · refine vs_iconst (v := 1) C (by decide) d_R_join_46 ?_
      refine vs_goto (tgt := 51) C d_R_join_47 (by decide) ?_
      subst hQ
      exact vs_zret C hr (by rfl) d_R_join_51 ⟨Nat.le_of_ble_eq_true rfl, Nat.le_of_ble_eq_true rfl⟩ (fun h => by cases h) (by first | exact (fun _ => rfl) | exact (fun h => by cases h)) (vs_rti (show (1 : Int32) = b01 (¬ jn_v (S.1 21 t) g on = S.1 21 t) from (if_pos h1).symm))
  refine vs_if_eq (tgt := 26) C d_R_join_14 (by decide) (fun h1 => ?_) (fun h1 => ?_)
  · refine vs_iload C rfl d_R_join_26 ?_
    refine vs_iconst (v := 1) C (by decide) d_R_join_28 ?_
    refine vs_iload_n C rfl d_R_join_29 ?_
    refine vs_ishl C d_R_join_30 ?_
    refine vs_iconst (v := (-1)) C (by decide) d_R_join_31 ?_
    refine vs_ixor C d_R_join_32 ?_
    refine vs_iand C d_R_join_33 ?_
    exact hend _ (if_pos h1).symm
  · refine vs_iload C rfl d_R_join_17 ?_
    refine vs_iconst (v := 1) C (by decide) d_R_join_19 ?_
    refine vs_iload_n C rfl d_R_join_20 ?_
    refine vs_ishl C d_R_join_21 ?_
    refine vs_ior C d_R_join_22 ?_
    refine vs_goto (tgt := 34) C d_R_join_23 (by decide) ?_
    exact hend _ (if_neg h1).symm
/-- two rows are the same up to n -/
def eqR (f g : Nat → Int32) : Nat → Bool
  | 0 => true
  | n + 1 => eqR f g n && decide (f n = g n)
theorem eqR_iff {f g : Nat → Int32} : ∀ {n : Nat}, eqR f g n = true ↔ ∀ i, i < n → f i = g i
  | 0 => ⟨fun _ i h => by omega, fun _ => rfl⟩
  | n + 1 => by
    simp only [eqR, Bool.and_eq_true, decide_eq_true_eq, eqR_iff (n := n)]
    constructor
    · rintro ⟨h1, h2⟩ i hi
      rcases Nat.lt_or_ge i n with h | h
      · exact h1 i h
      · have : i = n := by omega
        subst this
        exact h2
    · intro h
      exact ⟨fun i hi => h i (by omega), h n (by omega)⟩
section SameRow
variable {p : Program} {l : Launch} {e : Env} {R : Room} {s : State} {m : MethodId} {args : Array Value} {below : List Frame} {meth : Method} {c : Code} {b : Nat} {D : va_G} {aC : Nat → ClassId} {Q : State → Prop} {kc ks : Nat} {ck : Bool}
theorem same21 (C : vs_X p s m args meth c b D aC "VeilSearch$Rights" c_R_sameRow 3) (S : vs_S) (K0 : ∀ i : Nat, eqR (S.1 21) (S.1 29) 16 = false → vs_G p l e R s m args below meth c b D aC 3 Q kc ks ck (vs_mem S) 24 [some (.ref 21), some (.ref 29), some (.int (nI i))] [.int 0]) (K1 : eqR (S.1 21) (S.1 29) 16 = true → vs_G p l e R s m args below meth c b D aC 3 Q kc ks ck (vs_mem S) 31 [some (.ref 21), some (.ref 29), some (.int (nI 16))] []) : ∀ n i : Nat, i ≤ 16 → 16 - i < n → eqR (S.1 21) (S.1 29) i = true → vs_G p l e R s m args below meth c b D aC 3 Q kc ks ck (vs_mem S) 2 [some (.ref 21), some (.ref 29), some (.int (nI i))] [] := by
  intro n
  induction n with
  | zero => intro i _ h; omega
  | succ n ih =>
    intro i hi hn he
    refine vs_iload_n C rfl d_R_sameRow_2 ?_
    refine vs_aload_n C rfl d_R_sameRow_3 ?_
    refine vs_alen C rfl rfl d_R_sameRow_4 rfl ?_
    refine vs_icmp_ge (tgt := 31) C d_R_sameRow_5 (by decide) (fun h1 => ?_) (fun h1 => ?_)
    · have h2 := n_ge (N := 16) (i := i) h1 rfl rfl (by decide) (by omega)
      obtain rfl : i = 16 := by omega
      exact K1 he
    · have hlt := n_lt (N := 16) (i := i) h1 rfl rfl (by decide) (by omega)
      refine vs_iload_n C rfl d_R_sameRow_8 ?_
      refine vs_aload_n C rfl d_R_sameRow_9 ?_
      refine vs_alen C rfl rfl d_R_sameRow_10 rfl ?_
      refine vs_icmp_ge (tgt := 31) C d_R_sameRow_11 (by decide) (fun h2 => ?_) (fun h2 => ?_)
      · exact absurd h2 h1
      · refine vs_aload_n C rfl d_R_sameRow_14 ?_
        refine vs_iload_n C rfl d_R_sameRow_15 ?_
        refine vs_ialdN C d_R_sameRow_16 rfl (rfl) (hlt) (by decide) ?_
        refine vs_aload_n C rfl d_R_sameRow_17 ?_
        refine vs_iload_n C rfl d_R_sameRow_18 ?_
        refine vs_ialdN C d_R_sameRow_19 rfl (rfl) (hlt) (by decide) ?_
        refine vs_icmp_eq (tgt := 25) C d_R_sameRow_20 (by decide) (fun h3 => ?_) (fun h3 => ?_)
        · refine vs_iinc C d_R_sameRow_25 rfl (nI_1 i) (by decide) ?_
          refine vs_goto (tgt := 2) C d_R_sameRow_28 (by decide) ?_
          exact ih (i + 1) (by omega) (by omega) (by simp [eqR, he, h3])
        · refine vs_iconst (v := 0) C (by decide) d_R_sameRow_23 ?_
          refine K0 i ?_
          cases hq : eqR (S.1 21) (S.1 29) 16 with
          | false => rfl
          | true => exact absurd (eqR_iff.mp hq i hlt) h3
theorem same22 (C : vs_X p s m args meth c b D aC "VeilSearch$Rights" c_R_sameRow 3) (S : vs_S) (K0 : ∀ i : Nat, eqR (S.1 22) (S.1 30) 3 = false → vs_G p l e R s m args below meth c b D aC 3 Q kc ks ck (vs_mem S) 24 [some (.ref 22), some (.ref 30), some (.int (nI i))] [.int 0]) (K1 : eqR (S.1 22) (S.1 30) 3 = true → vs_G p l e R s m args below meth c b D aC 3 Q kc ks ck (vs_mem S) 31 [some (.ref 22), some (.ref 30), some (.int (nI 3))] []) : ∀ n i : Nat, i ≤ 3 → 3 - i < n → eqR (S.1 22) (S.1 30) i = true → vs_G p l e R s m args below meth c b D aC 3 Q kc ks ck (vs_mem S) 2 [some (.ref 22), some (.ref 30), some (.int (nI i))] [] := by
  intro n
  induction n with
  | zero => intro i _ h; omega
  | succ n ih =>
    intro i hi hn he
    refine vs_iload_n C rfl d_R_sameRow_2 ?_
    refine vs_aload_n C rfl d_R_sameRow_3 ?_
    refine vs_alen C rfl rfl d_R_sameRow_4 rfl ?_
    refine vs_icmp_ge (tgt := 31) C d_R_sameRow_5 (by decide) (fun h1 => ?_) (fun h1 => ?_)
    · have h2 := n_ge (N := 3) (i := i) h1 rfl rfl (by decide) (by omega)
      obtain rfl : i = 3 := by omega
      exact K1 he
    · have hlt := n_lt (N := 3) (i := i) h1 rfl rfl (by decide) (by omega)
      refine vs_iload_n C rfl d_R_sameRow_8 ?_
      refine vs_aload_n C rfl d_R_sameRow_9 ?_
      refine vs_alen C rfl rfl d_R_sameRow_10 rfl ?_
      refine vs_icmp_ge (tgt := 31) C d_R_sameRow_11 (by decide) (fun h2 => ?_) (fun h2 => ?_)
      · exact absurd h2 h1
      · refine vs_aload_n C rfl d_R_sameRow_14 ?_
        refine vs_iload_n C rfl d_R_sameRow_15 ?_
        refine vs_ialdN C d_R_sameRow_16 rfl (rfl) (hlt) (by decide) ?_
        refine vs_aload_n C rfl d_R_sameRow_17 ?_
        refine vs_iload_n C rfl d_R_sameRow_18 ?_
        refine vs_ialdN C d_R_sameRow_19 rfl (rfl) (hlt) (by decide) ?_
        refine vs_icmp_eq (tgt := 25) C d_R_sameRow_20 (by decide) (fun h3 => ?_) (fun h3 => ?_)
        · refine vs_iinc C d_R_sameRow_25 rfl (nI_1 i) (by decide) ?_
          refine vs_goto (tgt := 2) C d_R_sameRow_28 (by decide) ?_
          exact ih (i + 1) (by omega) (by omega) (by simp [eqR, he, h3])
        · refine vs_iconst (v := 0) C (by decide) d_R_sameRow_23 ?_
          refine K0 i ?_
          cases hq : eqR (S.1 22) (S.1 30) 3 with
          | false => rfl
          | true => exact absurd (eqR_iff.mp hq i hlt) h3
theorem same23 (C : vs_X p s m args meth c b D aC "VeilSearch$Rights" c_R_sameRow 3) (S : vs_S) (K0 : ∀ i : Nat, eqR (S.1 23) (S.1 31) 8 = false → vs_G p l e R s m args below meth c b D aC 3 Q kc ks ck (vs_mem S) 24 [some (.ref 23), some (.ref 31), some (.int (nI i))] [.int 0]) (K1 : eqR (S.1 23) (S.1 31) 8 = true → vs_G p l e R s m args below meth c b D aC 3 Q kc ks ck (vs_mem S) 31 [some (.ref 23), some (.ref 31), some (.int (nI 8))] []) : ∀ n i : Nat, i ≤ 8 → 8 - i < n → eqR (S.1 23) (S.1 31) i = true → vs_G p l e R s m args below meth c b D aC 3 Q kc ks ck (vs_mem S) 2 [some (.ref 23), some (.ref 31), some (.int (nI i))] [] := by
  intro n
  induction n with
  | zero => intro i _ h; omega
  | succ n ih =>
    intro i hi hn he
    refine vs_iload_n C rfl d_R_sameRow_2 ?_
    refine vs_aload_n C rfl d_R_sameRow_3 ?_
    refine vs_alen C rfl rfl d_R_sameRow_4 rfl ?_
    refine vs_icmp_ge (tgt := 31) C d_R_sameRow_5 (by decide) (fun h1 => ?_) (fun h1 => ?_)
    · have h2 := n_ge (N := 8) (i := i) h1 rfl rfl (by decide) (by omega)
      obtain rfl : i = 8 := by omega
      exact K1 he
    · have hlt := n_lt (N := 8) (i := i) h1 rfl rfl (by decide) (by omega)
      refine vs_iload_n C rfl d_R_sameRow_8 ?_
      refine vs_aload_n C rfl d_R_sameRow_9 ?_
      refine vs_alen C rfl rfl d_R_sameRow_10 rfl ?_
      refine vs_icmp_ge (tgt := 31) C d_R_sameRow_11 (by decide) (fun h2 => ?_) (fun h2 => ?_)
      · exact absurd h2 h1
      · refine vs_aload_n C rfl d_R_sameRow_14 ?_
        refine vs_iload_n C rfl d_R_sameRow_15 ?_
        refine vs_ialdN C d_R_sameRow_16 rfl (rfl) (hlt) (by decide) ?_
        refine vs_aload_n C rfl d_R_sameRow_17 ?_
        refine vs_iload_n C rfl d_R_sameRow_18 ?_
        refine vs_ialdN C d_R_sameRow_19 rfl (rfl) (hlt) (by decide) ?_
        refine vs_icmp_eq (tgt := 25) C d_R_sameRow_20 (by decide) (fun h3 => ?_) (fun h3 => ?_)
        · refine vs_iinc C d_R_sameRow_25 rfl (nI_1 i) (by decide) ?_
          refine vs_goto (tgt := 2) C d_R_sameRow_28 (by decide) ?_
          exact ih (i + 1) (by omega) (by omega) (by simp [eqR, he, h3])
        · refine vs_iconst (v := 0) C (by decide) d_R_sameRow_23 ?_
          refine K0 i ?_
          cases hq : eqR (S.1 23) (S.1 31) 8 with
          | false => rfl
          | true => exact absurd (eqR_iff.mp hq i hlt) h3
end SameRow
set_option maxRecDepth 100000 in
set_option maxHeartbeats 4000000 in
theorem k_R_sameRow21 (l : Launch) (b : Nat) (D : va_G) (aC : Nat → ClassId) (S : vs_S)  : vs_M l b D aC false true y_R_sameRow (.code y_R_sameRow c_R_sameRow 3 (Option.some Jvm.ClassFile.FieldType.boolean)) { frames := 0, cells := 0, slots := 0, locals := 0 } [.ref 21, .ref 29] (vs_mem S) (vs_ret (some (.int (b01 (eqR (S.1 21) (S.1 29) 16 = true)))) (vs_mem S)) := by
  refine vs_M.of (by decide) (Nat.le_of_ble_eq_true rfl) ?_
  intro p e s m args below meth c C hmn hr hx htg
  generalize hQ : vs_E below args s b D aC false true (vs_ret (some (.int (b01 (eqR (S.1 21) (S.1 29) 16 = true)))) (vs_mem S)) { frames := 0, cells := 0, slots := 0, locals := 0 } = Q
  refine vs_iconst (v := 0) C (by decide) d_R_sameRow_0 ?_
  refine vs_istore_n C d_R_sameRow_1 (by decide) ?_
  refine same21 C S (fun i h => ?_) (fun h => ?_) (16 + 1) 0 (by decide) (by decide) rfl
  · subst hQ
    exact vs_zret C hr (by rfl) d_R_sameRow_24 ⟨Nat.le_of_ble_eq_true rfl, Nat.le_of_ble_eq_true rfl⟩ (fun h => by cases h) (by first | exact (fun _ => rfl) | exact (fun h => by cases h)) (vs_rti (show (0 : Int32) = b01 (eqR (S.1 21) (S.1 29) 16 = true) from (if_neg (by rw [h]; decide)).symm))
  · refine vs_iconst (v := 1) C (by decide) d_R_sameRow_31 ?_
    subst hQ
    exact vs_zret C hr (by rfl) d_R_sameRow_32 ⟨Nat.le_of_ble_eq_true rfl, Nat.le_of_ble_eq_true rfl⟩ (fun h => by cases h) (by first | exact (fun _ => rfl) | exact (fun h => by cases h)) (vs_rti (show (1 : Int32) = b01 (eqR (S.1 21) (S.1 29) 16 = true) from (if_pos h).symm))
set_option maxRecDepth 100000 in
set_option maxHeartbeats 4000000 in
theorem k_R_sameRow22 (l : Launch) (b : Nat) (D : va_G) (aC : Nat → ClassId) (S : vs_S)  : vs_M l b D aC false true y_R_sameRow (.code y_R_sameRow c_R_sameRow 3 (Option.some Jvm.ClassFile.FieldType.boolean)) { frames := 0, cells := 0, slots := 0, locals := 0 } [.ref 22, .ref 30] (vs_mem S) (vs_ret (some (.int (b01 (eqR (S.1 22) (S.1 30) 3 = true)))) (vs_mem S)) := by
  refine vs_M.of (by decide) (Nat.le_of_ble_eq_true rfl) ?_
  intro p e s m args below meth c C hmn hr hx htg
  generalize hQ : vs_E below args s b D aC false true (vs_ret (some (.int (b01 (eqR (S.1 22) (S.1 30) 3 = true)))) (vs_mem S)) { frames := 0, cells := 0, slots := 0, locals := 0 } = Q
  refine vs_iconst (v := 0) C (by decide) d_R_sameRow_0 ?_
  refine vs_istore_n C d_R_sameRow_1 (by decide) ?_
  refine same22 C S (fun i h => ?_) (fun h => ?_) (3 + 1) 0 (by decide) (by decide) rfl
  · subst hQ
    exact vs_zret C hr (by rfl) d_R_sameRow_24 ⟨Nat.le_of_ble_eq_true rfl, Nat.le_of_ble_eq_true rfl⟩ (fun h => by cases h) (by first | exact (fun _ => rfl) | exact (fun h => by cases h)) (vs_rti (show (0 : Int32) = b01 (eqR (S.1 22) (S.1 30) 3 = true) from (if_neg (by rw [h]; decide)).symm))
  · refine vs_iconst (v := 1) C (by decide) d_R_sameRow_31 ?_
    subst hQ
    exact vs_zret C hr (by rfl) d_R_sameRow_32 ⟨Nat.le_of_ble_eq_true rfl, Nat.le_of_ble_eq_true rfl⟩ (fun h => by cases h) (by first | exact (fun _ => rfl) | exact (fun h => by cases h)) (vs_rti (show (1 : Int32) = b01 (eqR (S.1 22) (S.1 30) 3 = true) from (if_pos h).symm))
set_option maxRecDepth 100000 in
set_option maxHeartbeats 4000000 in
theorem k_R_sameRow23 (l : Launch) (b : Nat) (D : va_G) (aC : Nat → ClassId) (S : vs_S)  : vs_M l b D aC false true y_R_sameRow (.code y_R_sameRow c_R_sameRow 3 (Option.some Jvm.ClassFile.FieldType.boolean)) { frames := 0, cells := 0, slots := 0, locals := 0 } [.ref 23, .ref 31] (vs_mem S) (vs_ret (some (.int (b01 (eqR (S.1 23) (S.1 31) 8 = true)))) (vs_mem S)) := by
  refine vs_M.of (by decide) (Nat.le_of_ble_eq_true rfl) ?_
  intro p e s m args below meth c C hmn hr hx htg
  generalize hQ : vs_E below args s b D aC false true (vs_ret (some (.int (b01 (eqR (S.1 23) (S.1 31) 8 = true)))) (vs_mem S)) { frames := 0, cells := 0, slots := 0, locals := 0 } = Q
  refine vs_iconst (v := 0) C (by decide) d_R_sameRow_0 ?_
  refine vs_istore_n C d_R_sameRow_1 (by decide) ?_
  refine same23 C S (fun i h => ?_) (fun h => ?_) (8 + 1) 0 (by decide) (by decide) rfl
  · subst hQ
    exact vs_zret C hr (by rfl) d_R_sameRow_24 ⟨Nat.le_of_ble_eq_true rfl, Nat.le_of_ble_eq_true rfl⟩ (fun h => by cases h) (by first | exact (fun _ => rfl) | exact (fun h => by cases h)) (vs_rti (show (0 : Int32) = b01 (eqR (S.1 23) (S.1 31) 8 = true) from (if_neg (by rw [h]; decide)).symm))
  · refine vs_iconst (v := 1) C (by decide) d_R_sameRow_31 ?_
    subst hQ
    exact vs_zret C hr (by rfl) d_R_sameRow_32 ⟨Nat.le_of_ble_eq_true rfl, Nat.le_of_ble_eq_true rfl⟩ (fun h => by cases h) (by first | exact (fun _ => rfl) | exact (fun h => by cases h)) (vs_rti (show (1 : Int32) = b01 (eqR (S.1 23) (S.1 31) 8 = true) from (if_pos h).symm))
def sameX (S : vs_S) : Bool := eqR (S.1 21) (S.1 29) 16 && (eqR (S.1 22) (S.1 30) 3 && eqR (S.1 23) (S.1 31) 8)
set_option maxRecDepth 100000 in
set_option maxHeartbeats 4000000 in
theorem k_R_sameAs (l : Launch) (b : Nat) (D : va_G) (aC : Nat → ClassId) (S : vs_S)  : vs_M l b D aC false true y_R_sameAs (.code y_R_sameAs c_R_sameAs 2 (Option.some Jvm.ClassFile.FieldType.boolean)) { frames := 1, cells := 0, slots := 0, locals := 22 } [.ref 20, .ref 28] (vs_mem S) (vs_ret (some (.int (b01 (sameX S = true)))) (vs_mem S)) := by
  refine vs_M.of (by decide) (Nat.le_of_ble_eq_true rfl) ?_
  intro p e s m args below meth c C hmn hr hx htg
  generalize hQ : vs_E below args s b D aC false true (vs_ret (some (.int (b01 (sameX S = true)))) (vs_mem S)) { frames := 1, cells := 0, slots := 0, locals := 22 } = Q
  refine vs_aload_n C rfl d_R_sameAs_0 ?_
  refine vs_get C fl_R_9 d_R_sameAs_1 rfl rfl ?_
  refine vs_aload_n C rfl d_R_sameAs_4 ?_
  refine vs_get C fl_R_9 d_R_sameAs_5 rfl rfl ?_
  refine vs_cS C (k_R_sameRow21 l b D aC S) yk_R_sameRow ml_R_21 st_R_sameRow d_R_sameAs_8 rfl rfl (by exact Nat.le_of_ble_eq_true rfl) (by exact ⟨Nat.le_of_ble_eq_true rfl, Nat.le_of_ble_eq_true rfl⟩) (by exact ⟨Nat.le_of_ble_eq_true rfl, Nat.le_of_ble_eq_true rfl⟩) (fun h => by cases h) ?_
  refine vs_if_eq (tgt := 46) C d_R_sameAs_11 (by decide) (fun h1 => ?_) (fun h1 => ?_)
  · refine vs_iconst (v := 0) C (by decide) d_R_sameAs_46 ?_
    subst hQ
    exact vs_zret C hr (by rfl) d_R_sameAs_47 ⟨Nat.le_of_ble_eq_true rfl, Nat.le_of_ble_eq_true rfl⟩ (fun h => by cases h) (by first | exact (fun _ => rfl) | exact (fun h => by cases h)) (vs_rti (b01_f (c := sameX S = true) (fun h => by simp only [sameX, Bool.and_eq_true] at h; exact absurd h.1 (b01_0.mp h1))).symm)
  · refine vs_aload_n C rfl d_R_sameAs_14 ?_
    refine vs_get C fl_R_15 d_R_sameAs_15 rfl rfl ?_
    refine vs_aload_n C rfl d_R_sameAs_18 ?_
    refine vs_get C fl_R_15 d_R_sameAs_19 rfl rfl ?_
    refine vs_cS C (k_R_sameRow22 l b D aC S) yk_R_sameRow ml_R_21 st_R_sameRow d_R_sameAs_22 rfl rfl (by exact Nat.le_of_ble_eq_true rfl) (by exact ⟨Nat.le_of_ble_eq_true rfl, Nat.le_of_ble_eq_true rfl⟩) (by exact ⟨Nat.le_of_ble_eq_true rfl, Nat.le_of_ble_eq_true rfl⟩) (fun h => by cases h) ?_
    refine vs_if_eq (tgt := 46) C d_R_sameAs_25 (by decide) (fun h2 => ?_) (fun h2 => ?_)
    · refine vs_iconst (v := 0) C (by decide) d_R_sameAs_46 ?_
      subst hQ
      exact vs_zret C hr (by rfl) d_R_sameAs_47 ⟨Nat.le_of_ble_eq_true rfl, Nat.le_of_ble_eq_true rfl⟩ (fun h => by cases h) (by first | exact (fun _ => rfl) | exact (fun h => by cases h)) (vs_rti (b01_f (c := sameX S = true) (fun h => by simp only [sameX, Bool.and_eq_true] at h; exact absurd h.2.1 (b01_0.mp h2))).symm)
    · refine vs_aload_n C rfl d_R_sameAs_28 ?_
      refine vs_get C fl_R_18 d_R_sameAs_29 rfl rfl ?_
      refine vs_aload_n C rfl d_R_sameAs_32 ?_
      refine vs_get C fl_R_18 d_R_sameAs_33 rfl rfl ?_
      refine vs_cS C (k_R_sameRow23 l b D aC S) yk_R_sameRow ml_R_21 st_R_sameRow d_R_sameAs_36 rfl rfl (by exact Nat.le_of_ble_eq_true rfl) (by exact ⟨Nat.le_of_ble_eq_true rfl, Nat.le_of_ble_eq_true rfl⟩) (by exact ⟨Nat.le_of_ble_eq_true rfl, Nat.le_of_ble_eq_true rfl⟩) (fun h => by cases h) ?_
      refine vs_if_eq (tgt := 46) C d_R_sameAs_39 (by decide) (fun h3 => ?_) (fun h3 => ?_)
      · refine vs_iconst (v := 0) C (by decide) d_R_sameAs_46 ?_
        subst hQ
        exact vs_zret C hr (by rfl) d_R_sameAs_47 ⟨Nat.le_of_ble_eq_true rfl, Nat.le_of_ble_eq_true rfl⟩ (fun h => by cases h) (by first | exact (fun _ => rfl) | exact (fun h => by cases h)) (vs_rti (b01_f (c := sameX S = true) (fun h => by simp only [sameX, Bool.and_eq_true] at h; exact absurd h.2.2 (b01_0.mp h3))).symm)
      · refine vs_iconst (v := 1) C (by decide) d_R_sameAs_42 ?_
        refine vs_goto (tgt := 47) C d_R_sameAs_43 (by decide) ?_
        subst hQ
        exact vs_zret C hr (by rfl) d_R_sameAs_47 ⟨Nat.le_of_ble_eq_true rfl, Nat.le_of_ble_eq_true rfl⟩ (fun h => by cases h) (by first | exact (fun _ => rfl) | exact (fun h => by cases h)) (vs_rti (b01_t (c := sameX S = true) (by simp only [sameX, Bool.and_eq_true]; exact ⟨Decidable.not_not.mp (fun h => h1 (b01_f h)), Decidable.not_not.mp (fun h => h2 (b01_f h)), Decidable.not_not.mp (fun h => h3 (b01_f h))⟩)).symm)

