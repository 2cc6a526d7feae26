/-- the TOKENS, as the class adds them up -/
def tk_s (g : Nat → Int32) (i : Nat) (t : Int32) : Int32 := if ((t.toUInt32 >>> ((nI i).toUInt32 &&& Int32.toUInt32 31)).toInt32 &&& 1) = 0 then t else t ||| g i
def tk_i (g : Nat → Int32) : Nat → Int32 → Int32
  | 0, t => t
  | i + 1, t => tk_s g i (tk_i g i t)
def tk_o (g : Nat → Int32) : Nat → Int32 → Int32
  | 0, t => t
  | r + 1, t => tk_i g 16 (tk_o g r t)
section TokNow
variable {p : Program} {l : Launch} {e : Env} {R : Room} {s : State} {m : MethodId} {args : Array Value} {below : List Frame} {meth : Method} {c : Code} {b : Nat} {D : va_G} {aC : Nat → ClassId} {Q : State → Prop} {kc ks : Nat} {ck : Bool}
theorem tokNow_i (C : vs_X p s m args meth c b D aC "VeilSearch$Rights" c_R_tokensOf 5) (S : vs_S) (u r t0 : Int32) (K : vs_G p l e R s m args below meth c b D aC 5 Q kc ks ck (vs_mem S) 47 [some (.ref 20), some (.int u), some (.int (tk_i (S.1 21) 16 t0)), some (.int r), some (.int (nI 16))] []) : ∀ n i : Nat, i ≤ 16 → 16 - i < n → vs_G p l e R s m args below meth c b D aC 5 Q kc ks ck (vs_mem S) 15 [some (.ref 20), some (.int u), some (.int (tk_i (S.1 21) i t0)), some (.int r), some (.int (nI i))] [] := by
  intro n
  induction n with
  | zero => intro i _ h; omega
  | succ n ih =>
    intro i hi hn
    refine vs_iload C rfl d_R_tokensOf_15 ?_
    refine vs_bipush (v := 16) C (by decide) d_R_tokensOf_17 ?_
    refine vs_icmp_ge (tgt := 47) C d_R_tokensOf_19 (by decide) (fun h1 => ?_) (fun h1 => ?_)
    · have : i = 16 := by
        have := (nI_leI (a := 16) (b := i) (by decide) (by omega)).mp h1
        omega
      subst this
      exact K
    · have hlt : i < 16 := by
        rcases Nat.lt_or_ge i 16 with h | h
        · exact h
        · exact absurd (nI_le h (by omega)) h1
      refine vs_iload_n C rfl d_R_tokensOf_22 ?_
      refine vs_iload C rfl d_R_tokensOf_23 ?_
      refine vs_iushr C d_R_tokensOf_25 ?_
      refine vs_iconst (v := 1) C (by decide) d_R_tokensOf_26 ?_
      refine vs_iand C d_R_tokensOf_27 ?_
      refine vs_if_eq (tgt := 41) C d_R_tokensOf_28 (by decide) (fun h2 => ?_) (fun h2 => ?_)
      · refine vs_iinc C d_R_tokensOf_41 rfl (nI_1 i) (by decide) ?_
        refine vs_goto (tgt := 15) C d_R_tokensOf_44 (by decide) ?_
        have e : tk_i (S.1 21) (i + 1) t0 = tk_i (S.1 21) i t0 := if_pos h2
        have := ih (i + 1) (by omega) (by omega)
        rw [e] at this
        exact this
      · refine vs_iload_n C rfl d_R_tokensOf_31 ?_
        refine vs_aload_n C rfl d_R_tokensOf_32 ?_
        refine vs_get C fl_R_9 d_R_tokensOf_33 rfl rfl ?_
        refine vs_iload C rfl d_R_tokensOf_36 ?_
        refine vs_ialdN C d_R_tokensOf_38 rfl (rfl) (hlt) (by decide) ?_
        refine vs_ior C d_R_tokensOf_39 ?_
        refine vs_istore_n C d_R_tokensOf_40 (by decide) ?_
        refine vs_iinc C d_R_tokensOf_41 rfl (nI_1 i) (by decide) ?_
        refine vs_goto (tgt := 15) C d_R_tokensOf_44 (by decide) ?_
        have e : tk_i (S.1 21) (i + 1) t0 = tk_i (S.1 21) i t0 ||| S.1 21 i := if_neg h2
        have := ih (i + 1) (by omega) (by omega)
        rw [e] at this
        exact this
theorem tokNow_o (C : vs_X p s m args meth c b D aC "VeilSearch$Rights" c_R_tokensOf 5) (S : vs_S) (u t0 i0 : Int32) (K : ∀ i1, vs_G p l e R s m args below meth c b D aC 5 Q kc ks ck (vs_mem S) 53 [some (.ref 20), some (.int u), some (.int (tk_o (S.1 21) 8 t0)), some (.int (nI 8)), some (.int i1)] []) : ∀ n r : Nat, r ≤ 8 → 8 - r < n → 0 < r → ∀ i1, vs_G p l e R s m args below meth c b D aC 5 Q kc ks ck (vs_mem S) 6 [some (.ref 20), some (.int u), some (.int (tk_o (S.1 21) r t0)), some (.int (nI r)), some (.int i1)] [] := by
  intro n
  induction n with
  | zero => intro r _ h; omega
  | succ n ih =>
    intro r hi hn h0 i1
    refine vs_iload_n C rfl d_R_tokensOf_6 ?_
    refine vs_bipush (v := 8) C (by decide) d_R_tokensOf_7 ?_
    refine vs_icmp_ge (tgt := 53) C d_R_tokensOf_9 (by decide) (fun h1 => ?_) (fun h1 => ?_)
    · have : r = 8 := by
        have := (nI_leI (a := 8) (b := r) (by decide) (by omega)).mp h1
        omega
      subst this
      exact K i1
    · have hlt : r < 8 := by
        rcases Nat.lt_or_ge r 8 with h | h
        · exact h
        · exact absurd (nI_le h (by omega)) h1
      refine vs_iconst (v := 0) C (by decide) d_R_tokensOf_12 ?_
      refine vs_istore C d_R_tokensOf_13 (by decide) ?_
      refine tokNow_i C S u (nI r) (tk_o (S.1 21) r t0) ?_ 17 0 (by decide) (by decide)
      refine vs_iinc C d_R_tokensOf_47 rfl (nI_1 r) (by decide) ?_
      refine vs_goto (tgt := 6) C d_R_tokensOf_50 (by decide) ?_
      exact ih (r + 1) (by omega) (by omega) (by omega) (nI 16)
end TokNow

