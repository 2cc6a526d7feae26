set_option maxRecDepth 100000 in
set_option maxHeartbeats 4000000 in
theorem k_J_bitCount (l : Launch) (b : Nat) (D : va_G) (aC : Nat → ClassId) (S : vs_S) (x : Int64) : vs_M l b D aC false true y_J_bitCount (.code y_J_bitCount c_J_bitCount 2 (Option.some Jvm.ClassFile.FieldType.int)) { frames := 0, cells := 0, slots := 0, locals := 0 } [.long x] (vs_mem S) (vs_ret (some (.int (bcR x))) (vs_mem S)) := by
  refine vs_M.of (by decide) (Nat.le_of_ble_eq_true rfl) ?_
  intro p e s m args below meth c C hmn hr hx htg
  generalize hQ : vs_E below args s b D aC false true (vs_ret (some (.int (bcR x))) (vs_mem S)) { frames := 0, cells := 0, slots := 0, locals := 0 } = Q
  refine vs_lload_n C rfl d_J_bitCount_0 ?_
  refine vs_lload_n C rfl d_J_bitCount_1 ?_
  refine vs_iconst (v := 1) C (by decide) d_J_bitCount_2 ?_
  refine vs_lushr C d_J_bitCount_3 ?_
  refine vs_ldc2 C w_248 d_J_bitCount_4 ?_
  refine vs_land C d_J_bitCount_7 ?_
  refine vs_lsub C d_J_bitCount_8 ?_
  refine vs_lstore_n C d_J_bitCount_9 (by decide) ?_
  refine vs_lload_n C rfl d_J_bitCount_10 ?_
  refine vs_ldc2 C w_249 d_J_bitCount_11 ?_
  refine vs_land C d_J_bitCount_14 ?_
  refine vs_lload_n C rfl d_J_bitCount_15 ?_
  refine vs_iconst (v := 2) C (by decide) d_J_bitCount_16 ?_
  refine vs_lushr C d_J_bitCount_17 ?_
  refine vs_ldc2 C w_249 d_J_bitCount_18 ?_
  refine vs_land C d_J_bitCount_21 ?_
  refine vs_ladd C d_J_bitCount_22 ?_
  refine vs_lstore_n C d_J_bitCount_23 (by decide) ?_
  refine vs_lload_n C rfl d_J_bitCount_24 ?_
  refine vs_lload_n C rfl d_J_bitCount_25 ?_
  refine vs_iconst (v := 4) C (by decide) d_J_bitCount_26 ?_
  refine vs_lushr C d_J_bitCount_27 ?_
  refine vs_ladd C d_J_bitCount_28 ?_
  refine vs_ldc2 C w_250 d_J_bitCount_29 ?_
  refine vs_land C d_J_bitCount_32 ?_
  refine vs_lstore_n C d_J_bitCount_33 (by decide) ?_
  refine vs_lload_n C rfl d_J_bitCount_34 ?_
  refine vs_lload_n C rfl d_J_bitCount_35 ?_
  refine vs_bipush (v := 8) C (by decide) d_J_bitCount_36 ?_
  refine vs_lushr C d_J_bitCount_38 ?_
  refine vs_ladd C d_J_bitCount_39 ?_
  refine vs_lstore_n C d_J_bitCount_40 (by decide) ?_
  refine vs_lload_n C rfl d_J_bitCount_41 ?_
  refine vs_lload_n C rfl d_J_bitCount_42 ?_
  refine vs_bipush (v := 16) C (by decide) d_J_bitCount_43 ?_
  refine vs_lushr C d_J_bitCount_45 ?_
  refine vs_ladd C d_J_bitCount_46 ?_
  refine vs_lstore_n C d_J_bitCount_47 (by decide) ?_
  refine vs_lload_n C rfl d_J_bitCount_48 ?_
  refine vs_lload_n C rfl d_J_bitCount_49 ?_
  refine vs_bipush (v := 32) C (by decide) d_J_bitCount_50 ?_
  refine vs_lushr C d_J_bitCount_52 ?_
  refine vs_ladd C d_J_bitCount_53 ?_
  refine vs_lstore_n C d_J_bitCount_54 (by decide) ?_
  refine vs_lload_n C rfl d_J_bitCount_55 ?_
  refine vs_l2i C d_J_bitCount_56 ?_
  refine vs_bipush (v := 127) C (by decide) d_J_bitCount_57 ?_
  refine vs_iand C d_J_bitCount_59 ?_
  subst hQ
  exact vs_iret C hr d_J_bitCount_60 ⟨Nat.le_of_ble_eq_true rfl, Nat.le_of_ble_eq_true rfl⟩ (fun h => by cases h) (by first | exact (fun _ => rfl) | exact (fun h => by cases h)) (⟨rfl, rfl⟩)
set_option maxRecDepth 100000 in
set_option maxHeartbeats 4000000 in
theorem k_X_holds (l : Launch) (b : Nat) (D : va_G) (aC : Nat → ClassId) (S : vs_S) (x : Int64) (i : Int32) : vs_M l b D aC false true y_X_holds (.code y_X_holds c_X_holds 3 (Option.some Jvm.ClassFile.FieldType.boolean)) { frames := 0, cells := 0, slots := 0, locals := 0 } [.long x, .int i] (vs_mem S) (vs_ret (some (.int (b01 (¬ sr x i &&& 1 = 0)))) (vs_mem S)) := by
  refine vs_M.of (by decide) (Nat.le_of_ble_eq_true rfl) ?_
  intro p e s m args below meth c C hmn hr hx htg
  generalize hQ : vs_E below args s b D aC false true (vs_ret (some (.int (b01 (¬ sr x i &&& 1 = 0)))) (vs_mem S)) { frames := 0, cells := 0, slots := 0, locals := 0 } = Q
  refine vs_lload_n C rfl d_X_holds_0 ?_
  refine vs_iload_n C rfl d_X_holds_1 ?_
  refine vs_lushr C d_X_holds_2 ?_
  refine vs_lconst (v := 1) C (by decide) d_X_holds_3 ?_
  refine vs_land C d_X_holds_4 ?_
  refine vs_lconst (v := 0) C (by decide) d_X_holds_5 ?_
  refine vs_lcmp C d_X_holds_6 ?_
  refine vs_if_eq (tgt := 14) C d_X_holds_7 (by decide) (fun h1 => ?_) (fun h1 => ?_)
  · refine vs_iconst (v := 0) C (by decide) d_X_holds_14 ?_
    subst hQ
    exact vs_zret C hr (by rfl) d_X_holds_15 ⟨Nat.le_of_ble_eq_true rfl, Nat.le_of_ble_eq_true rfl⟩ (fun h => by cases h) (by first | exact (fun _ => rfl) | exact (fun h => by cases h)) (vs_rti (b01_f (c := ¬ sr x i &&& 1 = 0) (fun h => h (lg0.mp h1))).symm)
  · refine vs_iconst (v := 1) C (by decide) d_X_holds_10 ?_
    refine vs_goto (tgt := 15) C d_X_holds_11 (by decide) ?_
    subst hQ
    exact vs_zret C hr (by rfl) d_X_holds_15 ⟨Nat.le_of_ble_eq_true rfl, Nat.le_of_ble_eq_true rfl⟩ (fun h => by cases h) (by first | exact (fun _ => rfl) | exact (fun h => by cases h)) (vs_rti (b01_t (c := ¬ sr x i &&& 1 = 0) (fun h => h1 (lg0.mpr h))).symm)
set_option maxRecDepth 100000 in
set_option maxHeartbeats 4000000 in
theorem k_X_lowestId (l : Launch) (b : Nat) (D : va_G) (aC : Nat → ClassId) (S : vs_S) (x : Int64) : vs_M l b D aC false true y_X_lowestId (.code y_X_lowestId c_X_lowestId 2 (Option.some Jvm.ClassFile.FieldType.int)) { frames := 1, cells := 0, slots := 0, locals := 21 } [.long x] (vs_mem S) (vs_ret (some (.int (bcR ((x &&& -x) - 1)))) (vs_mem S)) := by
  refine vs_M.of (by decide) (Nat.le_of_ble_eq_true rfl) ?_
  intro p e s m args below meth c C hmn hr hx htg
  generalize hQ : vs_E below args s b D aC false true (vs_ret (some (.int (bcR ((x &&& -x) - 1)))) (vs_mem S)) { frames := 1, cells := 0, slots := 0, locals := 21 } = Q
  refine vs_lload_n C rfl d_X_lowestId_0 ?_
  refine vs_lload_n C rfl d_X_lowestId_1 ?_
  refine vs_lneg C d_X_lowestId_2 ?_
  refine vs_land C d_X_lowestId_3 ?_
  refine vs_lconst (v := 1) C (by decide) d_X_lowestId_4 ?_
  refine vs_lsub C d_X_lowestId_5 ?_
  refine vs_cS C (k_J_bitCount l b D aC S ((x &&& -x) - 1)) yk_J_bitCount ml_X_144 st_J_bitCount d_X_lowestId_6 rfl rfl (by exact Nat.le_of_ble_eq_true rfl) (by exact ⟨Nat.le_of_ble_eq_true rfl, Nat.le_of_ble_eq_true rfl⟩) (by exact ⟨Nat.le_of_ble_eq_true rfl, Nat.le_of_ble_eq_true rfl⟩) (fun h => by cases h) ?_
  subst hQ
  exact vs_iret C hr d_X_lowestId_9 ⟨Nat.le_of_ble_eq_true rfl, Nat.le_of_ble_eq_true rfl⟩ (fun h => by cases h) (by first | exact (fun _ => rfl) | exact (fun h => by cases h)) (⟨rfl, rfl⟩)
def rl : Nat → Int64 → Int64
  | 0, x => x
  | n + 1, x => rl n x &&& (rl n x - 1)
section FB
variable {p : Program} {l : Launch} {e : Env} {R : Room} {s : State} {m : MethodId} {args : Array Value} {below : List Frame} {meth : Method} {c : Code} {b : Nat} {D : va_G} {aC : Nat → ClassId} {Q : State → Prop} {kc ks : Nat} {ck : Bool}
theorem fb_l (C : vs_X p s m args meth c b D aC "VeilSearch" c_X_firstBlock 5) (S : vs_S) (x : Int64) (K : vs_G p l e R s m args below meth c b D aC 5 Q kc ks ck (vs_mem S) 23 [some (.long x), none, some (.long (rl 4 x)), none, some (.int (nI 4))] []) : ∀ n i : Nat, i ≤ 4 → 4 - i < n → vs_G p l e R s m args below meth c b D aC 5 Q kc ks ck (vs_mem S) 5 [some (.long x), none, some (.long (rl i x)), none, some (.int (nI i))] [] := by
  intro n
  induction n with
  | zero => intro i _ h; omega
  | succ n ih =>
    intro i hi hn
    refine vs_iload C rfl d_X_firstBlock_5 ?_
    refine vs_iconst (v := 4) C (by decide) d_X_firstBlock_7 ?_
    refine vs_icmp_ge (tgt := 23) C d_X_firstBlock_8 (by decide) (fun h1 => ?_) (fun h1 => ?_)
    · have h2 := n_ge (N := 4) (i := i) h1 rfl rfl (by decide) (by omega)
      obtain rfl : i = 4 := by omega
      exact K
    · have hlt := n_lt (N := 4) (i := i) h1 rfl rfl (by decide) (by omega)
      refine vs_lload_n C rfl d_X_firstBlock_11 ?_
      refine vs_lload_n C rfl d_X_firstBlock_12 ?_
      refine vs_lconst (v := 1) C (by decide) d_X_firstBlock_13 ?_
      refine vs_lsub C d_X_firstBlock_14 ?_
      refine vs_land C d_X_firstBlock_15 ?_
      refine vs_lstore_n C d_X_firstBlock_16 (by decide) ?_
      refine vs_iinc C d_X_firstBlock_17 rfl (nI_1 i) (by decide) ?_
      refine vs_goto (tgt := 5) C d_X_firstBlock_20 (by decide) ?_
      exact ih (i + 1) (by omega) (by omega)
end FB
set_option maxRecDepth 100000 in
set_option maxHeartbeats 4000000 in
theorem k_X_firstBlock (l : Launch) (b : Nat) (D : va_G) (aC : Nat → ClassId) (S : vs_S) (x : Int64) : vs_M l b D aC false true y_X_firstBlock (.code y_X_firstBlock c_X_firstBlock 5 (Option.some Jvm.ClassFile.FieldType.long)) { frames := 0, cells := 0, slots := 0, locals := 0 } [.long x] (vs_mem S) (vs_ret (some (.long (x &&& (rl 4 x ^^^ (-1))))) (vs_mem S)) := by
  refine vs_M.of (by decide) (Nat.le_of_ble_eq_true rfl) ?_
  intro p e s m args below meth c C hmn hr hx htg
  generalize hQ : vs_E below args s b D aC false true (vs_ret (some (.long (x &&& (rl 4 x ^^^ (-1))))) (vs_mem S)) { frames := 0, cells := 0, slots := 0, locals := 0 } = Q
  refine vs_lload_n C rfl d_X_firstBlock_0 ?_
  refine vs_lstore_n C d_X_firstBlock_1 (by decide) ?_
  refine vs_iconst (v := 0) C (by decide) d_X_firstBlock_2 ?_
  refine vs_istore C d_X_firstBlock_3 (by decide) ?_
  refine fb_l C S x ?_ 5 0 (by decide) (by decide)
  refine vs_lload_n C rfl d_X_firstBlock_23 ?_
  refine vs_lload_n C rfl d_X_firstBlock_24 ?_
  refine vs_ldc2 C w_236 d_X_firstBlock_25 ?_
  refine vs_lxor C d_X_firstBlock_28 ?_
  refine vs_land C d_X_firstBlock_29 ?_
  subst hQ
  exact vs_lret C hr d_X_firstBlock_30 ⟨Nat.le_of_ble_eq_true rfl, Nat.le_of_ble_eq_true rfl⟩ (fun h => by cases h) (by first | exact (fun _ => rfl) | exact (fun h => by cases h)) (⟨rfl, rfl⟩)
set_option maxRecDepth 100000 in
set_option maxHeartbeats 4000000 in
theorem k_D_valuePlace (l : Launch) (b : Nat) (D : va_G) (aC : Nat → ClassId) (S : vs_S) (d f : Int32) : vs_M l b D aC false true y_D_valuePlace (.code y_D_valuePlace c_D_valuePlace 2 (Option.some Jvm.ClassFile.FieldType.int)) { frames := 0, cells := 0, slots := 0, locals := 0 } [.int d, .int f] (vs_mem S) (vs_ret (some (.int (d * 3 + f))) (vs_mem S)) := by
  refine vs_M.of (by decide) (Nat.le_of_ble_eq_true rfl) ?_
  intro p e s m args below meth c C hmn hr hx htg
  generalize hQ : vs_E below args s b D aC false true (vs_ret (some (.int (d * 3 + f))) (vs_mem S)) { frames := 0, cells := 0, slots := 0, locals := 0 } = Q
  refine vs_iload_n C rfl d_D_valuePlace_0 ?_
  refine vs_iconst (v := 3) C (by decide) d_D_valuePlace_1 ?_
  refine vs_imul C d_D_valuePlace_2 ?_
  refine vs_iload_n C rfl d_D_valuePlace_3 ?_
  refine vs_iadd C d_D_valuePlace_4 ?_
  subst hQ
  exact vs_iret C hr d_D_valuePlace_5 ⟨Nat.le_of_ble_eq_true rfl, Nat.le_of_ble_eq_true rfl⟩ (fun h => by cases h) (by first | exact (fun _ => rfl) | exact (fun h => by cases h)) (⟨rfl, rfl⟩)
set_option maxRecDepth 100000 in
set_option maxHeartbeats 4000000 in
theorem k_D_codePlace (l : Launch) (b : Nat) (D : va_G) (aC : Nat → ClassId) (S : vs_S) (d f t : Int32) : vs_M l b D aC false true y_D_codePlace (.code y_D_codePlace c_D_codePlace 3 (Option.some Jvm.ClassFile.FieldType.int)) { frames := 1, cells := 0, slots := 0, locals := 21 } [.int d, .int f, .int t] (vs_mem S) (vs_ret (some (.int ((d * 3 + f) * 8 + t))) (vs_mem S)) := by
  refine vs_M.of (by decide) (Nat.le_of_ble_eq_true rfl) ?_
  intro p e s m args below meth c C hmn hr hx htg
  generalize hQ : vs_E below args s b D aC false true (vs_ret (some (.int ((d * 3 + f) * 8 + t))) (vs_mem S)) { frames := 1, cells := 0, slots := 0, locals := 21 } = Q
  refine vs_iload_n C rfl d_D_codePlace_0 ?_
  refine vs_iload_n C rfl d_D_codePlace_1 ?_
  refine vs_cS C (k_D_valuePlace l b D aC S d f) yk_D_valuePlace ml_D_28 st_D_valuePlace d_D_codePlace_2 rfl rfl (by exact Nat.le_of_ble_eq_true rfl) (by exact ⟨Nat.le_of_ble_eq_true rfl, Nat.le_of_ble_eq_true rfl⟩) (by exact ⟨Nat.le_of_ble_eq_true rfl, Nat.le_of_ble_eq_true rfl⟩) (fun h => by cases h) ?_
  refine vs_bipush (v := 8) C (by decide) d_D_codePlace_5 ?_
  refine vs_imul C d_D_codePlace_7 ?_
  refine vs_iload_n C rfl d_D_codePlace_8 ?_
  refine vs_iadd C d_D_codePlace_9 ?_
  subst hQ
  exact vs_iret C hr d_D_codePlace_10 ⟨Nat.le_of_ble_eq_true rfl, Nat.le_of_ble_eq_true rfl⟩ (fun h => by cases h) (by first | exact (fun _ => rfl) | exact (fun h => by cases h)) (⟨rfl, rfl⟩)
theorem vpl {d f : Nat} : nI d * 3 + nI f = nI (d * 3 + f) := by
  rw [show (3 : Int32) = nI 3 from rfl, pk_mul, nI_add]
theorem cpl {d f t : Nat} : (nI d * 3 + nI f) * 8 + nI t = nI ((d * 3 + f) * 8 + t) := by
  rw [vpl, show (8 : Int32) = nI 8 from rfl, pk_mul, nI_add]
def mr (S : vs_S) (d : Nat) (tok : Int32) : Bool := decide (S.1 5 d &&& tok = 0) && decide (¬ S.1 4 d &&& tok = 0)
set_option maxRecDepth 100000 in
set_option maxHeartbeats 4000000 in
theorem k_D_mayRead (l : Launch) (b : Nat) (D : va_G) (aC : Nat → ClassId) (S : vs_S) (d : Nat) (tok : Int32) (hd : d < 41) : vs_M l b D aC false true y_D_mayRead (.code y_D_mayRead c_D_mayRead 3 (Option.some Jvm.ClassFile.FieldType.boolean)) { frames := 0, cells := 0, slots := 0, locals := 0 } [.ref 1, .int (nI d), .int tok] (vs_mem S) (vs_ret (some (.int (b01 (mr S d tok = true)))) (vs_mem S)) := by
  refine vs_M.of (by decide) (Nat.le_of_ble_eq_true rfl) ?_
  intro p e s m args below meth c C hmn hr hx htg
  generalize hQ : vs_E below args s b D aC false true (vs_ret (some (.int (b01 (mr S d tok = true)))) (vs_mem S)) { frames := 0, cells := 0, slots := 0, locals := 0 } = Q
  refine vs_aload_n C rfl d_D_mayRead_0 ?_
  refine vs_get C fl_D_21 d_D_mayRead_1 rfl rfl ?_
  refine vs_iload_n C rfl d_D_mayRead_4 ?_
  refine vs_ialdN C d_D_mayRead_5 rfl (rfl) (hd) (by decide) ?_
  refine vs_iload_n C rfl d_D_mayRead_6 ?_
  refine vs_iand C d_D_mayRead_7 ?_
  refine vs_if_ne (tgt := 26) C d_D_mayRead_8 (by decide) (fun h1 => ?_) (fun h1 => ?_)
  · refine vs_iconst (v := 0) C (by decide) d_D_mayRead_26 ?_
    subst hQ
    exact vs_zret C hr (by rfl) d_D_mayRead_27 ⟨Nat.le_of_ble_eq_true rfl, Nat.le_of_ble_eq_true rfl⟩ (fun h => by cases h) (by first | exact (fun _ => rfl) | exact (fun h => by cases h)) (vs_rti (b01_f (fun h => by simp only [mr, Bool.and_eq_true, decide_eq_true_eq] at h; exact h1 h.1)).symm)
  · refine vs_aload_n C rfl d_D_mayRead_11 ?_
    refine vs_get C fl_D_18 d_D_mayRead_12 rfl rfl ?_
    refine vs_iload_n C rfl d_D_mayRead_15 ?_
    refine vs_ialdN C d_D_mayRead_16 rfl (rfl) (hd) (by decide) ?_
    refine vs_iload_n C rfl d_D_mayRead_17 ?_
    refine vs_iand C d_D_mayRead_18 ?_
    refine vs_if_eq (tgt := 26) C d_D_mayRead_19 (by decide) (fun h2 => ?_) (fun h2 => ?_)
    · refine vs_iconst (v := 0) C (by decide) d_D_mayRead_26 ?_
      subst hQ
      exact vs_zret C hr (by rfl) d_D_mayRead_27 ⟨Nat.le_of_ble_eq_true rfl, Nat.le_of_ble_eq_true rfl⟩ (fun h => by cases h) (by first | exact (fun _ => rfl) | exact (fun h => by cases h)) (vs_rti (b01_f (fun h => by simp only [mr, Bool.and_eq_true, decide_eq_true_eq] at h; exact h.2 h2)).symm)
    · refine vs_iconst (v := 1) C (by decide) d_D_mayRead_22 ?_
      refine vs_goto (tgt := 27) C d_D_mayRead_23 (by decide) ?_
      subst hQ
      exact vs_zret C hr (by rfl) d_D_mayRead_27 ⟨Nat.le_of_ble_eq_true rfl, Nat.le_of_ble_eq_true rfl⟩ (fun h => by cases h) (by first | exact (fun _ => rfl) | exact (fun h => by cases h)) (vs_rti (b01_t (by simp only [mr, Bool.and_eq_true, decide_eq_true_eq]; exact ⟨h1, h2⟩)).symm)
/-- which of 'among' may be read, below n -/
def rd (S : vs_S) (among : Int64) (tok : Int32) : Nat → Int64
  | 0 => 0
  | i + 1 => if (¬ sr among (nI i) &&& 1 = 0) ∧ mr S i tok = true then rd S among tok i ||| ((1 : Int64) <<< ((nI i).toInt64 &&& 63)) else rd S among tok i
section RD
variable {p : Program} {l : Launch} {e : Env} {R : Room} {s : State} {m : MethodId} {args : Array Value} {below : List Frame} {meth : Method} {c : Code} {b : Nat} {D : va_G} {aC : Nat → ClassId} {Q : State → Prop} {kc ks : Nat} {ck : Bool}
theorem rd_l (C : vs_X p s m args meth c b D aC "VeilSearch$Documents" c_D_readableOf 7) (S : vs_S) (x : Int64) (tok : Int32) (k : Nat) (hk : (S.2.2.2.2.1 1 4) = nI k) (hk40 : k ≤ 40) (K : vs_G p l e { frames := 1, cells := 0, slots := 0, locals := 22 } s m args below meth c b D aC 7 Q 0 0 true (vs_mem S) 49 [some (.ref 1), some (.long x), none, some (.int tok), some (.long (rd S x tok k)), none, some (.int (nI k))] []) : ∀ n i : Nat, i ≤ k → k - i < n → vs_G p l e { frames := 1, cells := 0, slots := 0, locals := 22 } s m args below meth c b D aC 7 Q 0 0 true (vs_mem S) 6 [some (.ref 1), some (.long x), none, some (.int tok), some (.long (rd S x tok i)), none, some (.int (nI i))] [] := by
  intro n
  induction n with
  | zero => intro i _ h; omega
  | succ n ih =>
    intro i hi hn
    refine vs_iload C rfl d_D_readableOf_6 ?_
    refine vs_aload_n C rfl d_D_readableOf_8 ?_
    refine vs_get C fl_D_24 d_D_readableOf_9 rfl rfl ?_
    refine vs_icmp_ge (tgt := 49) C d_D_readableOf_12 (by decide) (fun h1 => ?_) (fun h1 => ?_)
    · have h2 := n_ge (N := k) (i := i) h1 hk rfl (by omega) (by omega)
      obtain rfl : i = k := by omega
      exact K
    · have hlt := n_lt (N := k) (i := i) h1 hk rfl (by omega) (by omega)
      refine vs_lload_n C rfl d_D_readableOf_15 ?_
      refine vs_iload C rfl d_D_readableOf_16 ?_
      refine vs_cS C (k_X_holds l b D aC S x (nI i)) yk_X_holds ml_D_32 st_X_holds d_D_readableOf_18 rfl rfl (by exact Nat.le_of_ble_eq_true rfl) (by exact ⟨Nat.le_of_ble_eq_true rfl, Nat.le_of_ble_eq_true rfl⟩) (by exact ⟨Nat.le_of_ble_eq_true rfl, Nat.le_of_ble_eq_true rfl⟩) (fun h => by cases h) ?_
      have hno : ∀ hne : ¬ ((¬ sr x (nI i) &&& 1 = 0) ∧ mr S i tok = true), vs_G p l e { frames := 1, cells := 0, slots := 0, locals := 22 } s m args below meth c b D aC 7 Q 0 0 true (vs_mem S) 43 [some (.ref 1), some (.long x), none, some (.int tok), some (.long (rd S x tok i)), none, some (.int (nI i))] [] := by
        intro hne
        refine vs_iinc C d_D_readableOf_43 rfl (nI_1 i) (by decide) ?_
        refine vs_goto (tgt := 6) C d_D_readableOf_46 (by decide) ?_
        have := ih (i + 1) (by omega) (by omega)
        rw [show rd S x tok (i + 1) = rd S x tok i from if_neg hne] at this
        exact this
      refine vs_if_eq (tgt := 43) C d_D_readableOf_21 (by decide) (fun h2 => ?_) (fun h2 => ?_)
      · exact hno (fun h => absurd h.1 (b01_0.mp h2))
      · refine vs_aload_n C rfl d_D_readableOf_24 ?_
        refine vs_iload C rfl d_D_readableOf_25 ?_
        refine vs_iload_n C rfl d_D_readableOf_27 ?_
        refine vs_cV C (k_D_mayRead l b D aC S i tok (by omega)) yk_D_mayRead ml_D_36 im_D_mayRead se_D_mayRead d_D_readableOf_28 rfl rfl rfl rfl (by exact Nat.le_of_ble_eq_true rfl) (by exact ⟨Nat.le_of_ble_eq_true rfl, Nat.le_of_ble_eq_true rfl⟩) (by exact ⟨Nat.le_of_ble_eq_true rfl, Nat.le_of_ble_eq_true rfl⟩) (fun h => by cases h) ?_
        refine vs_if_eq (tgt := 43) C d_D_readableOf_31 (by decide) (fun h3 => ?_) (fun h3 => ?_)
        · exact hno (fun h => absurd h.2 (b01_0.mp h3))
        · refine vs_lload C rfl d_D_readableOf_34 ?_
          refine vs_lconst (v := 1) C (by decide) d_D_readableOf_36 ?_
          refine vs_iload C rfl d_D_readableOf_37 ?_
          refine vs_lshl C d_D_readableOf_39 ?_
          refine vs_lor C d_D_readableOf_40 ?_
          refine vs_lstore C d_D_readableOf_41 (by decide) ?_
          refine vs_iinc C d_D_readableOf_43 rfl (nI_1 i) (by decide) ?_
          refine vs_goto (tgt := 6) C d_D_readableOf_46 (by decide) ?_
          have := ih (i + 1) (by omega) (by omega)
          rw [show rd S x tok (i + 1) = rd S x tok i ||| ((1 : Int64) <<< ((nI i).toInt64 &&& 63)) from if_pos ⟨Decidable.not_not.mp (fun h => h2 (b01_f h)), Decidable.not_not.mp (fun h => h3 (b01_f h))⟩] at this
          exact this
end RD
set_option maxRecDepth 100000 in
set_option maxHeartbeats 4000000 in
theorem k_D_readableOf (l : Launch) (b : Nat) (D : va_G) (aC : Nat → ClassId) (S : vs_S) (x : Int64) (tok : Int32) (k : Nat) (hk : (S.2.2.2.2.1 1 4) = nI k) (hk40 : k ≤ 40) : vs_M l b D aC false true y_D_readableOf (.code y_D_readableOf c_D_readableOf 7 (Option.some Jvm.ClassFile.FieldType.long)) { frames := 1, cells := 0, slots := 0, locals := 22 } [.ref 1, .long x, .int tok] (vs_mem S) (vs_ret (some (.long (rd S x tok k))) (vs_mem S)) := by
  refine vs_M.of (by decide) (Nat.le_of_ble_eq_true rfl) ?_
  intro p e s m args below meth c C hmn hr hx htg
  generalize hQ : vs_E below args s b D aC false true (vs_ret (some (.long (rd S x tok k))) (vs_mem S)) { frames := 1, cells := 0, slots := 0, locals := 22 } = Q
  refine vs_lconst (v := 0) C (by decide) d_D_readableOf_0 ?_
  refine vs_lstore C d_D_readableOf_1 (by decide) ?_
  refine vs_iconst (v := 0) C (by decide) d_D_readableOf_3 ?_
  refine vs_istore C d_D_readableOf_4 (by decide) ?_
  refine rd_l C S x tok k hk hk40 ?_ (k + 1) 0 (Nat.zero_le _) (by omega)
  refine vs_lload C rfl d_D_readableOf_49 ?_
  subst hQ
  exact vs_lret C hr d_D_readableOf_51 ⟨Nat.le_of_ble_eq_true rfl, Nat.le_of_ble_eq_true rfl⟩ (fun h => by cases h) (by first | exact (fun _ => rfl) | exact (fun h => by cases h)) (⟨rfl, rfl⟩)
/-- the lowest ID -/
def lo (n : Nat) : Nat := Nat.log2 (n &&& (2 ^ 64 - n))
theorem lo_is {n d : Nat} (h1 : n.testBit d = true) (h2 : ∀ j, j < d → n.testBit j = false) (hd : d < 64) (hn : n < 2 ^ 64) : lo n = d := by
  unfold lo
  rw [lo_iso h1 h2 hd hn]
  exact Nat.log2_two_pow
def mx (x y : Int32) : Int32 := if x < y then y else x
def gc (cd : Nat → Int32) (f t : Nat) : Nat → Nat → Int32 → Int32
  | 0, _, g => g
  | k + 1, n, g => if n = 0 then g else gc cd f t k (n - 2 ^ lo n) (mx g (cd ((lo n * 3 + f) * 8 + t)))
theorem lN_ne0 {n : Nat} (h0 : n ≠ 0) (h : n < 2 ^ 40) : ¬ lN n = 0 := fun hh => h0 ((pk_lEQ (b := 0) (Nat.lt_trans h (by decide)) (by decide)).mp hh)
section GC
variable {p : Program} {l : Launch} {e : Env} {R : Room} {s : State} {m : MethodId} {args : Array Value} {below : List Frame} {meth : Method} {c : Code} {b : Nat} {D : va_G} {aC : Nat → ClassId} {Q : State → Prop} {kc ks : Nat} {ck : Bool}
theorem gc_l (C : vs_X p s m args meth c b D aC "VeilSearch$Documents" c_D_greatestCode 9) (S : vs_S) (n0 f t : Nat) (hf : f < 3) (ht : t < 8) (K : ∀ (r : Nat) (i : Nat) (g : Int32), vs_G p l e { frames := 2, cells := 0, slots := 0, locals := 60 } s m args below meth c b D aC 9 Q 0 0 true (vs_mem S) 60 [some (.ref 1), some (.long (lN n0)), none, some (.int (nI f)), some (.int (nI t)), some (.int (gc (S.1 2) f t 4 n0 0)), some (.long (lN r)), none, some (.int (nI i))] []) : ∀ k i r : Nat, ∀ g : Int32, i + k = 4 → r < 2 ^ 40 → gc (S.1 2) f t k r g = gc (S.1 2) f t 4 n0 0 → vs_G p l e { frames := 2, cells := 0, slots := 0, locals := 60 } s m args below meth c b D aC 9 Q 0 0 true (vs_mem S) 9 [some (.ref 1), some (.long (lN n0)), none, some (.int (nI f)), some (.int (nI t)), some (.int g), some (.long (lN r)), none, some (.int (nI i))] [] := by
  intro k
  induction k with
  | zero =>
    intro i r g hi hr hg
    obtain rfl : i = 4 := by omega
    refine vs_iload C rfl d_D_greatestCode_9 ?_
    refine vs_iconst (v := 4) C (by decide) d_D_greatestCode_11 ?_
    refine vs_icmp_ge (tgt := 60) C d_D_greatestCode_12 (by decide) (fun h1 => ?_) (fun h1 => ?_)
    · have := K r 4 g
      rw [← hg] at this
      exact this
    · exact absurd (Int32.le_refl _) h1
  | succ k ih =>
    intro i r g hi hr hg
    refine vs_iload C rfl d_D_greatestCode_9 ?_
    refine vs_iconst (v := 4) C (by decide) d_D_greatestCode_11 ?_
    refine vs_icmp_ge (tgt := 60) C d_D_greatestCode_12 (by decide) (fun h1 => ?_) (fun h1 => ?_)
    · exact absurd (n_ge (N := 4) (i := i) h1 rfl rfl (by decide) (by omega)) (by omega)
    · refine vs_lload C rfl d_D_greatestCode_15 ?_
      refine vs_lconst (v := 0) C (by decide) d_D_greatestCode_17 ?_
      refine vs_lcmp C d_D_greatestCode_18 ?_
      refine vs_if_eq (tgt := 60) C d_D_greatestCode_19 (by decide) (fun h2 => ?_) (fun h2 => ?_)
      · have hr0 : r = 0 := Decidable.not_not.mp (fun h => lN_ne0 h hr (lg0.mp h2))
        have := K r i g
        rw [← hg, show gc (S.1 2) f t (k + 1) r g = g from if_pos hr0] at this
        exact this
      · have hr0 : r ≠ 0 := fun h => h2 (by rw [h]; decide)
        obtain ⟨d, hd, b1, b2, e1, e2⟩ := lo_all hr0 hr
        have hlo := lo_is b1 b2 (by omega) (Nat.lt_trans hr (by decide))
        refine vs_iload C rfl d_D_greatestCode_22 ?_
        refine vs_aload_n C rfl d_D_greatestCode_24 ?_
        refine vs_get C fl_D_9 d_D_greatestCode_25 rfl rfl ?_
        refine vs_lload C rfl d_D_greatestCode_28 ?_
        refine vs_cS C (k_X_lowestId l b D aC S (lN r)) yk_X_lowestId ml_D_40 st_X_lowestId d_D_greatestCode_30 rfl rfl (by exact Nat.le_of_ble_eq_true rfl) (by exact ⟨Nat.le_of_ble_eq_true rfl, Nat.le_of_ble_eq_true rfl⟩) (by exact ⟨Nat.le_of_ble_eq_true rfl, Nat.le_of_ble_eq_true rfl⟩) (fun h => by cases h) ?_
        rw [e1]
        refine vs_iload_n C rfl d_D_greatestCode_33 ?_
        refine vs_iload C rfl d_D_greatestCode_34 ?_
        refine vs_cS C (k_D_codePlace l b D aC S (nI d) (nI f) (nI t)) yk_D_codePlace ml_D_44 st_D_codePlace d_D_greatestCode_36 rfl rfl (by exact Nat.le_of_ble_eq_true rfl) (by exact ⟨Nat.le_of_ble_eq_true rfl, Nat.le_of_ble_eq_true rfl⟩) (by exact ⟨Nat.le_of_ble_eq_true rfl, Nat.le_of_ble_eq_true rfl⟩) (fun h => by cases h) ?_
        refine vs_ialdN C d_D_greatestCode_39 rfl (cpl) ((by omega)) (by decide) ?_
        refine vs_mmax C w_575 d_D_greatestCode_40 (by exact ⟨Nat.le_of_ble_eq_true rfl, Nat.le_of_ble_eq_true rfl⟩) (by exact ⟨Nat.le_of_ble_eq_true rfl, Nat.le_of_ble_eq_true rfl⟩) ?_
        refine vs_istore C d_D_greatestCode_43 (by decide) ?_
        refine vs_lload C rfl d_D_greatestCode_45 ?_
        refine vs_lload C rfl d_D_greatestCode_47 ?_
        refine vs_lconst (v := 1) C (by decide) d_D_greatestCode_49 ?_
        refine vs_lsub C d_D_greatestCode_50 ?_
        refine vs_land C d_D_greatestCode_51 ?_
        refine vs_lstore C d_D_greatestCode_52 (by decide) ?_
        refine vs_iinc C d_D_greatestCode_54 rfl (nI_1 i) (by decide) ?_
        refine vs_goto (tgt := 9) C d_D_greatestCode_57 (by decide) ?_
        have := ih (i + 1) (r - 2 ^ d) (mx g (S.1 2 ((d * 3 + f) * 8 + t))) (by omega) (Nat.lt_of_le_of_lt (Nat.sub_le _ _) hr) (by rw [← hg, ← hlo]; exact (if_neg hr0).symm)
        refine vs_lv_eq ?_ this
        rw [← e2]
        rfl
end GC
set_option maxRecDepth 100000 in
set_option maxHeartbeats 4000000 in
theorem k_D_greatestCode (l : Launch) (b : Nat) (D : va_G) (aC : Nat → ClassId) (S : vs_S) (n f t : Nat) (hn : n < 2 ^ 40) (hf : f < 3) (ht : t < 8) : vs_M l b D aC false true y_D_greatestCode (.code y_D_greatestCode c_D_greatestCode 9 (Option.some Jvm.ClassFile.FieldType.int)) { frames := 2, cells := 0, slots := 0, locals := 60 } [.ref 1, .long (lN n), .int (nI f), .int (nI t)] (vs_mem S) (vs_ret (some (.int (gc (S.1 2) f t 4 n 0))) (vs_mem S)) := by
  refine vs_M.of (by decide) (Nat.le_of_ble_eq_true rfl) ?_
  intro p e s m args below meth c C hmn hr hx htg
  generalize hQ : vs_E below args s b D aC false true (vs_ret (some (.int (gc (S.1 2) f t 4 n 0))) (vs_mem S)) { frames := 2, cells := 0, slots := 0, locals := 60 } = Q
  refine vs_iconst (v := 0) C (by decide) d_D_greatestCode_0 ?_
  refine vs_istore C d_D_greatestCode_1 (by decide) ?_
  refine vs_lload_n C rfl d_D_greatestCode_3 ?_
  refine vs_lstore C d_D_greatestCode_4 (by decide) ?_
  refine vs_iconst (v := 0) C (by decide) d_D_greatestCode_6 ?_
  refine vs_istore C d_D_greatestCode_7 (by decide) ?_
  refine gc_l C S n f t hf ht (fun r i g => ?_) 4 0 n 0 rfl hn rfl
  refine vs_iload C rfl d_D_greatestCode_60 ?_
  subst hQ
  exact vs_iret C hr d_D_greatestCode_62 ⟨Nat.le_of_ble_eq_true rfl, Nat.le_of_ble_eq_true rfl⟩ (fun h => by cases h) (by first | exact (fun _ => rfl) | exact (fun h => by cases h)) (⟨rfl, rfl⟩)
def fd0 (S : vs_S) : vs_S := vs_ui S 1 4 ((S.2.2.2.2.1 1 4) + 1)
def fd1 (S : vs_S) (d q : Nat) : vs_S := vs_uI S 5 (upd (S.1 5) d (S.1 5 d ||| S.1 5 q))
def fd2 (S : vs_S) (d q : Nat) : vs_S := if S.1 4 d = 0 then vs_uI (fd1 S d q) 4 (upd (S.1 4) d (S.1 4 q)) else fd1 S d q
set_option maxRecDepth 100000 in
set_option maxHeartbeats 4000000 in
theorem k_D_finishDraft_n (l : Launch) (b : Nat) (D : va_G) (aC : Nat → ClassId) (S : vs_S) (d : Nat) (hd : (S.2.2.2.2.1 1 4) = nI d) (hd40 : d < 40) : vs_M l b D aC false false y_D_finishDraft (.code y_D_finishDraft c_D_finishDraft 3 (Option.some Jvm.ClassFile.FieldType.int)) { frames := 0, cells := 0, slots := 0, locals := 0 } [.ref 1, .int (-1)] (vs_mem S) (vs_ret (some (.int (nI d))) (vs_mem (fd0 S))) := by
  refine vs_M.of (by decide) (Nat.le_of_ble_eq_true rfl) ?_
  intro p e s m args below meth c C hmn hr hx htg
  generalize hQ : vs_E below args s b D aC false false (vs_ret (some (.int (nI d))) (vs_mem (fd0 S))) { frames := 0, cells := 0, slots := 0, locals := 0 } = Q
  refine vs_aload_n C rfl d_D_finishDraft_0 ?_
  refine vs_get C fl_D_24 d_D_finishDraft_1 rfl rfl ?_
  refine vs_istore_n C d_D_finishDraft_4 (by decide) ?_
  refine vs_iload_n C rfl d_D_finishDraft_5 ?_
  refine vs_iconst (v := (-1)) C (by decide) d_D_finishDraft_6 ?_
  refine vs_icmp_eq (tgt := 46) C d_D_finishDraft_7 (by decide) (fun h1 => ?_) (fun h1 => ?_)
  · refine vs_aload_n C rfl d_D_finishDraft_46 ?_
    refine vs_dup C rfl d_D_finishDraft_47 ?_
    refine vs_get C fl_D_24 d_D_finishDraft_48 rfl rfl ?_
    refine vs_iconst (v := 1) C (by decide) d_D_finishDraft_51 ?_
    refine vs_iadd C d_D_finishDraft_52 ?_
    refine vs_put C fl_D_24 d_D_finishDraft_53 rfl rfl rfl (Nat.le_of_ble_eq_true rfl) ?_
    refine vs_iload_n C rfl d_D_finishDraft_56 ?_
    subst hQ
    exact vs_iret C hr d_D_finishDraft_57 ⟨Nat.le_of_ble_eq_true rfl, Nat.le_of_ble_eq_true rfl⟩ (fun h => by cases h) (by first | exact (fun _ => rfl) | exact (fun h => by cases h)) (⟨by rw [hd], rfl⟩)
  · exact absurd rfl h1
set_option maxRecDepth 100000 in
set_option maxHeartbeats 4000000 in
theorem k_D_finishDraft_p (l : Launch) (b : Nat) (D : va_G) (aC : Nat → ClassId) (S : vs_S) (d q : Nat) (hd : (S.2.2.2.2.1 1 4) = nI d) (hd40 : d < 40) (hq : q < d) : vs_M l b D aC false false y_D_finishDraft (.code y_D_finishDraft c_D_finishDraft 3 (Option.some Jvm.ClassFile.FieldType.int)) { frames := 0, cells := 0, slots := 0, locals := 0 } [.ref 1, .int (nI q)] (vs_mem S) (vs_ret (some (.int (nI d))) (vs_mem (fd0 (fd2 S d q)))) := by
  refine vs_M.of (by decide) (Nat.le_of_ble_eq_true rfl) ?_
  intro p e s m args below meth c C hmn hr hx htg
  generalize hQ : vs_E below args s b D aC false false (vs_ret (some (.int (nI d))) (vs_mem (fd0 (fd2 S d q)))) { frames := 0, cells := 0, slots := 0, locals := 0 } = Q
  refine vs_aload_n C rfl d_D_finishDraft_0 ?_
  refine vs_get C fl_D_24 d_D_finishDraft_1 rfl rfl ?_
  refine vs_istore_n C d_D_finishDraft_4 (by decide) ?_
  refine vs_iload_n C rfl d_D_finishDraft_5 ?_
  refine vs_iconst (v := (-1)) C (by decide) d_D_finishDraft_6 ?_
  refine vs_icmp_eq (tgt := 46) C d_D_finishDraft_7 (by decide) (fun h1 => ?_) (fun h1 => ?_)
  · have h2 : (nI q).toInt = (-1 : Int32).toInt := by rw [h1]
    rw [nI_toInt (by omega)] at h2
    exact absurd h2 (by rw [show (-1 : Int32).toInt = -1 from by decide]; omega)
  · refine vs_aload_n C rfl d_D_finishDraft_10 ?_
    refine vs_get C fl_D_21 d_D_finishDraft_11 rfl rfl ?_
    refine vs_iload_n C rfl d_D_finishDraft_14 ?_
    refine vs_dup2 C rfl rfl d_D_finishDraft_15 ?_
    refine vs_ialdN C d_D_finishDraft_16 rfl (hd) ((by omega)) (by decide) ?_
    refine vs_aload_n C rfl d_D_finishDraft_17 ?_
    refine vs_get C fl_D_21 d_D_finishDraft_18 rfl rfl ?_
    refine vs_iload_n C rfl d_D_finishDraft_21 ?_
    refine vs_ialdN C d_D_finishDraft_22 rfl (rfl) ((by omega)) (by decide) ?_
    refine vs_ior C d_D_finishDraft_23 ?_
    refine vs_iastN C d_D_finishDraft_24 rfl (hd) ((by omega)) (by decide) ?_
    refine vs_aload_n C rfl d_D_finishDraft_25 ?_
    refine vs_get C fl_D_18 d_D_finishDraft_26 rfl rfl ?_
    refine vs_iload_n C rfl d_D_finishDraft_29 ?_
    refine vs_ialdN C d_D_finishDraft_30 rfl (hd) ((by omega)) (by decide) ?_
    refine vs_if_ne (tgt := 46) C d_D_finishDraft_31 (by decide) (fun h2 => ?_) (fun h2 => ?_)
    · have hne : ¬ S.1 4 d = 0 := h2
      rw [show fd2 S d q = fd1 S d q from if_neg hne] at hQ
      refine vs_aload_n C rfl d_D_finishDraft_46 ?_
      refine vs_dup C rfl d_D_finishDraft_47 ?_
      refine vs_get C fl_D_24 d_D_finishDraft_48 rfl rfl ?_
      refine vs_iconst (v := 1) C (by decide) d_D_finishDraft_51 ?_
      refine vs_iadd C d_D_finishDraft_52 ?_
      refine vs_put C fl_D_24 d_D_finishDraft_53 rfl rfl rfl (Nat.le_of_ble_eq_true rfl) ?_
      refine vs_iload_n C rfl d_D_finishDraft_56 ?_
      subst hQ
      exact vs_iret C hr d_D_finishDraft_57 ⟨Nat.le_of_ble_eq_true rfl, Nat.le_of_ble_eq_true rfl⟩ (fun h => by cases h) (by first | exact (fun _ => rfl) | exact (fun h => by cases h)) (⟨by rw [hd], rfl⟩)
    · have he : S.1 4 d = 0 := h2
      rw [show fd2 S d q = vs_uI (fd1 S d q) 4 (upd (S.1 4) d (S.1 4 q)) from if_pos he] at hQ
      refine vs_aload_n C rfl d_D_finishDraft_34 ?_
      refine vs_get C fl_D_18 d_D_finishDraft_35 rfl rfl ?_
      refine vs_iload_n C rfl d_D_finishDraft_38 ?_
      refine vs_aload_n C rfl d_D_finishDraft_39 ?_
      refine vs_get C fl_D_18 d_D_finishDraft_40 rfl rfl ?_
      refine vs_iload_n C rfl d_D_finishDraft_43 ?_
      refine vs_ialdN C d_D_finishDraft_44 rfl (rfl) ((by omega)) (by decide) ?_
      refine vs_iastN C d_D_finishDraft_45 rfl (hd) ((by omega)) (by decide) ?_
      refine vs_aload_n C rfl d_D_finishDraft_46 ?_
      refine vs_dup C rfl d_D_finishDraft_47 ?_
      refine vs_get C fl_D_24 d_D_finishDraft_48 rfl rfl ?_
      refine vs_iconst (v := 1) C (by decide) d_D_finishDraft_51 ?_
      refine vs_iadd C d_D_finishDraft_52 ?_
      refine vs_put C fl_D_24 d_D_finishDraft_53 rfl rfl rfl (Nat.le_of_ble_eq_true rfl) ?_
      refine vs_iload_n C rfl d_D_finishDraft_56 ?_
      subst hQ
      exact vs_iret C hr d_D_finishDraft_57 ⟨Nat.le_of_ble_eq_true rfl, Nat.le_of_ble_eq_true rfl⟩ (fun h => by cases h) (by first | exact (fun _ => rfl) | exact (fun h => by cases h)) (⟨by rw [hd], rfl⟩)

