def cp16 (S : vs_S) : vs_S := vs_uI (vs_uI (vs_uI S 29 (va_cpy (S.1 21) (S.1 29) 0 0 16)) 30 (va_cpy (S.1 22) (S.1 30) 0 0 3)) 31 (va_cpy (S.1 23) (S.1 31) 0 0 8)
set_option maxRecDepth 100000 in
set_option maxHeartbeats 4000000 in
theorem k_R_takeOver (l : Launch) (b : Nat) (D : va_G) (aC : Nat → ClassId) (S : vs_S)  : vs_M l b D aC false false y_R_takeOver (.code y_R_takeOver c_R_takeOver 2 (Option.none : Option Jvm.ClassFile.FieldType)) { frames := 1, cells := 0, slots := 0, locals := 60 } [.ref 28, .ref 20] (vs_mem S) (vs_ret none (vs_mem (cp16 S))) := by
  refine vs_M.of (by decide) (Nat.le_of_ble_eq_true rfl) ?_
  intro p e s m args below meth c C hmn hr hx htg
  generalize hQ : vs_E below args s b D aC false false (vs_ret none (vs_mem (cp16 S))) { frames := 1, cells := 0, slots := 0, locals := 60 } = Q
  refine vs_aload_n C rfl d_R_takeOver_0 ?_
  refine vs_get C fl_R_9 d_R_takeOver_1 rfl rfl ?_
  refine vs_iconst (v := 0) C (by decide) d_R_takeOver_4 ?_
  refine vs_aload_n C rfl d_R_takeOver_5 ?_
  refine vs_get C fl_R_9 d_R_takeOver_6 rfl rfl ?_
  refine vs_iconst (v := 0) C (by decide) d_R_takeOver_9 ?_
  refine vs_bipush (v := 16) C (by decide) d_R_takeOver_10 ?_
  refine vs_copyi C w_270 d_R_takeOver_12 rfl rfl (by decide) (by decide) (by decide) (by decide) (by decide) (by exact ⟨Nat.le_of_ble_eq_true rfl, Nat.le_of_ble_eq_true rfl⟩) ?_
  refine vs_aload_n C rfl d_R_takeOver_15 ?_
  refine vs_get C fl_R_15 d_R_takeOver_16 rfl rfl ?_
  refine vs_iconst (v := 0) C (by decide) d_R_takeOver_19 ?_
  refine vs_aload_n C rfl d_R_takeOver_20 ?_
  refine vs_get C fl_R_15 d_R_takeOver_21 rfl rfl ?_
  refine vs_iconst (v := 0) C (by decide) d_R_takeOver_24 ?_
  refine vs_iconst (v := 3) C (by decide) d_R_takeOver_25 ?_
  refine vs_copyi C w_270 d_R_takeOver_26 rfl rfl (by decide) (by decide) (by decide) (by decide) (by decide) (by exact ⟨Nat.le_of_ble_eq_true rfl, Nat.le_of_ble_eq_true rfl⟩) ?_
  refine vs_aload_n C rfl d_R_takeOver_29 ?_
  refine vs_get C fl_R_18 d_R_takeOver_30 rfl rfl ?_
  refine vs_iconst (v := 0) C (by decide) d_R_takeOver_33 ?_
  refine vs_aload_n C rfl d_R_takeOver_34 ?_
  refine vs_get C fl_R_18 d_R_takeOver_35 rfl rfl ?_
  refine vs_iconst (v := 0) C (by decide) d_R_takeOver_38 ?_
  refine vs_bipush (v := 8) C (by decide) d_R_takeOver_39 ?_
  refine vs_copyi C w_270 d_R_takeOver_41 rfl rfl (by decide) (by decide) (by decide) (by decide) (by decide) (by exact ⟨Nat.le_of_ble_eq_true rfl, Nat.le_of_ble_eq_true rfl⟩) ?_
  subst hQ
  exact vs_vret C hr d_R_takeOver_44 ⟨Nat.le_of_ble_eq_true rfl, Nat.le_of_ble_eq_true rfl⟩ (fun h => by cases h) (by first | exact (fun _ => rfl) | exact (fun h => by cases h)) (⟨rfl, rfl⟩)
set_option maxRecDepth 100000 in
set_option maxHeartbeats 4000000 in
theorem k_S_append (l : Launch) (b : Nat) (D : va_G) (aC : Nat → ClassId) (S : vs_S) (k : Nat) (num : Int32) (ids : Int64) (hk : (S.2.2.2.2.1 24 2) = nI k) (hk6 : k < 6) : vs_M l b D aC false false y_S_append (.code y_S_append c_S_append 4 (Option.none : Option Jvm.ClassFile.FieldType)) { frames := 0, cells := 0, slots := 0, locals := 0 } [.ref 24, .int num, .long ids] (vs_mem S) (vs_ret none (vs_mem (vs_ui (vs_uL (vs_uI S 25 (upd (S.1 25) k num)) 26 (vp_updL (S.2.1 26) k ids)) 24 2 ((S.2.2.2.2.1 24 2) + 1)))) := by
  refine vs_M.of (by decide) (Nat.le_of_ble_eq_true rfl) ?_
  intro p e s m args below meth c C hmn hr hx htg
  generalize hQ : vs_E below args s b D aC false false (vs_ret none (vs_mem (vs_ui (vs_uL (vs_uI S 25 (upd (S.1 25) k num)) 26 (vp_updL (S.2.1 26) k ids)) 24 2 ((S.2.2.2.2.1 24 2) + 1)))) { frames := 0, cells := 0, slots := 0, locals := 0 } = Q
  refine vs_aload_n C rfl d_S_append_0 ?_
  refine vs_get C fl_S_9 d_S_append_1 rfl rfl ?_
  refine vs_aload_n C rfl d_S_append_4 ?_
  refine vs_get C fl_S_19 d_S_append_5 rfl rfl ?_
  refine vs_iload_n C rfl d_S_append_8 ?_
  refine vs_iastN C d_S_append_9 rfl (hk) (hk6) (by decide) ?_
  refine vs_aload_n C rfl d_S_append_10 ?_
  refine vs_get C fl_S_15 d_S_append_11 rfl rfl ?_
  refine vs_aload_n C rfl d_S_append_14 ?_
  refine vs_get C fl_S_19 d_S_append_15 rfl rfl ?_
  refine vs_lload_n C rfl d_S_append_18 ?_
  refine vs_lastN C d_S_append_19 rfl (hk) (hk6) (by decide) ?_
  refine vs_aload_n C rfl d_S_append_20 ?_
  refine vs_dup C rfl d_S_append_21 ?_
  refine vs_get C fl_S_19 d_S_append_22 rfl rfl ?_
  refine vs_iconst (v := 1) C (by decide) d_S_append_25 ?_
  refine vs_iadd C d_S_append_26 ?_
  refine vs_put C fl_S_19 d_S_append_27 rfl rfl rfl (Nat.le_of_ble_eq_true rfl) ?_
  subst hQ
  exact vs_vret C hr d_S_append_30 ⟨Nat.le_of_ble_eq_true rfl, Nat.le_of_ble_eq_true rfl⟩ (fun h => by cases h) (by first | exact (fun _ => rfl) | exact (fun h => by cases h)) (⟨rfl, rfl⟩)
def or_l (f : Nat → Int64) : Nat → Int64
  | 0 => 0
  | n + 1 => or_l f n ||| f n
def has_i (f : Nat → Int32) (x : Int32) : Nat → Bool
  | 0 => false
  | n + 1 => has_i f x n || decide (f n = x)
theorem has_i_iff {f : Nat → Int32} {x : Int32} : ∀ {n : Nat}, has_i f x n = true ↔ ∃ i, i < n ∧ f i = x
  | 0 => ⟨(fun h => by cases h), fun ⟨i, h, _⟩ => by omega⟩
  | n + 1 => by
    simp only [has_i, Bool.or_eq_true, decide_eq_true_eq, has_i_iff (n := n)]
    constructor
    · rintro (⟨i, h1, h2⟩ | h)
      · exact ⟨i, by omega, h2⟩
      · exact ⟨n, by omega, h⟩
    · rintro ⟨i, h1, h2⟩
      rcases Nat.lt_or_ge i n with h | h
      · exact Or.inl ⟨i, h, h2⟩
      · have : i = n := by omega
        subst this
        exact Or.inr h2
section Segs
variable {p : Program} {l : Launch} {e : Env} {R : Room} {s : State} {m : MethodId} {args : Array Value} {below : List Frame} {meth : Method} {c : Code} {b : Nat} {D : va_G} {aC : Nat → ClassId} {Q : State → Prop} {kc ks : Nat} {ck : Bool}
theorem allNow (C : vs_X p s m args meth c b D aC "VeilSearch$Segments" c_S_allIds 4) (S : vs_S) (k : Nat) (hk : S.2.2.2.2.1 24 2 = nI k) (hk6 : k ≤ 6) (K : vs_G p l e R s m args below meth c b D aC 4 Q kc ks ck (vs_mem S) 27 [some (.ref 24), some (.long (or_l (S.2.1 26) k)), none, some (.int (nI k))] []) : ∀ n i : Nat, i ≤ k → k - i < n → vs_G p l e R s m args below meth c b D aC 4 Q kc ks ck (vs_mem S) 4 [some (.ref 24), some (.long (or_l (S.2.1 26) i)), none, some (.int (nI i))] [] := by
  intro n
  induction n with
  | zero => intro i _ h; omega
  | succ n ih =>
    intro i hi hn
    refine vs_iload_n C rfl d_S_allIds_4 ?_
    refine vs_aload_n C rfl d_S_allIds_5 ?_
    refine vs_get C fl_S_19 d_S_allIds_6 rfl rfl ?_
    refine vs_icmp_ge (tgt := 27) C d_S_allIds_9 (by decide) (fun h1 => ?_) (fun h1 => ?_)
    · have h2 := n_ge (N := k) (i := i) h1 hk rfl (by omega) (by omega)
      obtain rfl : i = k := by omega
      exact K
    · have hlt := n_lt (N := k) (i := i) h1 hk rfl (by omega) (by omega)
      refine vs_lload_n C rfl d_S_allIds_12 ?_
      refine vs_aload_n C rfl d_S_allIds_13 ?_
      refine vs_get C fl_S_15 d_S_allIds_14 rfl rfl ?_
      refine vs_iload_n C rfl d_S_allIds_17 ?_
      refine vs_laldN C d_S_allIds_18 rfl (rfl) ((by omega)) (by decide) ?_
      refine vs_lor C d_S_allIds_19 ?_
      refine vs_lstore_n C d_S_allIds_20 (by decide) ?_
      refine vs_iinc C d_S_allIds_21 rfl (nI_1 i) (by decide) ?_
      refine vs_goto (tgt := 4) C d_S_allIds_24 (by decide) ?_
      exact ih (i + 1) (by omega) (by omega)
theorem allSeen (C : vs_X p s m args meth c b D aC "VeilSearch$Segments" c_S_allIds 4) (S : vs_S) (k : Nat) (hk : S.2.2.2.2.1 32 2 = nI k) (hk6 : k ≤ 6) (K : vs_G p l e R s m args below meth c b D aC 4 Q kc ks ck (vs_mem S) 27 [some (.ref 32), some (.long (or_l (S.2.1 34) k)), none, some (.int (nI k))] []) : ∀ n i : Nat, i ≤ k → k - i < n → vs_G p l e R s m args below meth c b D aC 4 Q kc ks ck (vs_mem S) 4 [some (.ref 32), some (.long (or_l (S.2.1 34) i)), none, some (.int (nI i))] [] := by
  intro n
  induction n with
  | zero => intro i _ h; omega
  | succ n ih =>
    intro i hi hn
    refine vs_iload_n C rfl d_S_allIds_4 ?_
    refine vs_aload_n C rfl d_S_allIds_5 ?_
    refine vs_get C fl_S_19 d_S_allIds_6 rfl rfl ?_
    refine vs_icmp_ge (tgt := 27) C d_S_allIds_9 (by decide) (fun h1 => ?_) (fun h1 => ?_)
    · have h2 := n_ge (N := k) (i := i) h1 hk rfl (by omega) (by omega)
      obtain rfl : i = k := by omega
      exact K
    · have hlt := n_lt (N := k) (i := i) h1 hk rfl (by omega) (by omega)
      refine vs_lload_n C rfl d_S_allIds_12 ?_
      refine vs_aload_n C rfl d_S_allIds_13 ?_
      refine vs_get C fl_S_15 d_S_allIds_14 rfl rfl ?_
      refine vs_iload_n C rfl d_S_allIds_17 ?_
      refine vs_laldN C d_S_allIds_18 rfl (rfl) ((by omega)) (by decide) ?_
      refine vs_lor C d_S_allIds_19 ?_
      refine vs_lstore_n C d_S_allIds_20 (by decide) ?_
      refine vs_iinc C d_S_allIds_21 rfl (nI_1 i) (by decide) ?_
      refine vs_goto (tgt := 4) C d_S_allIds_24 (by decide) ?_
      exact ih (i + 1) (by omega) (by omega)
theorem hasNum (C : vs_X p s m args meth c b D aC "VeilSearch$Segments" c_S_hasNumber 3) (S : vs_S) (x : Int32) (k : Nat) (hk : (S.2.2.2.2.1 32 2) = nI k) (hk6 : k ≤ 6) (K1 : ∀ i : Nat, has_i (S.1 33) x k = true → vs_G p l e R s m args below meth c b D aC 3 Q kc ks ck (vs_mem S) 21 [some (.ref 32), some (.int x), some (.int (nI i))] [.int 1]) (K0 : has_i (S.1 33) x k = false → vs_G p l e R s m args below meth c b D aC 3 Q kc ks ck (vs_mem S) 28 [some (.ref 32), some (.int x), some (.int (nI k))] []) : ∀ n i : Nat, i ≤ k → k - i < n → has_i (S.1 33) x i = false → vs_G p l e R s m args below meth c b D aC 3 Q kc ks ck (vs_mem S) 2 [some (.ref 32), some (.int x), some (.int (nI i))] [] := by
  intro n
  induction n with
  | zero => intro i _ h; omega
  | succ n ih =>
    intro i hi hn hh
    refine vs_iload_n C rfl d_S_hasNumber_2 ?_
    refine vs_aload_n C rfl d_S_hasNumber_3 ?_
    refine vs_get C fl_S_19 d_S_hasNumber_4 rfl rfl ?_
    refine vs_icmp_ge (tgt := 28) C d_S_hasNumber_7 (by decide) (fun h1 => ?_) (fun h1 => ?_)
    · have h2 := n_ge (N := k) (i := i) h1 hk rfl (by omega) (by omega)
      obtain rfl : i = k := by omega
      exact K0 hh
    · have hlt := n_lt (N := k) (i := i) h1 hk rfl (by omega) (by omega)
      refine vs_aload_n C rfl d_S_hasNumber_10 ?_
      refine vs_get C fl_S_9 d_S_hasNumber_11 rfl rfl ?_
      refine vs_iload_n C rfl d_S_hasNumber_14 ?_
      refine vs_ialdN C d_S_hasNumber_15 rfl (rfl) ((by omega)) (by decide) ?_
      refine vs_iload_n C rfl d_S_hasNumber_16 ?_
      refine vs_icmp_ne (tgt := 22) C d_S_hasNumber_17 (by decide) (fun h2 => ?_) (fun h2 => ?_)
      · refine vs_iinc C d_S_hasNumber_22 rfl (nI_1 i) (by decide) ?_
        refine vs_goto (tgt := 2) C d_S_hasNumber_25 (by decide) ?_
        exact ih (i + 1) (by omega) (by omega) (by simp [has_i, hh, h2])
      · refine vs_iconst (v := 1) C (by decide) d_S_hasNumber_20 ?_
        exact K1 i (has_i_iff.mpr ⟨i, hlt, h2⟩)
end Segs
set_option maxRecDepth 100000 in
set_option maxHeartbeats 4000000 in
theorem k_S_allIds_Now (l : Launch) (b : Nat) (D : va_G) (aC : Nat → ClassId) (S : vs_S) (k : Nat) (hk : S.2.2.2.2.1 24 2 = nI k) (hk6 : k ≤ 6) : vs_M l b D aC false true y_S_allIds (.code y_S_allIds c_S_allIds 4 (Option.some Jvm.ClassFile.FieldType.long)) { frames := 0, cells := 0, slots := 0, locals := 0 } [.ref 24] (vs_mem S) (vs_ret (some (.long (or_l (S.2.1 26) k))) (vs_mem S)) := by
  refine vs_M.of (by decide) (Nat.le_of_ble_eq_true rfl) ?_
  intro p e s m args below meth c C hmn hr hx htg
  generalize hQ : vs_E below args s b D aC false true (vs_ret (some (.long (or_l (S.2.1 26) k))) (vs_mem S)) { frames := 0, cells := 0, slots := 0, locals := 0 } = Q
  refine vs_lconst (v := 0) C (by decide) d_S_allIds_0 ?_
  refine vs_lstore_n C d_S_allIds_1 (by decide) ?_
  refine vs_iconst (v := 0) C (by decide) d_S_allIds_2 ?_
  refine vs_istore_n C d_S_allIds_3 (by decide) ?_
  refine allNow C S k hk hk6 ?_ (k + 1) 0 (Nat.zero_le _) (by omega)
  refine vs_lload_n C rfl d_S_allIds_27 ?_
  subst hQ
  exact vs_lret C hr d_S_allIds_28 ⟨Nat.le_of_ble_eq_true rfl, Nat.le_of_ble_eq_true rfl⟩ (fun h => by cases h) (by first | exact (fun _ => rfl) | exact (fun h => by cases h)) (⟨rfl, rfl⟩)
set_option maxRecDepth 100000 in
set_option maxHeartbeats 4000000 in
theorem k_S_allIds_Seen (l : Launch) (b : Nat) (D : va_G) (aC : Nat → ClassId) (S : vs_S) (k : Nat) (hk : S.2.2.2.2.1 32 2 = nI k) (hk6 : k ≤ 6) : vs_M l b D aC false true y_S_allIds (.code y_S_allIds c_S_allIds 4 (Option.some Jvm.ClassFile.FieldType.long)) { frames := 0, cells := 0, slots := 0, locals := 0 } [.ref 32] (vs_mem S) (vs_ret (some (.long (or_l (S.2.1 34) k))) (vs_mem S)) := by
  refine vs_M.of (by decide) (Nat.le_of_ble_eq_true rfl) ?_
  intro p e s m args below meth c C hmn hr hx htg
  generalize hQ : vs_E below args s b D aC false true (vs_ret (some (.long (or_l (S.2.1 34) k))) (vs_mem S)) { frames := 0, cells := 0, slots := 0, locals := 0 } = Q
  refine vs_lconst (v := 0) C (by decide) d_S_allIds_0 ?_
  refine vs_lstore_n C d_S_allIds_1 (by decide) ?_
  refine vs_iconst (v := 0) C (by decide) d_S_allIds_2 ?_
  refine vs_istore_n C d_S_allIds_3 (by decide) ?_
  refine allSeen C S k hk hk6 ?_ (k + 1) 0 (Nat.zero_le _) (by omega)
  refine vs_lload_n C rfl d_S_allIds_27 ?_
  subst hQ
  exact vs_lret C hr d_S_allIds_28 ⟨Nat.le_of_ble_eq_true rfl, Nat.le_of_ble_eq_true rfl⟩ (fun h => by cases h) (by first | exact (fun _ => rfl) | exact (fun h => by cases h)) (⟨rfl, rfl⟩)
set_option maxRecDepth 100000 in
set_option maxHeartbeats 4000000 in
theorem k_S_hasNumber (l : Launch) (b : Nat) (D : va_G) (aC : Nat → ClassId) (S : vs_S) (x : Int32) (k : Nat) (hk : (S.2.2.2.2.1 32 2) = nI k) (hk6 : k ≤ 6) : vs_M l b D aC false true y_S_hasNumber (.code y_S_hasNumber c_S_hasNumber 3 (Option.some Jvm.ClassFile.FieldType.boolean)) { frames := 0, cells := 0, slots := 0, locals := 0 } [.ref 32, .int x] (vs_mem S) (vs_ret (some (.int (b01 (has_i (S.1 33) x k = true)))) (vs_mem S)) := by
  refine vs_M.of (by decide) (Nat.le_of_ble_eq_true rfl) ?_
  intro p e s m args below meth c C hmn hr hx htg
  generalize hQ : vs_E below args s b D aC false true (vs_ret (some (.int (b01 (has_i (S.1 33) x k = true)))) (vs_mem S)) { frames := 0, cells := 0, slots := 0, locals := 0 } = Q
  refine vs_iconst (v := 0) C (by decide) d_S_hasNumber_0 ?_
  refine vs_istore_n C d_S_hasNumber_1 (by decide) ?_
  refine hasNum C S x k hk hk6 (fun i h => ?_) (fun h => ?_) (k + 1) 0 (Nat.zero_le _) (by omega) rfl
  · subst hQ
    exact vs_zret C hr (by rfl) d_S_hasNumber_21 ⟨Nat.le_of_ble_eq_true rfl, Nat.le_of_ble_eq_true rfl⟩ (fun h => by cases h) (by first | exact (fun _ => rfl) | exact (fun h => by cases h)) (vs_rti (b01_t h).symm)
  · refine vs_iconst (v := 0) C (by decide) d_S_hasNumber_28 ?_
    subst hQ
    exact vs_zret C hr (by rfl) d_S_hasNumber_29 ⟨Nat.le_of_ble_eq_true rfl, Nat.le_of_ble_eq_true rfl⟩ (fun h => by cases h) (by first | exact (fun _ => rfl) | exact (fun h => by cases h)) (vs_rti (b01_f (by rw [h]; decide)).symm)
def cpS (S : vs_S) : vs_S := vs_ui (vs_uL (vs_uI S 33 (va_cpy (S.1 25) (S.1 33) 0 0 6)) 34 (va_cpy (S.2.1 26) (S.2.1 34) 0 0 6)) 32 2 (S.2.2.2.2.1 24 2)
set_option maxRecDepth 100000 in
set_option maxHeartbeats 4000000 in
theorem k_S_takeOver (l : Launch) (b : Nat) (D : va_G) (aC : Nat → ClassId) (S : vs_S)  : vs_M l b D aC false false y_S_takeOver (.code y_S_takeOver c_S_takeOver 2 (Option.none : Option Jvm.ClassFile.FieldType)) { frames := 1, cells := 0, slots := 0, locals := 60 } [.ref 32, .ref 24] (vs_mem S) (vs_ret none (vs_mem (cpS S))) := by
  refine vs_M.of (by decide) (Nat.le_of_ble_eq_true rfl) ?_
  intro p e s m args below meth c C hmn hr hx htg
  generalize hQ : vs_E below args s b D aC false false (vs_ret none (vs_mem (cpS S))) { frames := 1, cells := 0, slots := 0, locals := 60 } = Q
  refine vs_aload_n C rfl d_S_takeOver_0 ?_
  refine vs_get C fl_S_9 d_S_takeOver_1 rfl rfl ?_
  refine vs_iconst (v := 0) C (by decide) d_S_takeOver_4 ?_
  refine vs_aload_n C rfl d_S_takeOver_5 ?_
  refine vs_get C fl_S_9 d_S_takeOver_6 rfl rfl ?_
  refine vs_iconst (v := 0) C (by decide) d_S_takeOver_9 ?_
  refine vs_bipush (v := 6) C (by decide) d_S_takeOver_10 ?_
  refine vs_copyi C w_277 d_S_takeOver_12 rfl rfl (by decide) (by decide) (by decide) (by decide) (by decide) (by exact ⟨Nat.le_of_ble_eq_true rfl, Nat.le_of_ble_eq_true rfl⟩) ?_
  refine vs_aload_n C rfl d_S_takeOver_15 ?_
  refine vs_get C fl_S_15 d_S_takeOver_16 rfl rfl ?_
  refine vs_iconst (v := 0) C (by decide) d_S_takeOver_19 ?_
  refine vs_aload_n C rfl d_S_takeOver_20 ?_
  refine vs_get C fl_S_15 d_S_takeOver_21 rfl rfl ?_
  refine vs_iconst (v := 0) C (by decide) d_S_takeOver_24 ?_
  refine vs_bipush (v := 6) C (by decide) d_S_takeOver_25 ?_
  refine vs_copyl C w_277 d_S_takeOver_27 rfl rfl (by decide) (by decide) (by decide) (by decide) (by decide) (by exact ⟨Nat.le_of_ble_eq_true rfl, Nat.le_of_ble_eq_true rfl⟩) ?_
  refine vs_aload_n C rfl d_S_takeOver_30 ?_
  refine vs_aload_n C rfl d_S_takeOver_31 ?_
  refine vs_get C fl_S_19 d_S_takeOver_32 rfl rfl ?_
  refine vs_put C fl_S_19 d_S_takeOver_35 rfl rfl rfl (Nat.le_of_ble_eq_true rfl) ?_
  subst hQ
  exact vs_vret C hr d_S_takeOver_38 ⟨Nat.le_of_ble_eq_true rfl, Nat.le_of_ble_eq_true rfl⟩ (fun h => by cases h) (by first | exact (fun _ => rfl) | exact (fun h => by cases h)) (⟨rfl, rfl⟩)
set_option maxRecDepth 100000 in
set_option maxHeartbeats 4000000 in
theorem k_V_livingIds (l : Launch) (b : Nat) (D : va_G) (aC : Nat → ClassId) (S : vs_S) (k : Nat) (hk : (S.2.2.2.2.1 32 2) = nI k) (hk6 : k ≤ 6) : vs_M l b D aC false true y_V_livingIds (.code y_V_livingIds c_V_livingIds 1 (Option.some Jvm.ClassFile.FieldType.long)) { frames := 1, cells := 0, slots := 0, locals := 23 } [.ref 27] (vs_mem S) (vs_ret (some (.long (or_l (S.2.1 34) k &&& ((S.2.2.2.2.2 27 2) ^^^ (-1))))) (vs_mem S)) := by
  refine vs_M.of (by decide) (Nat.le_of_ble_eq_true rfl) ?_
  intro p e s m args below meth c C hmn hr hx htg
  generalize hQ : vs_E below args s b D aC false true (vs_ret (some (.long (or_l (S.2.1 34) k &&& ((S.2.2.2.2.2 27 2) ^^^ (-1))))) (vs_mem S)) { frames := 1, cells := 0, slots := 0, locals := 23 } = Q
  refine vs_aload_n C rfl d_V_livingIds_0 ?_
  refine vs_get C fl_V_19 d_V_livingIds_1 rfl rfl ?_
  refine vs_cV C (k_S_allIds_Seen l b D aC S k hk hk6) yk_S_allIds ml_V_27 im_S_allIds se_S_allIds d_V_livingIds_4 rfl rfl rfl rfl (by exact Nat.le_of_ble_eq_true rfl) (by exact ⟨Nat.le_of_ble_eq_true rfl, Nat.le_of_ble_eq_true rfl⟩) (by exact ⟨Nat.le_of_ble_eq_true rfl, Nat.le_of_ble_eq_true rfl⟩) (fun h => by cases h) ?_
  refine vs_aload_n C rfl d_V_livingIds_7 ?_
  refine vs_get C fl_V_23 d_V_livingIds_8 rfl rfl ?_
  refine vs_ldc2 C w_295 d_V_livingIds_11 ?_
  refine vs_lxor C d_V_livingIds_14 ?_
  refine vs_land C d_V_livingIds_15 ?_
  subst hQ
  exact vs_lret C hr d_V_livingIds_16 ⟨Nat.le_of_ble_eq_true rfl, Nat.le_of_ble_eq_true rfl⟩ (fun h => by cases h) (by first | exact (fun _ => rfl) | exact (fun h => by cases h)) (⟨rfl, rfl⟩)
def cpV (S : vs_S) : vs_S := vs_ul (cpS (cp16 S)) 27 2 (S.2.2.2.2.2 19 2)
set_option maxRecDepth 100000 in
set_option maxHeartbeats 4000000 in
theorem k_V_takeOver (l : Launch) (b : Nat) (D : va_G) (aC : Nat → ClassId) (S : vs_S)  : vs_M l b D aC false false y_V_takeOver (.code y_V_takeOver c_V_takeOver 2 (Option.none : Option Jvm.ClassFile.FieldType)) { frames := 2, cells := 0, slots := 0, locals := 81 } [.ref 27, .ref 19] (vs_mem S) (vs_ret none (vs_mem (cpV S))) := by
  refine vs_M.of (by decide) (Nat.le_of_ble_eq_true rfl) ?_
  intro p e s m args below meth c C hmn hr hx htg
  generalize hQ : vs_E below args s b D aC false false (vs_ret none (vs_mem (cpV S))) { frames := 2, cells := 0, slots := 0, locals := 81 } = Q
  refine vs_aload_n C rfl d_V_takeOver_0 ?_
  refine vs_get C fl_V_10 d_V_takeOver_1 rfl rfl ?_
  refine vs_aload_n C rfl d_V_takeOver_4 ?_
  refine vs_get C fl_V_10 d_V_takeOver_5 rfl rfl ?_
  refine vs_cV C (k_R_takeOver l b D aC S) yk_R_takeOver ml_V_33 im_R_takeOver se_R_takeOver d_V_takeOver_8 rfl rfl rfl rfl (by exact Nat.le_of_ble_eq_true rfl) (by exact ⟨Nat.le_of_ble_eq_true rfl, Nat.le_of_ble_eq_true rfl⟩) (by exact ⟨Nat.le_of_ble_eq_true rfl, Nat.le_of_ble_eq_true rfl⟩) (fun h => by cases h) ?_
  refine vs_aload_n C rfl d_V_takeOver_11 ?_
  refine vs_get C fl_V_19 d_V_takeOver_12 rfl rfl ?_
  refine vs_aload_n C rfl d_V_takeOver_15 ?_
  refine vs_get C fl_V_19 d_V_takeOver_16 rfl rfl ?_
  refine vs_cV C (k_S_takeOver l b D aC (cp16 S)) yk_S_takeOver ml_V_37 im_S_takeOver se_S_takeOver d_V_takeOver_19 rfl rfl rfl rfl (by exact Nat.le_of_ble_eq_true rfl) (by exact ⟨Nat.le_of_ble_eq_true rfl, Nat.le_of_ble_eq_true rfl⟩) (by exact ⟨Nat.le_of_ble_eq_true rfl, Nat.le_of_ble_eq_true rfl⟩) (fun h => by cases h) ?_
  refine vs_aload_n C rfl d_V_takeOver_22 ?_
  refine vs_aload_n C rfl d_V_takeOver_23 ?_
  refine vs_get C fl_V_23 d_V_takeOver_24 rfl rfl ?_
  refine vs_put C fl_V_23 d_V_takeOver_27 rfl rfl rfl (Nat.le_of_ble_eq_true rfl) ?_
  subst hQ
  exact vs_vret C hr d_V_takeOver_30 ⟨Nat.le_of_ble_eq_true rfl, Nat.le_of_ble_eq_true rfl⟩ (fun h => by cases h) (by first | exact (fun _ => rfl) | exact (fun h => by cases h)) (⟨rfl, rfl⟩)

