def later (tm fl : Nat → Int32) (i : Nat) (t f : Int32) : Bool := decide (t < tm i) || (decide (tm i = t) && decide (f < fl i))
set_option maxRecDepth 100000 in
set_option maxHeartbeats 4000000 in
theorem k_Q_comesLater (l : Launch) (b : Nat) (D : va_G) (aC : Nat → ClassId) (S : vs_S) (i : Nat) (t f : Int32) (hi : i < 6) : vs_M l b D aC false true y_Q_comesLater (.code y_Q_comesLater c_Q_comesLater 4 (Option.some Jvm.ClassFile.FieldType.boolean)) { frames := 0, cells := 0, slots := 0, locals := 0 } [.ref 10, .int (nI i), .int t, .int f] (vs_mem S) (vs_ret (some (.int (b01 (later (S.1 12) (S.1 13) i t f = true)))) (vs_mem S)) := by
  refine vs_M.of (by decide) (Nat.le_of_ble_eq_true rfl) ?_
  intro p e s m args below meth c C hmn hr hx htg
  generalize hQ : vs_E below args s b D aC false true (vs_ret (some (.int (b01 (later (S.1 12) (S.1 13) i t f = true)))) (vs_mem S)) { frames := 0, cells := 0, slots := 0, locals := 0 } = Q
  refine vs_aload_n C rfl d_Q_comesLater_0 ?_
  refine vs_get C fl_Q_15 d_Q_comesLater_1 rfl rfl ?_
  refine vs_iload_n C rfl d_Q_comesLater_4 ?_
  refine vs_ialdN C d_Q_comesLater_5 rfl (rfl) (hi) (by decide) ?_
  refine vs_iload_n C rfl d_Q_comesLater_6 ?_
  refine vs_icmp_gt (tgt := 30) C d_Q_comesLater_7 (by decide) (fun h1 => ?_) (fun h1 => ?_)
  · refine vs_iconst (v := 1) C (by decide) d_Q_comesLater_30 ?_
    refine vs_goto (tgt := 35) C d_Q_comesLater_31 (by decide) ?_
    subst hQ
    exact vs_zret C hr (by rfl) d_Q_comesLater_35 ⟨Nat.le_of_ble_eq_true rfl, Nat.le_of_ble_eq_true rfl⟩ (fun h => by cases h) (by first | exact (fun _ => rfl) | exact (fun h => by cases h)) (vs_rti (b01_t (by simp only [later, Bool.or_eq_true, Bool.and_eq_true, decide_eq_true_eq]; exact Or.inl h1)).symm)
  · refine vs_aload_n C rfl d_Q_comesLater_10 ?_
    refine vs_get C fl_Q_15 d_Q_comesLater_11 rfl rfl ?_
    refine vs_iload_n C rfl d_Q_comesLater_14 ?_
    refine vs_ialdN C d_Q_comesLater_15 rfl (rfl) (hi) (by decide) ?_
    refine vs_iload_n C rfl d_Q_comesLater_16 ?_
    refine vs_icmp_ne (tgt := 34) C d_Q_comesLater_17 (by decide) (fun h2 => ?_) (fun h2 => ?_)
    · refine vs_iconst (v := 0) C (by decide) d_Q_comesLater_34 ?_
      subst hQ
      exact vs_zret C hr (by rfl) d_Q_comesLater_35 ⟨Nat.le_of_ble_eq_true rfl, Nat.le_of_ble_eq_true rfl⟩ (fun h => by cases h) (by first | exact (fun _ => rfl) | exact (fun h => by cases h)) (vs_rti (b01_f (by simp only [later, Bool.or_eq_true, Bool.and_eq_true, decide_eq_true_eq]; rintro (h | h); exact h1 h; exact h2 h.1)).symm)
    · refine vs_aload_n C rfl d_Q_comesLater_20 ?_
      refine vs_get C fl_Q_18 d_Q_comesLater_21 rfl rfl ?_
      refine vs_iload_n C rfl d_Q_comesLater_24 ?_
      refine vs_ialdN C d_Q_comesLater_25 rfl (rfl) (hi) (by decide) ?_
      refine vs_iload_n C rfl d_Q_comesLater_26 ?_
      refine vs_icmp_le (tgt := 34) C d_Q_comesLater_27 (by decide) (fun h3 => ?_) (fun h3 => ?_)
      · refine vs_iconst (v := 0) C (by decide) d_Q_comesLater_34 ?_
        subst hQ
        exact vs_zret C hr (by rfl) d_Q_comesLater_35 ⟨Nat.le_of_ble_eq_true rfl, Nat.le_of_ble_eq_true rfl⟩ (fun h => by cases h) (by first | exact (fun _ => rfl) | exact (fun h => by cases h)) (vs_rti (b01_f (by simp only [later, Bool.or_eq_true, Bool.and_eq_true, decide_eq_true_eq]; rintro (h | h); exact h1 h; exact absurd h3 (Int32.not_le.mpr h.2))).symm)
      · refine vs_iconst (v := 1) C (by decide) d_Q_comesLater_30 ?_
        refine vs_goto (tgt := 35) C d_Q_comesLater_31 (by decide) ?_
        subst hQ
        exact vs_zret C hr (by rfl) d_Q_comesLater_35 ⟨Nat.le_of_ble_eq_true rfl, Nat.le_of_ble_eq_true rfl⟩ (fun h => by cases h) (by first | exact (fun _ => rfl) | exact (fun h => by cases h)) (vs_rti (b01_t (by simp only [later, Bool.or_eq_true, Bool.and_eq_true, decide_eq_true_eq]; exact Or.inr ⟨h2, Int32.not_le.mp h3⟩)).symm)
def qMv (S : vs_S) (i j : Nat) : vs_S := vs_uF (vs_uI (vs_uI (vs_uI S 11 (upd (S.1 11) j (S.1 11 i))) 12 (upd (S.1 12) j (S.1 12 i))) 13 (upd (S.1 13) j (S.1 13 i))) 14 (vf_upd (S.2.2.1 14) j (S.2.2.1 14 i))
set_option maxRecDepth 100000 in
set_option maxHeartbeats 4000000 in
theorem k_Q_move (l : Launch) (b : Nat) (D : va_G) (aC : Nat → ClassId) (S : vs_S) (i j : Nat) (hi : i < 6) (hj : j < 6) : vs_M l b D aC false false y_Q_move (.code y_Q_move c_Q_move 3 (Option.none : Option Jvm.ClassFile.FieldType)) { frames := 0, cells := 0, slots := 0, locals := 0 } [.ref 10, .int (nI i), .int (nI j)] (vs_mem S) (vs_ret none (vs_mem (qMv S i j))) := by
  refine vs_M.of (by decide) (Nat.le_of_ble_eq_true rfl) ?_
  intro p e s m args below meth c C hmn hr hx htg
  generalize hQ : vs_E below args s b D aC false false (vs_ret none (vs_mem (qMv S i j))) { frames := 0, cells := 0, slots := 0, locals := 0 } = Q
  refine vs_aload_n C rfl d_Q_move_0 ?_
  refine vs_get C fl_Q_9 d_Q_move_1 rfl rfl ?_
  refine vs_iload_n C rfl d_Q_move_4 ?_
  refine vs_aload_n C rfl d_Q_move_5 ?_
  refine vs_get C fl_Q_9 d_Q_move_6 rfl rfl ?_
  refine vs_iload_n C rfl d_Q_move_9 ?_
  refine vs_ialdN C d_Q_move_10 rfl (rfl) (hi) (by decide) ?_
  refine vs_iastN C d_Q_move_11 rfl (rfl) (hj) (by decide) ?_
  refine vs_aload_n C rfl d_Q_move_12 ?_
  refine vs_get C fl_Q_15 d_Q_move_13 rfl rfl ?_
  refine vs_iload_n C rfl d_Q_move_16 ?_
  refine vs_aload_n C rfl d_Q_move_17 ?_
  refine vs_get C fl_Q_15 d_Q_move_18 rfl rfl ?_
  refine vs_iload_n C rfl d_Q_move_21 ?_
  refine vs_ialdN C d_Q_move_22 rfl (rfl) (hi) (by decide) ?_
  refine vs_iastN C d_Q_move_23 rfl (rfl) (hj) (by decide) ?_
  refine vs_aload_n C rfl d_Q_move_24 ?_
  refine vs_get C fl_Q_18 d_Q_move_25 rfl rfl ?_
  refine vs_iload_n C rfl d_Q_move_28 ?_
  refine vs_aload_n C rfl d_Q_move_29 ?_
  refine vs_get C fl_Q_18 d_Q_move_30 rfl rfl ?_
  refine vs_iload_n C rfl d_Q_move_33 ?_
  refine vs_ialdN C d_Q_move_34 rfl (rfl) (hi) (by decide) ?_
  refine vs_iastN C d_Q_move_35 rfl (rfl) (hj) (by decide) ?_
  refine vs_aload_n C rfl d_Q_move_36 ?_
  refine vs_get C fl_Q_21 d_Q_move_37 rfl rfl ?_
  refine vs_iload_n C rfl d_Q_move_40 ?_
  refine vs_aload_n C rfl d_Q_move_41 ?_
  refine vs_get C fl_Q_21 d_Q_move_42 rfl rfl ?_
  refine vs_iload_n C rfl d_Q_move_45 ?_
  refine vs_faldN C d_Q_move_46 rfl (rfl) (hi) (by decide) ?_
  refine vs_fastN C d_Q_move_47 rfl (rfl) (hj) (by decide) ?_
  subst hQ
  exact vs_vret C hr d_Q_move_48 ⟨Nat.le_of_ble_eq_true rfl, Nat.le_of_ble_eq_true rfl⟩ (fun h => by cases h) (by first | exact (fun _ => rfl) | exact (fun h => by cases h)) (⟨rfl, rfl⟩)
/-- the place for (t, f), what comes later moved up -/
def qI (t f : Int32) : Nat → vs_S → Nat × vs_S
  | 0, S => (0, S)
  | i + 1, S => if later (S.1 12) (S.1 13) i t f = true then qI t f i (qMv S i (i + 1)) else (i + 1, S)
def qSet (S : vs_S) (q : Nat) (s t f : Int32) (w : UInt32) : vs_S := vs_ui (vs_uF (vs_uI (vs_uI (vs_uI S 11 (upd (S.1 11) q s)) 12 (upd (S.1 12) q t)) 13 (upd (S.1 13) q f)) 14 (vf_upd (S.2.2.1 14) q w)) 10 6 ((S.2.2.2.2.1 10 6) + 1)
theorem qI_le (t f : Int32) : ∀ (i : Nat) (S : vs_S), (qI t f i S).1 ≤ i
  | 0, S => Nat.le_refl _
  | i + 1, S => by
    simp only [qI]
    by_cases h : later (S.1 12) (S.1 13) i t f = true
    · rw [if_pos h]
      exact Nat.le_succ_of_le (qI_le t f i _)
    · rw [if_neg h]
      exact Nat.le_refl _
section Ins
variable {p : Program} {l : Launch} {e : Env} {R : Room} {s : State} {m : MethodId} {args : Array Value} {below : List Frame} {meth : Method} {c : Code} {b : Nat} {D : va_G} {aC : Nat → ClassId} {Q : State → Prop} {kc ks : Nat} {ck : Bool}
theorem ins_l (C : vs_X p s m args meth c b D aC "VeilSearch$Query" c_Q_insert 6) (s0 t f : Int32) (w : UInt32) : ∀ (i : Nat) (S : vs_S), i ≤ 5 → vs_G p l e { frames := 1, cells := 0, slots := 0, locals := 23 } s m args below meth c b D aC 6 Q 0 0 false (vs_mem (qI t f i S).2) 40 [some (.ref 10), some (.int s0), some (.int t), some (.int f), some (.float w), some (.int (nI (qI t f i S).1))] [] → vs_G p l e { frames := 1, cells := 0, slots := 0, locals := 23 } s m args below meth c b D aC 6 Q 0 0 false (vs_mem S) 6 [some (.ref 10), some (.int s0), some (.int t), some (.int f), some (.float w), some (.int (nI i))] [] := by
  intro i
  induction i with
  | zero =>
    intro S hi hK
    refine vs_iload C rfl d_Q_insert_6 ?_
    refine vs_if_le (tgt := 40) C d_Q_insert_8 (by decide) (fun h1 => ?_) (fun h1 => ?_)
    · exact hK
    · exact absurd (Int32.le_refl _) h1
  | succ i ih =>
    intro S hi hK
    refine vs_iload C rfl d_Q_insert_6 ?_
    refine vs_if_le (tgt := 40) C d_Q_insert_8 (by decide) (fun h1 => ?_) (fun h1 => ?_)
    · exact absurd h1 (nI_nle (by omega) (by omega))
    · refine vs_aload_n C rfl d_Q_insert_11 ?_
      refine vs_iload C rfl d_Q_insert_12 ?_
      refine vs_iconst (v := 1) C (by decide) d_Q_insert_14 ?_
      refine vs_isub C d_Q_insert_15 ?_
      refine vs_iload_n C rfl d_Q_insert_16 ?_
      refine vs_iload_n C rfl d_Q_insert_17 ?_
      refine vs_st_eq (st2 := [.int f, .int t, .int (nI i), .ref 10]) (by rw [← nI_pred i] <;> rfl) ?_
      refine vs_cV C (k_Q_comesLater l b D aC S i t f (by omega)) yk_Q_comesLater ml_Q_37 im_Q_comesLater se_Q_comesLater d_Q_insert_18 rfl rfl rfl rfl (by exact Nat.le_of_ble_eq_true rfl) (by exact ⟨Nat.le_of_ble_eq_true rfl, Nat.le_of_ble_eq_true rfl⟩) (by exact ⟨Nat.le_of_ble_eq_true rfl, Nat.le_of_ble_eq_true rfl⟩) (fun h => by cases h) ?_
      refine vs_if_eq (tgt := 40) C d_Q_insert_21 (by decide) (fun h2 => ?_) (fun h2 => ?_)
      · have e : qI t f (i + 1) S = (i + 1, S) := if_neg (b01_0.mp h2)
        rw [e] at hK
        exact hK
      · have e : qI t f (i + 1) S = qI t f i (qMv S i (i + 1)) := if_pos (Decidable.not_not.mp (fun h => h2 (b01_f h)))
        refine vs_aload_n C rfl d_Q_insert_24 ?_
        refine vs_iload C rfl d_Q_insert_25 ?_
        refine vs_iconst (v := 1) C (by decide) d_Q_insert_27 ?_
        refine vs_isub C d_Q_insert_28 ?_
        refine vs_iload C rfl d_Q_insert_29 ?_
        refine vs_st_eq (st2 := [.int (nI (i + 1)), .int (nI i), .ref 10]) (by rw [← nI_pred i] <;> rfl) ?_
        refine vs_cV C (k_Q_move l b D aC S i (i + 1) (by omega) (by omega)) yk_Q_move ml_Q_41 im_Q_move se_Q_move d_Q_insert_31 rfl rfl rfl rfl (by exact Nat.le_of_ble_eq_true rfl) (by exact ⟨Nat.le_of_ble_eq_true rfl, Nat.le_of_ble_eq_true rfl⟩) (by exact ⟨Nat.le_of_ble_eq_true rfl, Nat.le_of_ble_eq_true rfl⟩) (fun h => by cases h) ?_
        refine vs_iinc C d_Q_insert_34 rfl ((show nI (i + 1) + Int32.ofInt (-1) = nI i by rw [dec1]; exact nI_pred i)) (by decide) ?_
        refine vs_goto (tgt := 6) C d_Q_insert_37 (by decide) ?_
        refine vs_ck (ih (qMv S i (i + 1)) (by omega) ?_)
        rw [e] at hK
        exact hK
end Ins
set_option maxRecDepth 100000 in
set_option maxHeartbeats 4000000 in
theorem k_Q_insert (l : Launch) (b : Nat) (D : va_G) (aC : Nat → ClassId) (S : vs_S) (k : Nat) (s0 t f : Int32) (w : UInt32) (hk : (S.2.2.2.2.1 10 6) = nI k) (hk6 : k < 6) : vs_M l b D aC false false y_Q_insert (.code y_Q_insert c_Q_insert 6 (Option.none : Option Jvm.ClassFile.FieldType)) { frames := 1, cells := 0, slots := 0, locals := 23 } [.ref 10, .int s0, .int t, .int f, .float w] (vs_mem S) (vs_ret none (vs_mem (qSet (qI t f k S).2 (qI t f k S).1 s0 t f w))) := by
  refine vs_M.of (by decide) (Nat.le_of_ble_eq_true rfl) ?_
  intro p e s m args below meth c C hmn hr hx htg
  generalize hQ : vs_E below args s b D aC false false (vs_ret none (vs_mem (qSet (qI t f k S).2 (qI t f k S).1 s0 t f w))) { frames := 1, cells := 0, slots := 0, locals := 23 } = Q
  refine vs_aload_n C rfl d_Q_insert_0 ?_
  refine vs_get C fl_Q_33 d_Q_insert_1 rfl rfl ?_
  refine vs_istore C d_Q_insert_4 (by decide) ?_
  refine vs_ck (vs_lv_eq (lv2 := [some (.ref 10), some (.int s0), some (.int t), some (.int f), some (.float w), some (.int (nI k))]) (by rw [← hk]; rfl) (ins_l C s0 t f w k S (by omega) ?_))
  have hle := qI_le t f k S
  generalize qI t f k S = q at hQ hle ⊢
  refine vs_aload_n C rfl d_Q_insert_40 ?_
  refine vs_get C fl_Q_9 d_Q_insert_41 rfl rfl ?_
  refine vs_iload C rfl d_Q_insert_44 ?_
  refine vs_iload_n C rfl d_Q_insert_46 ?_
  refine vs_iastN C d_Q_insert_47 rfl (rfl) ((by omega)) (by decide) ?_
  refine vs_aload_n C rfl d_Q_insert_48 ?_
  refine vs_get C fl_Q_15 d_Q_insert_49 rfl rfl ?_
  refine vs_iload C rfl d_Q_insert_52 ?_
  refine vs_iload_n C rfl d_Q_insert_54 ?_
  refine vs_iastN C d_Q_insert_55 rfl (rfl) ((by omega)) (by decide) ?_
  refine vs_aload_n C rfl d_Q_insert_56 ?_
  refine vs_get C fl_Q_18 d_Q_insert_57 rfl rfl ?_
  refine vs_iload C rfl d_Q_insert_60 ?_
  refine vs_iload_n C rfl d_Q_insert_62 ?_
  refine vs_iastN C d_Q_insert_63 rfl (rfl) ((by omega)) (by decide) ?_
  refine vs_aload_n C rfl d_Q_insert_64 ?_
  refine vs_get C fl_Q_21 d_Q_insert_65 rfl rfl ?_
  refine vs_iload C rfl d_Q_insert_68 ?_
  refine vs_fload C rfl d_Q_insert_70 ?_
  refine vs_fastN C d_Q_insert_72 rfl (rfl) ((by omega)) (by decide) ?_
  refine vs_aload_n C rfl d_Q_insert_73 ?_
  refine vs_dup C rfl d_Q_insert_74 ?_
  refine vs_get C fl_Q_33 d_Q_insert_75 rfl rfl ?_
  refine vs_iconst (v := 1) C (by decide) d_Q_insert_78 ?_
  refine vs_iadd C d_Q_insert_79 ?_
  refine vs_put C fl_Q_33 d_Q_insert_80 rfl rfl rfl (Nat.le_of_ble_eq_true rfl) ?_
  subst hQ
  exact vs_vret C hr d_Q_insert_83 ⟨Nat.le_of_ble_eq_true rfl, Nat.le_of_ble_eq_true rfl⟩ (fun h => by cases h) (by first | exact (fun _ => rfl) | exact (fun h => by cases h)) (⟨rfl, rfl⟩)
/-- OPEN, CLAUSE by CLAUSE; a MUST that isn't -/
def opF (S : vs_S) (u i : Nat) : Nat → Int32 := fun j => if j < i then b01 (¬ S.1 31 u < S.1 30 (S.1 13 j).toNatClampNeg) else S.1 15 j
def vmF (S : vs_S) (u : Nat) : Nat → Int32
  | 0 => 0
  | i + 1 => if (b01 (¬ S.1 31 u < S.1 30 (S.1 13 i).toNatClampNeg) = 0 ∧ S.1 11 i = 1) then 1 else vmF S u i
def qOp (S : vs_S) (u i : Nat) : vs_S := vs_ui (vs_uI S 15 (opF S u i)) 10 5 (vmF S u i)
theorem nar01 {c : Prop} [Decidable c] : vp_nar .boolean (b01 c) = b01 c := by
  by_cases h : c
  · rw [b01_t h]; rfl
  · rw [b01_f h]; rfl
theorem opF_s {S : vs_S} {u i f : Nat} (hf : S.1 13 i = nI f) (hf3 : f < 3) : upd (opF S u i) i (b01 (¬ S.1 31 u < S.1 30 f)) = opF S u (i + 1) := by
  funext j
  simp only [upd, opF]
  by_cases h1 : j = i
  · subst h1
    rw [if_pos rfl, if_pos (by omega), hf, nI_clamp (by omega)]
  · rw [if_neg h1]
    by_cases h2 : j < i
    · rw [if_pos h2, if_pos (by omega)]
    · rw [if_neg h2, if_neg (by omega)]
section Op
variable {p : Program} {l : Launch} {e : Env} {R : Room} {s : State} {m : MethodId} {args : Array Value} {below : List Frame} {meth : Method} {c : Code} {b : Nat} {D : va_G} {aC : Nat → ClassId} {Q : State → Prop} {kc ks : Nat} {ck : Bool}
theorem op_l (C : vs_X p s m args meth c b D aC "VeilSearch$Query" c_Q_openFor 4) (S : vs_S) (u k : Nat) (hu : u < 8) (hk : (S.2.2.2.2.1 10 6) = nI k) (hk6 : k ≤ 6) (hfl : ∀ i, i < k → ∃ f, f < 3 ∧ S.1 13 i = nI f) (K : vs_G p l e { frames := 1, cells := 0, slots := 0, locals := 22 } s m args below meth c b D aC 4 Q 0 0 false (vs_mem (qOp S u k)) 62 [some (.ref 10), some (.int (nI u)), some (.ref 28), some (.int (nI k))] []) : ∀ n i : Nat, i ≤ k → k - i < n → vs_G p l e { frames := 1, cells := 0, slots := 0, locals := 22 } s m args below meth c b D aC 4 Q 0 0 false (vs_mem (qOp S u i)) 7 [some (.ref 10), some (.int (nI u)), some (.ref 28), some (.int (nI i))] [] := by
  intro n
  induction n with
  | zero => intro i _ h; omega
  | succ n ih =>
    intro i hi hn
    refine vs_iload_n C rfl d_Q_openFor_7 ?_
    refine vs_aload_n C rfl d_Q_openFor_8 ?_
    refine vs_get C fl_Q_33 d_Q_openFor_9 rfl rfl ?_
    refine vs_icmp_ge (tgt := 62) C d_Q_openFor_12 (by decide) (fun h1 => ?_) (fun h1 => ?_)
    · have h2 := n_ge (N := k) (i := i) h1 hk rfl (by omega) (by omega)
      obtain rfl : i = k := by omega
      exact K
    · have hlt := n_lt (N := k) (i := i) h1 hk rfl (by omega) (by omega)
      obtain ⟨f, hf3, hf⟩ := hfl i hlt
      refine vs_aload_n C rfl d_Q_openFor_15 ?_
      refine vs_get C fl_Q_25 d_Q_openFor_16 rfl rfl ?_
      refine vs_iload_n C rfl d_Q_openFor_19 ?_
      refine vs_aload_n C rfl d_Q_openFor_20 ?_
      refine vs_aload_n C rfl d_Q_openFor_21 ?_
      refine vs_get C fl_Q_18 d_Q_openFor_22 rfl rfl ?_
      refine vs_iload_n C rfl d_Q_openFor_25 ?_
      refine vs_ialdN C d_Q_openFor_26 rfl (rfl) ((by omega)) (by decide) ?_
      refine vs_iload_n C rfl d_Q_openFor_27 ?_
      refine vs_st_eq (st2 := [.int (nI u), .int (nI f), .ref 28, .int (nI i), .ref 15]) (by rw [← hf]; rfl) ?_
      refine vs_cV C (k_R_isOpen l b D aC (qOp S u i) f u hf3 hu) yk_R_isOpen ml_Q_45 im_R_isOpen se_R_isOpen d_Q_openFor_28 rfl rfl rfl rfl (by exact Nat.le_of_ble_eq_true rfl) (by exact ⟨Nat.le_of_ble_eq_true rfl, Nat.le_of_ble_eq_true rfl⟩) (by exact ⟨Nat.le_of_ble_eq_true rfl, Nat.le_of_ble_eq_true rfl⟩) (fun h => by cases h) ?_
      refine vs_zastN C d_Q_openFor_31 rfl (rfl) ((by omega)) (by decide) ?_
      refine vs_mem_eq (mem2 := vs_mem (vs_ui (vs_uI S 15 (opF S u (i + 1))) 10 5 (vmF S u i))) (by rw [← opF_s hf hf3, ← nar01]; rfl) ?_
      have ho : opF S u (i + 1) i = b01 (¬ S.1 31 u < S.1 30 (S.1 13 i).toNatClampNeg) := by simp only [opF]; rw [if_pos (by omega)]
      refine vs_aload_n C rfl d_Q_openFor_32 ?_
      refine vs_get C fl_Q_25 d_Q_openFor_33 rfl rfl ?_
      refine vs_iload_n C rfl d_Q_openFor_36 ?_
      refine vs_zaldN C d_Q_openFor_37 rfl (rfl) ((by omega)) (by decide) ?_
      have hgo : ∀ v : Int32, v = vmF S u (i + 1) → vs_G p l e { frames := 1, cells := 0, slots := 0, locals := 22 } s m args below meth c b D aC 4 Q 0 0 false (vs_mem (vs_ui (vs_uI S 15 (opF S u (i + 1))) 10 5 v)) 56 [some (.ref 10), some (.int (nI u)), some (.ref 28), some (.int (nI i))] [] := by
        intro v hv
        subst hv
        refine vs_iinc C d_Q_openFor_56 rfl (nI_1 i) (by decide) ?_
        refine vs_goto (tgt := 7) C d_Q_openFor_59 (by decide) ?_
        exact ih (i + 1) (by omega) (by omega)
      refine vs_if_ne (tgt := 56) C d_Q_openFor_38 (by decide) (fun h2 => ?_) (fun h2 => ?_)
      · exact hgo _ (if_neg (fun h => h2 (by show opF S u (i + 1) i = 0; rw [ho]; exact h.1))).symm
      · have h2' : opF S u (i + 1) i = 0 := h2
        rw [ho] at h2'
        refine vs_aload_n C rfl d_Q_openFor_41 ?_
        refine vs_get C fl_Q_9 d_Q_openFor_42 rfl rfl ?_
        refine vs_iload_n C rfl d_Q_openFor_45 ?_
        refine vs_ialdN C d_Q_openFor_46 rfl (rfl) ((by omega)) (by decide) ?_
        refine vs_iconst (v := 1) C (by decide) d_Q_openFor_47 ?_
        refine vs_icmp_ne (tgt := 56) C d_Q_openFor_48 (by decide) (fun h3 => ?_) (fun h3 => ?_)
        · exact hgo _ (if_neg (fun h => h3 h.2)).symm
        · refine vs_aload_n C rfl d_Q_openFor_51 ?_
          refine vs_iconst (v := 1) C (by decide) d_Q_openFor_52 ?_
          refine vs_put C fl_Q_29 d_Q_openFor_53 rfl rfl rfl (Nat.le_of_ble_eq_true rfl) ?_
          exact hgo 1 (if_pos ⟨h2', h3⟩).symm
end Op
set_option maxRecDepth 100000 in
set_option maxHeartbeats 4000000 in
theorem k_Q_openFor (l : Launch) (b : Nat) (D : va_G) (aC : Nat → ClassId) (S : vs_S) (u k : Nat) (hu : u < 8) (hk : (S.2.2.2.2.1 10 6) = nI k) (hk6 : k ≤ 6) (hfl : ∀ i, i < k → ∃ f, f < 3 ∧ S.1 13 i = nI f) : vs_M l b D aC false false y_Q_openFor (.code y_Q_openFor c_Q_openFor 4 (Option.none : Option Jvm.ClassFile.FieldType)) { frames := 1, cells := 0, slots := 0, locals := 22 } [.ref 10, .int (nI u), .ref 28] (vs_mem S) (vs_ret none (vs_mem (qOp S u k))) := by
  refine vs_M.of (by decide) (Nat.le_of_ble_eq_true rfl) ?_
  intro p e s m args below meth c C hmn hr hx htg
  generalize hQ : vs_E below args s b D aC false false (vs_ret none (vs_mem (qOp S u k))) { frames := 1, cells := 0, slots := 0, locals := 22 } = Q
  refine vs_aload_n C rfl d_Q_openFor_0 ?_
  refine vs_iconst (v := 0) C (by decide) d_Q_openFor_1 ?_
  refine vs_put C fl_Q_29 d_Q_openFor_2 rfl rfl rfl (Nat.le_of_ble_eq_true rfl) ?_
  refine vs_iconst (v := 0) C (by decide) d_Q_openFor_5 ?_
  refine vs_istore_n C d_Q_openFor_6 (by decide) ?_
  refine vs_ck (op_l C S u k hu hk hk6 hfl ?_ (k + 1) 0 (Nat.zero_le _) (by omega))
  subst hQ
  exact vs_vret C hr d_Q_openFor_62 ⟨Nat.le_of_ble_eq_true rfl, Nat.le_of_ble_eq_true rfl⟩ (fun h => by cases h) (by first | exact (fun _ => rfl) | exact (fun h => by cases h)) (⟨rfl, rfl⟩)

