/-- 0 and 1 for a condition -/
def b01 (c : Prop) [Decidable c] : Int32 := if c then 1 else 0
theorem b01_t {c : Prop} [Decidable c] (h : c) : b01 c = 1 := if_pos h
theorem b01_f {c : Prop} [Decidable c] (h : ¬ c) : b01 c = 0 := if_neg h
theorem b01_0 {c : Prop} [Decidable c] : b01 c = 0 ↔ ¬ c := by
  by_cases h : c
  · rw [b01_t h]; exact ⟨(fun q => absurd q (by decide)), fun q => absurd h q⟩
  · rw [b01_f h]; exact ⟨fun _ => h, fun _ => rfl⟩
theorem vs_rti {x y : Int32} {m1 : List vs_C} (h : x = y) : vs_ret (some (.int y)) m1 (.inl (some (.int x))) m1 := ⟨by rw [h], rfl⟩
theorem nr01 {c : Prop} [Decidable c] : narrow .boolean (.int (b01 c)) = .int (b01 c) := by
  by_cases q : c
  · rw [b01_t q]; rfl
  · rw [b01_f q]; rfl
set_option maxRecDepth 100000 in
set_option maxHeartbeats 4000000 in
theorem k_X_isBelow (l : Launch) (b : Nat) (D : va_G) (aC : Nat → ClassId) (S : vs_S) (n k : Int32) : vs_M l b D aC false true y_X_isBelow (.code y_X_isBelow c_X_isBelow 2 (Option.some Jvm.ClassFile.FieldType.boolean)) { frames := 0, cells := 0, slots := 0, locals := 0 } [.int n, .int k] (vs_mem S) (vs_ret (some (.int (b01 (0 ≤ n ∧ n < k)))) (vs_mem S)) := by
  refine vs_M.of (by decide) (Nat.le_of_ble_eq_true rfl) ?_
  intro p e s m args below meth c C hmn hr hx htg
  generalize hQ : vs_E below args s b D aC false true (vs_ret (some (.int (b01 (0 ≤ n ∧ n < k)))) (vs_mem S)) { frames := 0, cells := 0, slots := 0, locals := 0 } = Q
  refine vs_iload_n C rfl d_X_isBelow_0 ?_
  refine vs_if_lt (tgt := 13) C d_X_isBelow_1 (by decide) (fun h1 => ?_) (fun h1 => ?_)
  · refine vs_iconst (v := 0) C (by decide) d_X_isBelow_13 ?_
    subst hQ
    exact vs_zret C hr (by first | rfl | exact nr01) d_X_isBelow_14 ⟨Nat.le_of_ble_eq_true rfl, Nat.le_of_ble_eq_true rfl⟩ (fun h => by cases h) (by first | exact (fun _ => rfl) | exact (fun h => by cases h)) (vs_rti (show (0 : Int32) = b01 (0 ≤ n ∧ n < k) from (if_neg (fun h => absurd h1 (Int32.not_lt.mpr h.1))).symm))
  · refine vs_iload_n C rfl d_X_isBelow_4 ?_
    refine vs_iload_n C rfl d_X_isBelow_5 ?_
    refine vs_icmp_ge (tgt := 13) C d_X_isBelow_6 (by decide) (fun h2 => ?_) (fun h2 => ?_)
    · refine vs_iconst (v := 0) C (by decide) d_X_isBelow_13 ?_
      subst hQ
      exact vs_zret C hr (by first | rfl | exact nr01) d_X_isBelow_14 ⟨Nat.le_of_ble_eq_true rfl, Nat.le_of_ble_eq_true rfl⟩ (fun h => by cases h) (by first | exact (fun _ => rfl) | exact (fun h => by cases h)) (vs_rti (show (0 : Int32) = b01 (0 ≤ n ∧ n < k) from (if_neg (fun h => absurd h2 (Int32.not_le.mpr h.2))).symm))
    · refine vs_iconst (v := 1) C (by decide) d_X_isBelow_9 ?_
      refine vs_goto (tgt := 14) C d_X_isBelow_10 (by decide) ?_
      subst hQ
      exact vs_zret C hr (by first | rfl | exact nr01) d_X_isBelow_14 ⟨Nat.le_of_ble_eq_true rfl, Nat.le_of_ble_eq_true rfl⟩ (fun h => by cases h) (by first | exact (fun _ => rfl) | exact (fun h => by cases h)) (vs_rti (show (1 : Int32) = b01 (0 ≤ n ∧ n < k) from (if_pos ⟨Int32.not_lt.mp h1, Int32.not_le.mp h2⟩).symm))
set_option maxRecDepth 100000 in
set_option maxHeartbeats 4000000 in
theorem k_M_in (l : Launch) (b : Nat) (D : va_G) (aC : Nat → ClassId) (S : vs_S) (n lo hi : Int32) : vs_M l b D aC false true y_M_in (.code y_M_in c_M_in 3 (Option.some Jvm.ClassFile.FieldType.boolean)) { frames := 0, cells := 0, slots := 0, locals := 0 } [.int n, .int lo, .int hi] (vs_mem S) (vs_ret (some (.int (b01 (lo ≤ n ∧ n ≤ hi)))) (vs_mem S)) := by
  refine vs_M.of (by decide) (Nat.le_of_ble_eq_true rfl) ?_
  intro p e s m args below meth c C hmn hr hx htg
  generalize hQ : vs_E below args s b D aC false true (vs_ret (some (.int (b01 (lo ≤ n ∧ n ≤ hi)))) (vs_mem S)) { frames := 0, cells := 0, slots := 0, locals := 0 } = Q
  refine vs_iload_n C rfl d_M_in_0 ?_
  refine vs_iload_n C rfl d_M_in_1 ?_
  refine vs_icmp_lt (tgt := 14) C d_M_in_2 (by decide) (fun h1 => ?_) (fun h1 => ?_)
  · refine vs_iconst (v := 0) C (by decide) d_M_in_14 ?_
    subst hQ
    exact vs_zret C hr (by first | rfl | exact nr01) d_M_in_15 ⟨Nat.le_of_ble_eq_true rfl, Nat.le_of_ble_eq_true rfl⟩ (fun h => by cases h) (by first | exact (fun _ => rfl) | exact (fun h => by cases h)) (vs_rti (show (0 : Int32) = b01 (lo ≤ n ∧ n ≤ hi) from (if_neg (fun h => absurd h1 (Int32.not_lt.mpr h.1))).symm))
  · refine vs_iload_n C rfl d_M_in_5 ?_
    refine vs_iload_n C rfl d_M_in_6 ?_
    refine vs_icmp_gt (tgt := 14) C d_M_in_7 (by decide) (fun h2 => ?_) (fun h2 => ?_)
    · refine vs_iconst (v := 0) C (by decide) d_M_in_14 ?_
      subst hQ
      exact vs_zret C hr (by first | rfl | exact nr01) d_M_in_15 ⟨Nat.le_of_ble_eq_true rfl, Nat.le_of_ble_eq_true rfl⟩ (fun h => by cases h) (by first | exact (fun _ => rfl) | exact (fun h => by cases h)) (vs_rti (show (0 : Int32) = b01 (lo ≤ n ∧ n ≤ hi) from (if_neg (fun h => absurd h2 (Int32.not_lt.mpr h.2))).symm))
    · refine vs_iconst (v := 1) C (by decide) d_M_in_10 ?_
      refine vs_goto (tgt := 15) C d_M_in_11 (by decide) ?_
      subst hQ
      exact vs_zret C hr (by first | rfl | exact nr01) d_M_in_15 ⟨Nat.le_of_ble_eq_true rfl, Nat.le_of_ble_eq_true rfl⟩ (fun h => by cases h) (by first | exact (fun _ => rfl) | exact (fun h => by cases h)) (vs_rti (show (1 : Int32) = b01 (lo ≤ n ∧ n ≤ hi) from (if_pos ⟨Int32.not_lt.mp h1, Int32.not_lt.mp h2⟩).symm))
set_option maxRecDepth 100000 in
set_option maxHeartbeats 4000000 in
theorem k_M_thrown (l : Launch) (b : Nat) (D : va_G) (aC : Nat → ClassId) (S : vs_S)  : vs_M l b D aC false true y_M_thrown (.code y_M_thrown c_M_thrown 1 (Option.some Jvm.ClassFile.FieldType.int)) { frames := 0, cells := 0, slots := 0, locals := 0 } [.ref 35] (vs_mem S) (vs_ret (some (.int (S.2.2.2.2.1 35 39))) (vs_mem S)) := by
  refine vs_M.of (by decide) (Nat.le_of_ble_eq_true rfl) ?_
  intro p e s m args below meth c C hmn hr hx htg
  generalize hQ : vs_E below args s b D aC false true (vs_ret (some (.int (S.2.2.2.2.1 35 39))) (vs_mem S)) { frames := 0, cells := 0, slots := 0, locals := 0 } = Q
  refine vs_aload_n C rfl d_M_thrown_0 ?_
  refine vs_get C fl_M_94 d_M_thrown_1 rfl rfl ?_
  subst hQ
  exact vs_iret C hr d_M_thrown_4 ⟨Nat.le_of_ble_eq_true rfl, Nat.le_of_ble_eq_true rfl⟩ (fun h => by cases h) (by first | exact (fun _ => rfl) | exact (fun h => by cases h)) (⟨rfl, rfl⟩)
set_option maxRecDepth 100000 in
set_option maxHeartbeats 4000000 in
theorem k_M_fail (l : Launch) (b : Nat) (D : va_G) (aC : Nat → ClassId) (S : vs_S) (k : Int32) : vs_M l b D aC false false y_M_fail (.code y_M_fail c_M_fail 2 (Option.some Jvm.ClassFile.FieldType.int)) { frames := 0, cells := 0, slots := 0, locals := 0 } [.ref 35, .int k] (vs_mem S) (vs_ret (some (.int 0)) (vs_mem (vs_ui S 35 39 k))) := by
  refine vs_M.of (by decide) (Nat.le_of_ble_eq_true rfl) ?_
  intro p e s m args below meth c C hmn hr hx htg
  generalize hQ : vs_E below args s b D aC false false (vs_ret (some (.int 0)) (vs_mem (vs_ui S 35 39 k))) { frames := 0, cells := 0, slots := 0, locals := 0 } = Q
  refine vs_aload_n C rfl d_M_fail_0 ?_
  refine vs_iload_n C rfl d_M_fail_1 ?_
  refine vs_put C fl_M_94 d_M_fail_2 rfl rfl rfl (Nat.le_of_ble_eq_true rfl) ?_
  refine vs_iconst (v := 0) C (by decide) d_M_fail_5 ?_
  subst hQ
  exact vs_iret C hr d_M_fail_6 ⟨Nat.le_of_ble_eq_true rfl, Nat.le_of_ble_eq_true rfl⟩ (fun h => by cases h) (by first | exact (fun _ => rfl) | exact (fun h => by cases h)) (⟨rfl, rfl⟩)
set_option maxRecDepth 100000 in
set_option maxHeartbeats 4000000 in
theorem k_X_clear (l : Launch) (b : Nat) (D : va_G) (aC : Nat → ClassId) (S : vs_S)  : vs_M l b D aC false false y_X_clear (.code y_X_clear c_X_clear 2 (Option.some Jvm.ClassFile.FieldType.int)) { frames := 0, cells := 0, slots := 0, locals := 0 } [.ref 0] (vs_mem S) (vs_ret (some (.int (S.2.2.2.2.1 10 6))) (vs_mem (vs_ui S 10 6 0))) := by
  refine vs_M.of (by decide) (Nat.le_of_ble_eq_true rfl) ?_
  intro p e s m args below meth c C hmn hr hx htg
  generalize hQ : vs_E below args s b D aC false false (vs_ret (some (.int (S.2.2.2.2.1 10 6))) (vs_mem (vs_ui S 10 6 0))) { frames := 0, cells := 0, slots := 0, locals := 0 } = Q
  refine vs_aload_n C rfl d_X_clear_0 ?_
  refine vs_get C fl_X_26 d_X_clear_1 rfl rfl ?_
  refine vs_get C fl_X_176 d_X_clear_4 rfl rfl ?_
  refine vs_istore_n C d_X_clear_7 (by decide) ?_
  refine vs_aload_n C rfl d_X_clear_8 ?_
  refine vs_get C fl_X_26 d_X_clear_9 rfl rfl ?_
  refine vs_iconst (v := 0) C (by decide) d_X_clear_12 ?_
  refine vs_put C fl_X_176 d_X_clear_13 rfl rfl rfl (Nat.le_of_ble_eq_true rfl) ?_
  refine vs_iload_n C rfl d_X_clear_16 ?_
  subst hQ
  exact vs_iret C hr d_X_clear_17 ⟨Nat.le_of_ble_eq_true rfl, Nat.le_of_ble_eq_true rfl⟩ (fun h => by cases h) (by first | exact (fun _ => rfl) | exact (fun h => by cases h)) (⟨rfl, rfl⟩)
set_option maxRecDepth 100000 in
set_option maxHeartbeats 4000000 in
theorem k_M_clear (l : Launch) (b : Nat) (D : va_G) (aC : Nat → ClassId) (S : vs_S)  : vs_M l b D aC false false y_M_clear (.code y_M_clear c_M_clear 2 (Option.some Jvm.ClassFile.FieldType.int)) { frames := 0, cells := 0, slots := 0, locals := 0 } [.ref 35] (vs_mem S) (vs_ret (some (.int (S.2.2.2.2.1 35 31))) (vs_mem (vs_ui (vs_ui S 35 39 0) 35 31 0))) := by
  refine vs_M.of (by decide) (Nat.le_of_ble_eq_true rfl) ?_
  intro p e s m args below meth c C hmn hr hx htg
  generalize hQ : vs_E below args s b D aC false false (vs_ret (some (.int (S.2.2.2.2.1 35 31))) (vs_mem (vs_ui (vs_ui S 35 39 0) 35 31 0))) { frames := 0, cells := 0, slots := 0, locals := 0 } = Q
  refine vs_aload_n C rfl d_M_clear_0 ?_
  refine vs_iconst (v := 0) C (by decide) d_M_clear_1 ?_
  refine vs_put C fl_M_94 d_M_clear_2 rfl rfl rfl (Nat.le_of_ble_eq_true rfl) ?_
  refine vs_aload_n C rfl d_M_clear_5 ?_
  refine vs_get C fl_M_146 d_M_clear_6 rfl rfl ?_
  refine vs_istore_n C d_M_clear_9 (by decide) ?_
  refine vs_aload_n C rfl d_M_clear_10 ?_
  refine vs_iconst (v := 0) C (by decide) d_M_clear_11 ?_
  refine vs_put C fl_M_146 d_M_clear_12 rfl rfl rfl (Nat.le_of_ble_eq_true rfl) ?_
  refine vs_iload_n C rfl d_M_clear_15 ?_
  subst hQ
  exact vs_iret C hr d_M_clear_16 ⟨Nat.le_of_ble_eq_true rfl, Nat.le_of_ble_eq_true rfl⟩ (fun h => by cases h) (by first | exact (fun _ => rfl) | exact (fun h => by cases h)) (⟨rfl, rfl⟩)

