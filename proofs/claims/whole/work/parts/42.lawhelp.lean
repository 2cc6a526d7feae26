def lo_ (ec : Nat) (A B : vs_S) : vs_S := if ec = 0 then B else A
theorem h_L_member_0 : vs_H "VeilSearchLaw" [⟨0, 19, 22, 13⟩] 7 0 22 := ⟨[], [], ⟨0, 19, 22, 13⟩, rfl, by decide, rfl, by decide, w_303, w_313, fun y h => by cases h⟩
set_option maxRecDepth 100000 in
set_option maxHeartbeats 4000000 in
theorem k_L_member (l : Launch) (b : Nat) (D : va_G) (aC : Nat → ClassId) (S S1 : vs_S) (a1 : Int32) (a2 : Int32) (a3 : Int32) (v : Int32) (ec : Nat) (pu : Bool) (post : (Option Value ⊕ Nat) → List vs_C → Prop) (hM : vs_M l b D aC false pu y_X_member (.code y_X_member c_X_member 4 (Option.some Jvm.ClassFile.FieldType.boolean)) { frames := 6, cells := 1, slots := 6, locals := 100 } [.ref 0, .int a1, .int a2, .int a3] (vs_mem S) post) (hp : ∀ r mem', post r mem' → vs_pc ec (fun _ => 0) (some (.int v)) (vs_mem S) (vs_mem S1) r mem') (hec : ec ≤ 1) : vs_M l b D aC false false y_L_member (.codeWith y_L_member c_L_member 6 (Option.some Jvm.ClassFile.FieldType.int) [((0 : Nat), (19 : Nat), (22 : Nat), (13 : Nat))]) { frames := 7, cells := 1, slots := 6, locals := 123 } [.ref 0, .int a1, .int a2, .int a3, .ref 63] (vs_mem S) (vs_ret (some (.int (nI ec))) (vs_mem (lo_ ec S (vs_uL S1 63 (vp_updL (S1.2.1 63) 0 (if v = 0 then (0 : Int64) else 1)))))) := by
  refine vs_M.ofW (by decide) (Nat.le_of_ble_eq_true rfl) ?_
  intro p e s m args below meth c C hmn hr htab htg
  have htab2 : c.exceptionTable.toList = [⟨0, 19, 22, 13⟩] := htab
  generalize hQ : vs_E below args s b D aC false false (vs_ret (some (.int (nI ec))) (vs_mem (lo_ ec S (vs_uL S1 63 (vp_updL (S1.2.1 63) 0 (if v = 0 then (0 : Int64) else 1)))))) { frames := 7, cells := 1, slots := 6, locals := 123 } = Q
  refine vs_aload C rfl d_L_member_0 ?_
  refine vs_iconst (v := 0) C (by decide) d_L_member_2 ?_
  refine vs_aload_n C rfl d_L_member_3 ?_
  refine vs_iload_n C rfl d_L_member_4 ?_
  refine vs_iload_n C rfl d_L_member_5 ?_
  refine vs_iload_n C rfl d_L_member_6 ?_
  refine vs_st_eq (st2 := [.int a1, .int a2, .int a3].reverse ++ .ref 0 :: [.int 0, .ref 63]) rfl ?_
  refine vs_callVT C hM yk_X_member w_304 im_X_member se_X_member d_L_member_7 rfl rfl rfl (Nat.le_of_ble_eq_true rfl) (by exact ⟨Nat.le_of_ble_eq_true rfl, Nat.le_of_ble_eq_true rfl⟩) (by exact ⟨Nat.le_of_ble_eq_true rfl, Nat.le_of_ble_eq_true rfl⟩) (fun k mem' h => ?_) (fun r mem' h => ?_)
  · rcases hp _ _ h with ⟨_, q, _⟩ | ⟨h1, h2, h3⟩
    · cases q
    · cases h2
      subst h3
      have hx : ec = 1 := by omega
      rcases hx with rfl
      · refine ⟨22, by rw [htab2]; exact h_L_member_0, fun x => ?_⟩
        refine vs_astoreA C d_L_member_22 (by decide) ?_
        refine vs_iconst (v := 1) C (by decide) d_L_member_24 ?_
        subst hQ
        exact vs_iret C hr d_L_member_25 ⟨Nat.le_of_ble_eq_true rfl, Nat.le_of_ble_eq_true rfl⟩ (fun h => by cases h) (fun h => by cases h) ⟨rfl, rfl⟩
  · rcases hp _ _ h with ⟨h1, h2, h3⟩ | ⟨_, q, _⟩
    · cases h2
      subst h3
      subst h1
      refine vs_if_eq (tgt := 17) C d_L_member_10 (by decide) (fun h4 => ?_) (fun h4 => ?_)
      · rw [if_pos h4] at hQ
        refine vs_lconst (v := 0) C (by decide) d_L_member_17 ?_
        refine vs_lastN C d_L_member_18 rfl (rfl) ((by decide)) (by decide) ?_
        refine vs_goto (tgt := 26) C d_L_member_19 (by decide) ?_
        refine vs_iconst (v := 0) C (by decide) d_L_member_26 ?_
        subst hQ
        exact vs_iret C hr d_L_member_27 ⟨Nat.le_of_ble_eq_true rfl, Nat.le_of_ble_eq_true rfl⟩ (fun h => by cases h) (fun h => by cases h) ⟨rfl, rfl⟩
      · rw [if_neg h4] at hQ
        refine vs_lconst (v := 1) C (by decide) d_L_member_13 ?_
        refine vs_goto (tgt := 18) C d_L_member_14 (by decide) ?_
        refine vs_lastN C d_L_member_18 rfl (rfl) ((by decide)) (by decide) ?_
        refine vs_goto (tgt := 26) C d_L_member_19 (by decide) ?_
        refine vs_iconst (v := 0) C (by decide) d_L_member_26 ?_
        subst hQ
        exact vs_iret C hr d_L_member_27 ⟨Nat.le_of_ble_eq_true rfl, Nat.le_of_ble_eq_true rfl⟩ (fun h => by cases h) (fun h => by cases h) ⟨rfl, rfl⟩
    · cases q
theorem h_L_level_0 : vs_H "VeilSearchLaw" [⟨0, 12, 15, 13⟩] 7 0 15 := ⟨[], [], ⟨0, 12, 15, 13⟩, rfl, by decide, rfl, by decide, w_303, w_313, fun y h => by cases h⟩
set_option maxRecDepth 100000 in
set_option maxHeartbeats 4000000 in
theorem k_L_level (l : Launch) (b : Nat) (D : va_G) (aC : Nat → ClassId) (S S1 : vs_S) (a1 : Int32) (a2 : Int32) (a3 : Int32) (v : Int32) (ec : Nat) (pu : Bool) (post : (Option Value ⊕ Nat) → List vs_C → Prop) (hM : vs_M l b D aC false pu y_X_level (.code y_X_level c_X_level 6 (Option.some Jvm.ClassFile.FieldType.int)) { frames := 6, cells := 1, slots := 6, locals := 100 } [.ref 0, .int a1, .int a2, .int a3] (vs_mem S) post) (hp : ∀ r mem', post r mem' → vs_pc ec (fun _ => 0) (some (.int v)) (vs_mem S) (vs_mem S1) r mem') (hec : ec ≤ 1) : vs_M l b D aC false false y_L_level (.codeWith y_L_level c_L_level 6 (Option.some Jvm.ClassFile.FieldType.int) [((0 : Nat), (12 : Nat), (15 : Nat), (13 : Nat))]) { frames := 7, cells := 1, slots := 6, locals := 125 } [.ref 0, .int a1, .int a2, .int a3, .ref 63] (vs_mem S) (vs_ret (some (.int (nI ec))) (vs_mem (lo_ ec S (vs_uL S1 63 (vp_updL (S1.2.1 63) 0 v.toInt64))))) := by
  refine vs_M.ofW (by decide) (Nat.le_of_ble_eq_true rfl) ?_
  intro p e s m args below meth c C hmn hr htab htg
  have htab2 : c.exceptionTable.toList = [⟨0, 12, 15, 13⟩] := htab
  generalize hQ : vs_E below args s b D aC false false (vs_ret (some (.int (nI ec))) (vs_mem (lo_ ec S (vs_uL S1 63 (vp_updL (S1.2.1 63) 0 v.toInt64))))) { frames := 7, cells := 1, slots := 6, locals := 125 } = Q
  refine vs_aload C rfl d_L_level_0 ?_
  refine vs_iconst (v := 0) C (by decide) d_L_level_2 ?_
  refine vs_aload_n C rfl d_L_level_3 ?_
  refine vs_iload_n C rfl d_L_level_4 ?_
  refine vs_iload_n C rfl d_L_level_5 ?_
  refine vs_iload_n C rfl d_L_level_6 ?_
  refine vs_st_eq (st2 := [.int a1, .int a2, .int a3].reverse ++ .ref 0 :: [.int 0, .ref 63]) rfl ?_
  refine vs_callVT C hM yk_X_level w_383 im_X_level se_X_level d_L_level_7 rfl rfl rfl (Nat.le_of_ble_eq_true rfl) (by exact ⟨Nat.le_of_ble_eq_true rfl, Nat.le_of_ble_eq_true rfl⟩) (by exact ⟨Nat.le_of_ble_eq_true rfl, Nat.le_of_ble_eq_true rfl⟩) (fun k mem' h => ?_) (fun r mem' h => ?_)
  · rcases hp _ _ h with ⟨_, q, _⟩ | ⟨h1, h2, h3⟩
    · cases q
    · cases h2
      subst h3
      have hx : ec = 1 := by omega
      rcases hx with rfl
      · refine ⟨15, by rw [htab2]; exact h_L_level_0, fun x => ?_⟩
        refine vs_astoreA C d_L_level_15 (by decide) ?_
        refine vs_iconst (v := 1) C (by decide) d_L_level_17 ?_
        subst hQ
        exact vs_iret C hr d_L_level_18 ⟨Nat.le_of_ble_eq_true rfl, Nat.le_of_ble_eq_true rfl⟩ (fun h => by cases h) (fun h => by cases h) ⟨rfl, rfl⟩
  · rcases hp _ _ h with ⟨h1, h2, h3⟩ | ⟨_, q, _⟩
    · cases h2
      subst h3
      subst h1
      refine vs_i2l C d_L_level_10 ?_
      refine vs_lastN C d_L_level_11 rfl (rfl) ((by decide)) (by decide) ?_
      refine vs_goto (tgt := 19) C d_L_level_12 (by decide) ?_
      refine vs_iconst (v := 0) C (by decide) d_L_level_19 ?_
      subst hQ
      exact vs_iret C hr d_L_level_20 ⟨Nat.le_of_ble_eq_true rfl, Nat.le_of_ble_eq_true rfl⟩ (fun h => by cases h) (fun h => by cases h) ⟨rfl, rfl⟩
    · cases q
theorem h_L_weigh_0 : vs_H "VeilSearchLaw" [⟨0, 12, 15, 13⟩] 7 0 15 := ⟨[], [], ⟨0, 12, 15, 13⟩, rfl, by decide, rfl, by decide, w_303, w_313, fun y h => by cases h⟩
set_option maxRecDepth 100000 in
set_option maxHeartbeats 4000000 in
theorem k_L_weigh (l : Launch) (b : Nat) (D : va_G) (aC : Nat → ClassId) (S S1 : vs_S) (a1 : Int32) (a2 : Int32) (a3 : UInt64) (v : Int32) (ec : Nat) (pu : Bool) (post : (Option Value ⊕ Nat) → List vs_C → Prop) (hM : vs_M l b D aC false pu y_X_weigh (.code y_X_weigh c_X_weigh 6 (Option.some Jvm.ClassFile.FieldType.int)) { frames := 6, cells := 1, slots := 6, locals := 100 } [.ref 0, .int a1, .int a2, .double a3] (vs_mem S) post) (hp : ∀ r mem', post r mem' → vs_pc ec (fun _ => 0) (some (.int v)) (vs_mem S) (vs_mem S1) r mem') (hec : ec ≤ 1) : vs_M l b D aC false false y_L_weigh (.codeWith y_L_weigh c_L_weigh 7 (Option.some Jvm.ClassFile.FieldType.int) [((0 : Nat), (12 : Nat), (15 : Nat), (13 : Nat))]) { frames := 7, cells := 1, slots := 6, locals := 125 } [.ref 0, .int a1, .int a2, .double a3, .ref 63] (vs_mem S) (vs_ret (some (.int (nI ec))) (vs_mem (lo_ ec S (vs_uL S1 63 (vp_updL (S1.2.1 63) 0 v.toInt64))))) := by
  refine vs_M.ofW (by decide) (Nat.le_of_ble_eq_true rfl) ?_
  intro p e s m args below meth c C hmn hr htab htg
  have htab2 : c.exceptionTable.toList = [⟨0, 12, 15, 13⟩] := htab
  generalize hQ : vs_E below args s b D aC false false (vs_ret (some (.int (nI ec))) (vs_mem (lo_ ec S (vs_uL S1 63 (vp_updL (S1.2.1 63) 0 v.toInt64))))) { frames := 7, cells := 1, slots := 6, locals := 125 } = Q
  refine vs_aload C rfl d_L_weigh_0 ?_
  refine vs_iconst (v := 0) C (by decide) d_L_weigh_2 ?_
  refine vs_aload_n C rfl d_L_weigh_3 ?_
  refine vs_iload_n C rfl d_L_weigh_4 ?_
  refine vs_iload_n C rfl d_L_weigh_5 ?_
  refine vs_dload_n C rfl d_L_weigh_6 ?_
  refine vs_st_eq (st2 := [.int a1, .int a2, .double a3].reverse ++ .ref 0 :: [.int 0, .ref 63]) rfl ?_
  refine vs_callVT C hM yk_X_weigh w_390 im_X_weigh se_X_weigh d_L_weigh_7 rfl rfl rfl (Nat.le_of_ble_eq_true rfl) (by exact ⟨Nat.le_of_ble_eq_true rfl, Nat.le_of_ble_eq_true rfl⟩) (by exact ⟨Nat.le_of_ble_eq_true rfl, Nat.le_of_ble_eq_true rfl⟩) (fun k mem' h => ?_) (fun r mem' h => ?_)
  · rcases hp _ _ h with ⟨_, q, _⟩ | ⟨h1, h2, h3⟩
    · cases q
    · cases h2
      subst h3
      have hx : ec = 1 := by omega
      rcases hx with rfl
      · refine ⟨15, by rw [htab2]; exact h_L_weigh_0, fun x => ?_⟩
        refine vs_astoreA C d_L_weigh_15 (by decide) ?_
        refine vs_iconst (v := 1) C (by decide) d_L_weigh_17 ?_
        subst hQ
        exact vs_iret C hr d_L_weigh_18 ⟨Nat.le_of_ble_eq_true rfl, Nat.le_of_ble_eq_true rfl⟩ (fun h => by cases h) (fun h => by cases h) ⟨rfl, rfl⟩
  · rcases hp _ _ h with ⟨h1, h2, h3⟩ | ⟨_, q, _⟩
    · cases h2
      subst h3
      subst h1
      refine vs_i2l C d_L_weigh_10 ?_
      refine vs_lastN C d_L_weigh_11 rfl (rfl) ((by decide)) (by decide) ?_
      refine vs_goto (tgt := 19) C d_L_weigh_12 (by decide) ?_
      refine vs_iconst (v := 0) C (by decide) d_L_weigh_19 ?_
      subst hQ
      exact vs_iret C hr d_L_weigh_20 ⟨Nat.le_of_ble_eq_true rfl, Nat.le_of_ble_eq_true rfl⟩ (fun h => by cases h) (fun h => by cases h) ⟨rfl, rfl⟩
    · cases q
theorem h_L_put_0 : vs_H "VeilSearchLaw" [⟨0, 10, 13, 13⟩] 5 0 13 := ⟨[], [], ⟨0, 10, 13, 13⟩, rfl, by decide, rfl, by decide, w_303, w_313, fun y h => by cases h⟩
set_option maxRecDepth 100000 in
set_option maxHeartbeats 4000000 in
theorem k_L_put (l : Launch) (b : Nat) (D : va_G) (aC : Nat → ClassId) (S S1 : vs_S) (a1 : Int32) (a2 : Int32) (v : Int32) (ec : Nat) (pu : Bool) (post : (Option Value ⊕ Nat) → List vs_C → Prop) (hM : vs_M l b D aC false pu y_X_put (.code y_X_put c_X_put 5 (Option.some Jvm.ClassFile.FieldType.int)) { frames := 6, cells := 1, slots := 6, locals := 100 } [.ref 0, .int a1, .int a2] (vs_mem S) post) (hp : ∀ r mem', post r mem' → vs_pc ec (fun _ => 0) (some (.int v)) (vs_mem S) (vs_mem S1) r mem') (hec : ec ≤ 1) : vs_M l b D aC false false y_L_put (.codeWith y_L_put c_L_put 5 (Option.some Jvm.ClassFile.FieldType.int) [((0 : Nat), (10 : Nat), (13 : Nat), (13 : Nat))]) { frames := 7, cells := 1, slots := 6, locals := 124 } [.ref 0, .int a1, .int a2, .ref 63] (vs_mem S) (vs_ret (some (.int (nI ec))) (vs_mem (lo_ ec S (vs_uL S1 63 (vp_updL (S1.2.1 63) 0 v.toInt64))))) := by
  refine vs_M.ofW (by decide) (Nat.le_of_ble_eq_true rfl) ?_
  intro p e s m args below meth c C hmn hr htab htg
  have htab2 : c.exceptionTable.toList = [⟨0, 10, 13, 13⟩] := htab
  generalize hQ : vs_E below args s b D aC false false (vs_ret (some (.int (nI ec))) (vs_mem (lo_ ec S (vs_uL S1 63 (vp_updL (S1.2.1 63) 0 v.toInt64))))) { frames := 7, cells := 1, slots := 6, locals := 124 } = Q
  refine vs_aload_n C rfl d_L_put_0 ?_
  refine vs_iconst (v := 0) C (by decide) d_L_put_1 ?_
  refine vs_aload_n C rfl d_L_put_2 ?_
  refine vs_iload_n C rfl d_L_put_3 ?_
  refine vs_iload_n C rfl d_L_put_4 ?_
  refine vs_st_eq (st2 := [.int a1, .int a2].reverse ++ .ref 0 :: [.int 0, .ref 63]) rfl ?_
  refine vs_callVT C hM yk_X_put w_413 im_X_put se_X_put d_L_put_5 rfl rfl rfl (Nat.le_of_ble_eq_true rfl) (by exact ⟨Nat.le_of_ble_eq_true rfl, Nat.le_of_ble_eq_true rfl⟩) (by exact ⟨Nat.le_of_ble_eq_true rfl, Nat.le_of_ble_eq_true rfl⟩) (fun k mem' h => ?_) (fun r mem' h => ?_)
  · rcases hp _ _ h with ⟨_, q, _⟩ | ⟨h1, h2, h3⟩
    · cases q
    · cases h2
      subst h3
      have hx : ec = 1 := by omega
      rcases hx with rfl
      · refine ⟨13, by rw [htab2]; exact h_L_put_0, fun x => ?_⟩
        refine vs_astoreA C d_L_put_13 (by decide) ?_
        refine vs_iconst (v := 1) C (by decide) d_L_put_15 ?_
        subst hQ
        exact vs_iret C hr d_L_put_16 ⟨Nat.le_of_ble_eq_true rfl, Nat.le_of_ble_eq_true rfl⟩ (fun h => by cases h) (fun h => by cases h) ⟨rfl, rfl⟩
  · rcases hp _ _ h with ⟨h1, h2, h3⟩ | ⟨_, q, _⟩
    · cases h2
      subst h3
      subst h1
      refine vs_i2l C d_L_put_8 ?_
      refine vs_lastN C d_L_put_9 rfl (rfl) ((by decide)) (by decide) ?_
      refine vs_goto (tgt := 17) C d_L_put_10 (by decide) ?_
      refine vs_iconst (v := 0) C (by decide) d_L_put_17 ?_
      subst hQ
      exact vs_iret C hr d_L_put_18 ⟨Nat.le_of_ble_eq_true rfl, Nat.le_of_ble_eq_true rfl⟩ (fun h => by cases h) (fun h => by cases h) ⟨rfl, rfl⟩
    · cases q
theorem h_L_rule_0 : vs_H "VeilSearchLaw" [⟨0, 17, 20, 13⟩] 5 0 20 := ⟨[], [], ⟨0, 17, 20, 13⟩, rfl, by decide, rfl, by decide, w_303, w_313, fun y h => by cases h⟩
set_option maxRecDepth 100000 in
set_option maxHeartbeats 4000000 in
theorem k_L_rule (l : Launch) (b : Nat) (D : va_G) (aC : Nat → ClassId) (S S1 : vs_S) (a1 : Int32) (a2 : Int32) (v : Int32) (ec : Nat) (pu : Bool) (post : (Option Value ⊕ Nat) → List vs_C → Prop) (hM : vs_M l b D aC false pu y_X_rule (.code y_X_rule c_X_rule 5 (Option.some Jvm.ClassFile.FieldType.boolean)) { frames := 6, cells := 1, slots := 6, locals := 100 } [.ref 0, .int a1, .int a2] (vs_mem S) post) (hp : ∀ r mem', post r mem' → vs_pc ec (fun _ => 0) (some (.int v)) (vs_mem S) (vs_mem S1) r mem') (hec : ec ≤ 1) : vs_M l b D aC false false y_L_rule (.codeWith y_L_rule c_L_rule 5 (Option.some Jvm.ClassFile.FieldType.int) [((0 : Nat), (17 : Nat), (20 : Nat), (13 : Nat))]) { frames := 7, cells := 1, slots := 6, locals := 124 } [.ref 0, .int a1, .int a2, .ref 63] (vs_mem S) (vs_ret (some (.int (nI ec))) (vs_mem (lo_ ec S (vs_uL S1 63 (vp_updL (S1.2.1 63) 0 (if v = 0 then (0 : Int64) else 1)))))) := by
  refine vs_M.ofW (by decide) (Nat.le_of_ble_eq_true rfl) ?_
  intro p e s m args below meth c C hmn hr htab htg
  have htab2 : c.exceptionTable.toList = [⟨0, 17, 20, 13⟩] := htab
  generalize hQ : vs_E below args s b D aC false false (vs_ret (some (.int (nI ec))) (vs_mem (lo_ ec S (vs_uL S1 63 (vp_updL (S1.2.1 63) 0 (if v = 0 then (0 : Int64) else 1)))))) { frames := 7, cells := 1, slots := 6, locals := 124 } = Q
  refine vs_aload_n C rfl d_L_rule_0 ?_
  refine vs_iconst (v := 0) C (by decide) d_L_rule_1 ?_
  refine vs_aload_n C rfl d_L_rule_2 ?_
  refine vs_iload_n C rfl d_L_rule_3 ?_
  refine vs_iload_n C rfl d_L_rule_4 ?_
  refine vs_st_eq (st2 := [.int a1, .int a2].reverse ++ .ref 0 :: [.int 0, .ref 63]) rfl ?_
  refine vs_callVT C hM yk_X_rule w_421 im_X_rule se_X_rule d_L_rule_5 rfl rfl rfl (Nat.le_of_ble_eq_true rfl) (by exact ⟨Nat.le_of_ble_eq_true rfl, Nat.le_of_ble_eq_true rfl⟩) (by exact ⟨Nat.le_of_ble_eq_true rfl, Nat.le_of_ble_eq_true rfl⟩) (fun k mem' h => ?_) (fun r mem' h => ?_)
  · rcases hp _ _ h with ⟨_, q, _⟩ | ⟨h1, h2, h3⟩
    · cases q
    · cases h2
      subst h3
      have hx : ec = 1 := by omega
      rcases hx with rfl
      · refine ⟨20, by rw [htab2]; exact h_L_rule_0, fun x => ?_⟩
        refine vs_astoreA C d_L_rule_20 (by decide) ?_
        refine vs_iconst (v := 1) C (by decide) d_L_rule_22 ?_
        subst hQ
        exact vs_iret C hr d_L_rule_23 ⟨Nat.le_of_ble_eq_true rfl, Nat.le_of_ble_eq_true rfl⟩ (fun h => by cases h) (fun h => by cases h) ⟨rfl, rfl⟩
  · rcases hp _ _ h with ⟨h1, h2, h3⟩ | ⟨_, q, _⟩
    · cases h2
      subst h3
      subst h1
      refine vs_if_eq (tgt := 15) C d_L_rule_8 (by decide) (fun h4 => ?_) (fun h4 => ?_)
      · rw [if_pos h4] at hQ
        refine vs_lconst (v := 0) C (by decide) d_L_rule_15 ?_
        refine vs_lastN C d_L_rule_16 rfl (rfl) ((by decide)) (by decide) ?_
        refine vs_goto (tgt := 24) C d_L_rule_17 (by decide) ?_
        refine vs_iconst (v := 0) C (by decide) d_L_rule_24 ?_
        subst hQ
        exact vs_iret C hr d_L_rule_25 ⟨Nat.le_of_ble_eq_true rfl, Nat.le_of_ble_eq_true rfl⟩ (fun h => by cases h) (fun h => by cases h) ⟨rfl, rfl⟩
      · rw [if_neg h4] at hQ
        refine vs_lconst (v := 1) C (by decide) d_L_rule_11 ?_
        refine vs_goto (tgt := 16) C d_L_rule_12 (by decide) ?_
        refine vs_lastN C d_L_rule_16 rfl (rfl) ((by decide)) (by decide) ?_
        refine vs_goto (tgt := 24) C d_L_rule_17 (by decide) ?_
        refine vs_iconst (v := 0) C (by decide) d_L_rule_24 ?_
        subst hQ
        exact vs_iret C hr d_L_rule_25 ⟨Nat.le_of_ble_eq_true rfl, Nat.le_of_ble_eq_true rfl⟩ (fun h => by cases h) (fun h => by cases h) ⟨rfl, rfl⟩
    · cases q
theorem h_L_add_0 : vs_H "VeilSearchLaw" [⟨0, 9, 12, 13⟩, ⟨0, 9, 15, 35⟩] 4 0 12 := ⟨[], [⟨0, 9, 15, 35⟩], ⟨0, 9, 12, 13⟩, rfl, by decide, rfl, by decide, w_303, w_313, fun y h => by cases h⟩
theorem h_L_add_1 : vs_H "VeilSearchLaw" [⟨0, 9, 12, 13⟩, ⟨0, 9, 15, 35⟩] 4 1 15 := ⟨[⟨0, 9, 12, 13⟩], [], ⟨0, 9, 15, 35⟩, rfl, by decide, rfl, by decide, w_428, w_435, fun y h => by
    simp only [List.mem_cons, List.not_mem_nil, or_false] at h
    subst h
    exact ⟨by decide, by decide, _, w_303, fun U h => h.1⟩⟩
set_option maxRecDepth 100000 in
set_option maxHeartbeats 4000000 in
theorem k_L_add (l : Launch) (b : Nat) (D : va_G) (aC : Nat → ClassId) (S S1 : vs_S) (a1 : Int32) (v : Int32) (ec : Nat) (pu : Bool) (post : (Option Value ⊕ Nat) → List vs_C → Prop) (hM : vs_M l b D aC false pu y_X_add (.code y_X_add c_X_add 3 (Option.some Jvm.ClassFile.FieldType.int)) { frames := 6, cells := 1, slots := 6, locals := 100 } [.ref 0, .int a1] (vs_mem S) post) (hp : ∀ r mem', post r mem' → vs_pc ec (fun e => if e = 1 then 0 else 1) (some (.int v)) (vs_mem S) (vs_mem S1) r mem') (hec : ec ≤ 2) : vs_M l b D aC false false y_L_add (.codeWith y_L_add c_L_add 4 (Option.some Jvm.ClassFile.FieldType.int) [((0 : Nat), (9 : Nat), (12 : Nat), (13 : Nat)), ((0 : Nat), (9 : Nat), (15 : Nat), (35 : Nat))]) { frames := 7, cells := 1, slots := 6, locals := 122 } [.ref 0, .int a1, .ref 63] (vs_mem S) (vs_ret (some (.int (nI ec))) (vs_mem (lo_ ec S (vs_uL S1 63 (vp_updL (S1.2.1 63) 0 v.toInt64))))) := by
  refine vs_M.ofW (by decide) (Nat.le_of_ble_eq_true rfl) ?_
  intro p e s m args below meth c C hmn hr htab htg
  have htab2 : c.exceptionTable.toList = [⟨0, 9, 12, 13⟩, ⟨0, 9, 15, 35⟩] := htab
  generalize hQ : vs_E below args s b D aC false false (vs_ret (some (.int (nI ec))) (vs_mem (lo_ ec S (vs_uL S1 63 (vp_updL (S1.2.1 63) 0 v.toInt64))))) { frames := 7, cells := 1, slots := 6, locals := 122 } = Q
  refine vs_aload_n C rfl d_L_add_0 ?_
  refine vs_iconst (v := 0) C (by decide) d_L_add_1 ?_
  refine vs_aload_n C rfl d_L_add_2 ?_
  refine vs_iload_n C rfl d_L_add_3 ?_
  refine vs_st_eq (st2 := [.int a1].reverse ++ .ref 0 :: [.int 0, .ref 63]) rfl ?_
  refine vs_callVT C hM yk_X_add w_429 im_X_add se_X_add d_L_add_4 rfl rfl rfl (Nat.le_of_ble_eq_true rfl) (by exact ⟨Nat.le_of_ble_eq_true rfl, Nat.le_of_ble_eq_true rfl⟩) (by exact ⟨Nat.le_of_ble_eq_true rfl, Nat.le_of_ble_eq_true rfl⟩) (fun k mem' h => ?_) (fun r mem' h => ?_)
  · rcases hp _ _ h with ⟨_, q, _⟩ | ⟨h1, h2, h3⟩
    · cases q
    · cases h2
      subst h3
      have hx : ec = 1 ∨ ec = 2 := by omega
      rcases hx with rfl | rfl
      · refine ⟨12, by rw [htab2]; exact h_L_add_0, fun x => ?_⟩
        refine vs_astore_nA C d_L_add_12 (by decide) ?_
        refine vs_iconst (v := 1) C (by decide) d_L_add_13 ?_
        subst hQ
        exact vs_iret C hr d_L_add_14 ⟨Nat.le_of_ble_eq_true rfl, Nat.le_of_ble_eq_true rfl⟩ (fun h => by cases h) (fun h => by cases h) ⟨rfl, rfl⟩
      · refine ⟨15, by rw [htab2]; exact h_L_add_1, fun x => ?_⟩
        refine vs_astore_nA C d_L_add_15 (by decide) ?_
        refine vs_iconst (v := 2) C (by decide) d_L_add_16 ?_
        subst hQ
        exact vs_iret C hr d_L_add_17 ⟨Nat.le_of_ble_eq_true rfl, Nat.le_of_ble_eq_true rfl⟩ (fun h => by cases h) (fun h => by cases h) ⟨rfl, rfl⟩
  · rcases hp _ _ h with ⟨h1, h2, h3⟩ | ⟨_, q, _⟩
    · cases h2
      subst h3
      subst h1
      refine vs_i2l C d_L_add_7 ?_
      refine vs_lastN C d_L_add_8 rfl (rfl) ((by decide)) (by decide) ?_
      refine vs_goto (tgt := 18) C d_L_add_9 (by decide) ?_
      refine vs_iconst (v := 0) C (by decide) d_L_add_18 ?_
      subst hQ
      exact vs_iret C hr d_L_add_19 ⟨Nat.le_of_ble_eq_true rfl, Nat.le_of_ble_eq_true rfl⟩ (fun h => by cases h) (fun h => by cases h) ⟨rfl, rfl⟩
    · cases q
theorem h_L_remove_2 : vs_H "VeilSearchLaw" [⟨0, 5, 8, 41⟩] 2 2 8 := ⟨[], [], ⟨0, 5, 8, 41⟩, rfl, by decide, rfl, by decide, w_455, w_465, fun y h => by cases h⟩
set_option maxRecDepth 100000 in
set_option maxHeartbeats 4000000 in
theorem k_L_remove (l : Launch) (b : Nat) (D : va_G) (aC : Nat → ClassId) (S S1 : vs_S) (a1 : Int32)  (ec : Nat) (pu : Bool) (post : (Option Value ⊕ Nat) → List vs_C → Prop) (hM : vs_M l b D aC false pu y_X_remove (.code y_X_remove c_X_remove 2 (Option.none : Option Jvm.ClassFile.FieldType)) { frames := 6, cells := 1, slots := 6, locals := 100 } [.ref 0, .int a1] (vs_mem S) post) (hp : ∀ r mem', post r mem' → vs_pc ec (fun _ => 2) (none) (vs_mem S) (vs_mem S1) r mem') (hec : ec ≤ 1) : vs_M l b D aC false false y_L_remove (.codeWith y_L_remove c_L_remove 3 (Option.some Jvm.ClassFile.FieldType.int) [((0 : Nat), (5 : Nat), (8 : Nat), (41 : Nat))]) { frames := 7, cells := 1, slots := 6, locals := 121 } [.ref 0, .int a1] (vs_mem S) (vs_ret (some (.int (nI ec))) (vs_mem (lo_ ec S (S1)))) := by
  refine vs_M.ofW (by decide) (Nat.le_of_ble_eq_true rfl) ?_
  intro p e s m args below meth c C hmn hr htab htg
  have htab2 : c.exceptionTable.toList = [⟨0, 5, 8, 41⟩] := htab
  generalize hQ : vs_E below args s b D aC false false (vs_ret (some (.int (nI ec))) (vs_mem (lo_ ec S (S1)))) { frames := 7, cells := 1, slots := 6, locals := 121 } = Q
  refine vs_aload_n C rfl d_L_remove_0 ?_
  refine vs_iload_n C rfl d_L_remove_1 ?_
  refine vs_st_eq (st2 := [.int a1].reverse ++ .ref 0 :: []) rfl ?_
  refine vs_callVT C hM yk_X_remove w_456 im_X_remove se_X_remove d_L_remove_2 rfl rfl rfl (Nat.le_of_ble_eq_true rfl) (by exact ⟨Nat.le_of_ble_eq_true rfl, Nat.le_of_ble_eq_true rfl⟩) (by exact ⟨Nat.le_of_ble_eq_true rfl, Nat.le_of_ble_eq_true rfl⟩) (fun k mem' h => ?_) (fun r mem' h => ?_)
  · rcases hp _ _ h with ⟨_, q, _⟩ | ⟨h1, h2, h3⟩
    · cases q
    · cases h2
      subst h3
      have hx : ec = 1 := by omega
      rcases hx with rfl
      · refine ⟨8, by rw [htab2]; exact h_L_remove_2, fun x => ?_⟩
        refine vs_astore_nA C d_L_remove_8 (by decide) ?_
        refine vs_iconst (v := 1) C (by decide) d_L_remove_9 ?_
        subst hQ
        exact vs_iret C hr d_L_remove_10 ⟨Nat.le_of_ble_eq_true rfl, Nat.le_of_ble_eq_true rfl⟩ (fun h => by cases h) (fun h => by cases h) ⟨rfl, rfl⟩
  · rcases hp _ _ h with ⟨h1, h2, h3⟩ | ⟨_, q, _⟩
    · cases h2
      subst h3
      subst h1
      refine vs_goto (tgt := 11) C d_L_remove_5 (by decide) ?_
      refine vs_iconst (v := 0) C (by decide) d_L_remove_11 ?_
      subst hQ
      exact vs_iret C hr d_L_remove_12 ⟨Nat.le_of_ble_eq_true rfl, Nat.le_of_ble_eq_true rfl⟩ (fun h => by cases h) (fun h => by cases h) ⟨rfl, rfl⟩
    · cases q
theorem h_L_flush_1 : vs_H "VeilSearchLaw" [⟨0, 8, 11, 35⟩] 3 1 11 := ⟨[], [], ⟨0, 8, 11, 35⟩, rfl, by decide, rfl, by decide, w_428, w_435, fun y h => by cases h⟩
set_option maxRecDepth 100000 in
set_option maxHeartbeats 4000000 in
theorem k_L_flush (l : Launch) (b : Nat) (D : va_G) (aC : Nat → ClassId) (S S1 : vs_S)  (v : Int32) (ec : Nat) (pu : Bool) (post : (Option Value ⊕ Nat) → List vs_C → Prop) (hM : vs_M l b D aC false pu y_X_flush (.code y_X_flush c_X_flush 2 (Option.some Jvm.ClassFile.FieldType.int)) { frames := 6, cells := 1, slots := 6, locals := 100 } [.ref 0] (vs_mem S) post) (hp : ∀ r mem', post r mem' → vs_pc ec (fun _ => 1) (some (.int v)) (vs_mem S) (vs_mem S1) r mem') (hec : ec ≤ 1) : vs_M l b D aC false false y_L_flush (.codeWith y_L_flush c_L_flush 3 (Option.some Jvm.ClassFile.FieldType.int) [((0 : Nat), (8 : Nat), (11 : Nat), (35 : Nat))]) { frames := 7, cells := 1, slots := 6, locals := 121 } [.ref 0, .ref 63] (vs_mem S) (vs_ret (some (.int (nI ec))) (vs_mem (lo_ ec S (vs_uL S1 63 (vp_updL (S1.2.1 63) 0 v.toInt64))))) := by
  refine vs_M.ofW (by decide) (Nat.le_of_ble_eq_true rfl) ?_
  intro p e s m args below meth c C hmn hr htab htg
  have htab2 : c.exceptionTable.toList = [⟨0, 8, 11, 35⟩] := htab
  generalize hQ : vs_E below args s b D aC false false (vs_ret (some (.int (nI ec))) (vs_mem (lo_ ec S (vs_uL S1 63 (vp_updL (S1.2.1 63) 0 v.toInt64))))) { frames := 7, cells := 1, slots := 6, locals := 121 } = Q
  refine vs_aload_n C rfl d_L_flush_0 ?_
  refine vs_iconst (v := 0) C (by decide) d_L_flush_1 ?_
  refine vs_aload_n C rfl d_L_flush_2 ?_
  refine vs_st_eq (st2 := [].reverse ++ .ref 0 :: [.int 0, .ref 63]) rfl ?_
  refine vs_callVT C hM yk_X_flush w_481 im_X_flush se_X_flush d_L_flush_3 rfl rfl rfl (Nat.le_of_ble_eq_true rfl) (by exact ⟨Nat.le_of_ble_eq_true rfl, Nat.le_of_ble_eq_true rfl⟩) (by exact ⟨Nat.le_of_ble_eq_true rfl, Nat.le_of_ble_eq_true rfl⟩) (fun k mem' h => ?_) (fun r mem' h => ?_)
  · rcases hp _ _ h with ⟨_, q, _⟩ | ⟨h1, h2, h3⟩
    · cases q
    · cases h2
      subst h3
      have hx : ec = 1 := by omega
      rcases hx with rfl
      · refine ⟨11, by rw [htab2]; exact h_L_flush_1, fun x => ?_⟩
        refine vs_astore_nA C d_L_flush_11 (by decide) ?_
        refine vs_iconst (v := 1) C (by decide) d_L_flush_12 ?_
        subst hQ
        exact vs_iret C hr d_L_flush_13 ⟨Nat.le_of_ble_eq_true rfl, Nat.le_of_ble_eq_true rfl⟩ (fun h => by cases h) (fun h => by cases h) ⟨rfl, rfl⟩
  · rcases hp _ _ h with ⟨h1, h2, h3⟩ | ⟨_, q, _⟩
    · cases h2
      subst h3
      subst h1
      refine vs_i2l C d_L_flush_6 ?_
      refine vs_lastN C d_L_flush_7 rfl (rfl) ((by decide)) (by decide) ?_
      refine vs_goto (tgt := 14) C d_L_flush_8 (by decide) ?_
      refine vs_iconst (v := 0) C (by decide) d_L_flush_14 ?_
      subst hQ
      exact vs_iret C hr d_L_flush_15 ⟨Nat.le_of_ble_eq_true rfl, Nat.le_of_ble_eq_true rfl⟩ (fun h => by cases h) (fun h => by cases h) ⟨rfl, rfl⟩
    · cases q
theorem h_L_clause_0 : vs_H "VeilSearchLaw" [⟨0, 14, 17, 13⟩, ⟨0, 14, 21, 35⟩] 9 0 17 := ⟨[], [⟨0, 14, 21, 35⟩], ⟨0, 14, 17, 13⟩, rfl, by decide, rfl, by decide, w_303, w_313, fun y h => by cases h⟩
theorem h_L_clause_1 : vs_H "VeilSearchLaw" [⟨0, 14, 17, 13⟩, ⟨0, 14, 21, 35⟩] 9 1 21 := ⟨[⟨0, 14, 17, 13⟩], [], ⟨0, 14, 21, 35⟩, rfl, by decide, rfl, by decide, w_428, w_435, fun y h => by
    simp only [List.mem_cons, List.not_mem_nil, or_false] at h
    subst h
    exact ⟨by decide, by decide, _, w_303, fun U h => h.1⟩⟩
set_option maxRecDepth 100000 in
set_option maxHeartbeats 4000000 in
theorem k_L_clause (l : Launch) (b : Nat) (D : va_G) (aC : Nat → ClassId) (S S1 : vs_S) (a1 : Int32) (a2 : Int32) (a3 : Int32) (a4 : UInt64) (v : Int32) (ec : Nat) (pu : Bool) (post : (Option Value ⊕ Nat) → List vs_C → Prop) (hM : vs_M l b D aC false pu y_X_clause (.code y_X_clause c_X_clause 6 (Option.some Jvm.ClassFile.FieldType.int)) { frames := 6, cells := 1, slots := 6, locals := 100 } [.ref 0, .int a1, .int a2, .int a3, .double a4] (vs_mem S) post) (hp : ∀ r mem', post r mem' → vs_pc ec (fun e => if e = 1 then 0 else 1) (some (.int v)) (vs_mem S) (vs_mem S1) r mem') (hec : ec ≤ 2) : vs_M l b D aC false false y_L_clause (.codeWith y_L_clause c_L_clause 8 (Option.some Jvm.ClassFile.FieldType.int) [((0 : Nat), (14 : Nat), (17 : Nat), (13 : Nat)), ((0 : Nat), (14 : Nat), (21 : Nat), (35 : Nat))]) { frames := 7, cells := 1, slots := 6, locals := 125 } [.ref 0, .int a1, .int a2, .int a3, .double a4, .ref 63] (vs_mem S) (vs_ret (some (.int (nI ec))) (vs_mem (lo_ ec S (vs_uL S1 63 (vp_updL (S1.2.1 63) 0 v.toInt64))))) := by
  refine vs_M.ofW (by decide) (Nat.le_of_ble_eq_true rfl) ?_
  intro p e s m args below meth c C hmn hr htab htg
  have htab2 : c.exceptionTable.toList = [⟨0, 14, 17, 13⟩, ⟨0, 14, 21, 35⟩] := htab
  generalize hQ : vs_E below args s b D aC false false (vs_ret (some (.int (nI ec))) (vs_mem (lo_ ec S (vs_uL S1 63 (vp_updL (S1.2.1 63) 0 v.toInt64))))) { frames := 7, cells := 1, slots := 6, locals := 125 } = Q
  refine vs_aload C rfl d_L_clause_0 ?_
  refine vs_iconst (v := 0) C (by decide) d_L_clause_2 ?_
  refine vs_aload_n C rfl d_L_clause_3 ?_
  refine vs_iload_n C rfl d_L_clause_4 ?_
  refine vs_iload_n C rfl d_L_clause_5 ?_
  refine vs_iload_n C rfl d_L_clause_6 ?_
  refine vs_dload C rfl d_L_clause_7 ?_
  refine vs_st_eq (st2 := [.int a1, .int a2, .int a3, .double a4].reverse ++ .ref 0 :: [.int 0, .ref 63]) rfl ?_
  refine vs_callVT C hM yk_X_clause w_488 im_X_clause se_X_clause d_L_clause_9 rfl rfl rfl (Nat.le_of_ble_eq_true rfl) (by exact ⟨Nat.le_of_ble_eq_true rfl, Nat.le_of_ble_eq_true rfl⟩) (by exact ⟨Nat.le_of_ble_eq_true rfl, Nat.le_of_ble_eq_true rfl⟩) (fun k mem' h => ?_) (fun r mem' h => ?_)
  · rcases hp _ _ h with ⟨_, q, _⟩ | ⟨h1, h2, h3⟩
    · cases q
    · cases h2
      subst h3
      have hx : ec = 1 ∨ ec = 2 := by omega
      rcases hx with rfl | rfl
      · refine ⟨17, by rw [htab2]; exact h_L_clause_0, fun x => ?_⟩
        refine vs_astoreA C d_L_clause_17 (by decide) ?_
        refine vs_iconst (v := 1) C (by decide) d_L_clause_19 ?_
        subst hQ
        exact vs_iret C hr d_L_clause_20 ⟨Nat.le_of_ble_eq_true rfl, Nat.le_of_ble_eq_true rfl⟩ (fun h => by cases h) (fun h => by cases h) ⟨rfl, rfl⟩
      · refine ⟨21, by rw [htab2]; exact h_L_clause_1, fun x => ?_⟩
        refine vs_astoreA C d_L_clause_21 (by decide) ?_
        refine vs_iconst (v := 2) C (by decide) d_L_clause_23 ?_
        subst hQ
        exact vs_iret C hr d_L_clause_24 ⟨Nat.le_of_ble_eq_true rfl, Nat.le_of_ble_eq_true rfl⟩ (fun h => by cases h) (fun h => by cases h) ⟨rfl, rfl⟩
  · rcases hp _ _ h with ⟨h1, h2, h3⟩ | ⟨_, q, _⟩
    · cases h2
      subst h3
      subst h1
      refine vs_i2l C d_L_clause_12 ?_
      refine vs_lastN C d_L_clause_13 rfl (rfl) ((by decide)) (by decide) ?_
      refine vs_goto (tgt := 25) C d_L_clause_14 (by decide) ?_
      refine vs_iconst (v := 0) C (by decide) d_L_clause_25 ?_
      subst hQ
      exact vs_iret C hr d_L_clause_26 ⟨Nat.le_of_ble_eq_true rfl, Nat.le_of_ble_eq_true rfl⟩ (fun h => by cases h) (fun h => by cases h) ⟨rfl, rfl⟩
    · cases q
theorem h_L_search_0 : vs_H "VeilSearchLaw" [⟨0, 10, 13, 13⟩] 5 0 13 := ⟨[], [], ⟨0, 10, 13, 13⟩, rfl, by decide, rfl, by decide, w_303, w_313, fun y h => by cases h⟩
set_option maxRecDepth 100000 in
set_option maxHeartbeats 4000000 in
theorem k_L_search (l : Launch) (b : Nat) (D : va_G) (aC : Nat → ClassId) (S S1 : vs_S) (a1 : Int32) (a2 : Int32) (v : Int32) (ec : Nat) (pu : Bool) (post : (Option Value ⊕ Nat) → List vs_C → Prop) (hM : vs_M l b D aC false pu y_X_search (.code y_X_search c_X_search 8 (Option.some Jvm.ClassFile.FieldType.int)) { frames := 6, cells := 1, slots := 6, locals := 169 } [.ref 0, .int a1, .int a2] (vs_mem S) post) (hp : ∀ r mem', post r mem' → vs_pc ec (fun _ => 0) (some (.int v)) (vs_mem S) (vs_mem S1) r mem') (hec : ec ≤ 1) : vs_M l b D aC false false y_L_search (.codeWith y_L_search c_L_search 5 (Option.some Jvm.ClassFile.FieldType.int) [((0 : Nat), (10 : Nat), (13 : Nat), (13 : Nat))]) { frames := 7, cells := 1, slots := 6, locals := 196 } [.ref 0, .int a1, .int a2, .ref 63] (vs_mem S) (vs_ret (some (.int (nI ec))) (vs_mem (lo_ ec S (vs_uL S1 63 (vp_updL (S1.2.1 63) 0 v.toInt64))))) := by
  refine vs_M.ofW (by decide) (Nat.le_of_ble_eq_true rfl) ?_
  intro p e s m args below meth c C hmn hr htab htg
  have htab2 : c.exceptionTable.toList = [⟨0, 10, 13, 13⟩] := htab
  generalize hQ : vs_E below args s b D aC false false (vs_ret (some (.int (nI ec))) (vs_mem (lo_ ec S (vs_uL S1 63 (vp_updL (S1.2.1 63) 0 v.toInt64))))) { frames := 7, cells := 1, slots := 6, locals := 196 } = Q
  refine vs_aload_n C rfl d_L_search_0 ?_
  refine vs_iconst (v := 0) C (by decide) d_L_search_1 ?_
  refine vs_aload_n C rfl d_L_search_2 ?_
  refine vs_iload_n C rfl d_L_search_3 ?_
  refine vs_iload_n C rfl d_L_search_4 ?_
  refine vs_st_eq (st2 := [.int a1, .int a2].reverse ++ .ref 0 :: [.int 0, .ref 63]) rfl ?_
  refine vs_callVT C hM yk_X_search w_507 im_X_search se_X_search d_L_search_5 rfl rfl rfl (Nat.le_of_ble_eq_true rfl) (by exact ⟨Nat.le_of_ble_eq_true rfl, Nat.le_of_ble_eq_true rfl⟩) (by exact ⟨Nat.le_of_ble_eq_true rfl, Nat.le_of_ble_eq_true rfl⟩) (fun k mem' h => ?_) (fun r mem' h => ?_)
  · rcases hp _ _ h with ⟨_, q, _⟩ | ⟨h1, h2, h3⟩
    · cases q
    · cases h2
      subst h3
      have hx : ec = 1 := by omega
      rcases hx with rfl
      · refine ⟨13, by rw [htab2]; exact h_L_search_0, fun x => ?_⟩
        refine vs_astoreA C d_L_search_13 (by decide) ?_
        refine vs_iconst (v := 1) C (by decide) d_L_search_15 ?_
        subst hQ
        exact vs_iret C hr d_L_search_16 ⟨Nat.le_of_ble_eq_true rfl, Nat.le_of_ble_eq_true rfl⟩ (fun h => by cases h) (fun h => by cases h) ⟨rfl, rfl⟩
  · rcases hp _ _ h with ⟨h1, h2, h3⟩ | ⟨_, q, _⟩
    · cases h2
      subst h3
      subst h1
      refine vs_i2l C d_L_search_8 ?_
      refine vs_lastN C d_L_search_9 rfl (rfl) ((by decide)) (by decide) ?_
      refine vs_goto (tgt := 17) C d_L_search_10 (by decide) ?_
      refine vs_iconst (v := 0) C (by decide) d_L_search_17 ?_
      subst hQ
      exact vs_iret C hr d_L_search_18 ⟨Nat.le_of_ble_eq_true rfl, Nat.le_of_ble_eq_true rfl⟩ (fun h => by cases h) (fun h => by cases h) ⟨rfl, rfl⟩
    · cases q
theorem h_L_hit_3 : vs_H "VeilSearchLaw" [⟨0, 9, 12, 57⟩] 4 3 12 := ⟨[], [], ⟨0, 9, 12, 57⟩, rfl, by decide, rfl, by decide, w_604, w_611, fun y h => by cases h⟩
set_option maxRecDepth 100000 in
set_option maxHeartbeats 4000000 in
theorem k_L_hit (l : Launch) (b : Nat) (D : va_G) (aC : Nat → ClassId) (S S1 : vs_S) (a1 : Int32) (v : Int32) (ec : Nat) (pu : Bool) (post : (Option Value ⊕ Nat) → List vs_C → Prop) (hM : vs_M l b D aC false pu y_X_hit (.code y_X_hit c_X_hit 2 (Option.some Jvm.ClassFile.FieldType.int)) { frames := 6, cells := 1, slots := 6, locals := 100 } [.ref 0, .int a1] (vs_mem S) post) (hp : ∀ r mem', post r mem' → vs_pc ec (fun _ => 3) (some (.int v)) (vs_mem S) (vs_mem S1) r mem') (hec : ec ≤ 1) : vs_M l b D aC false false y_L_hit (.codeWith y_L_hit c_L_hit 4 (Option.some Jvm.ClassFile.FieldType.int) [((0 : Nat), (9 : Nat), (12 : Nat), (57 : Nat))]) { frames := 7, cells := 1, slots := 6, locals := 121 } [.ref 0, .int a1, .ref 63] (vs_mem S) (vs_ret (some (.int (nI ec))) (vs_mem (lo_ ec S (vs_uL S1 63 (vp_updL (S1.2.1 63) 0 v.toInt64))))) := by
  refine vs_M.ofW (by decide) (Nat.le_of_ble_eq_true rfl) ?_
  intro p e s m args below meth c C hmn hr htab htg
  have htab2 : c.exceptionTable.toList = [⟨0, 9, 12, 57⟩] := htab
  generalize hQ : vs_E below args s b D aC false false (vs_ret (some (.int (nI ec))) (vs_mem (lo_ ec S (vs_uL S1 63 (vp_updL (S1.2.1 63) 0 v.toInt64))))) { frames := 7, cells := 1, slots := 6, locals := 121 } = Q
  refine vs_aload_n C rfl d_L_hit_0 ?_
  refine vs_iconst (v := 0) C (by decide) d_L_hit_1 ?_
  refine vs_aload_n C rfl d_L_hit_2 ?_
  refine vs_iload_n C rfl d_L_hit_3 ?_
  refine vs_st_eq (st2 := [.int a1].reverse ++ .ref 0 :: [.int 0, .ref 63]) rfl ?_
  refine vs_callVT C hM yk_X_hit w_605 im_X_hit se_X_hit d_L_hit_4 rfl rfl rfl (Nat.le_of_ble_eq_true rfl) (by exact ⟨Nat.le_of_ble_eq_true rfl, Nat.le_of_ble_eq_true rfl⟩) (by exact ⟨Nat.le_of_ble_eq_true rfl, Nat.le_of_ble_eq_true rfl⟩) (fun k mem' h => ?_) (fun r mem' h => ?_)
  · rcases hp _ _ h with ⟨_, q, _⟩ | ⟨h1, h2, h3⟩
    · cases q
    · cases h2
      subst h3
      have hx : ec = 1 := by omega
      rcases hx with rfl
      · refine ⟨12, by rw [htab2]; exact h_L_hit_3, fun x => ?_⟩
        refine vs_astore_nA C d_L_hit_12 (by decide) ?_
        refine vs_iconst (v := 1) C (by decide) d_L_hit_13 ?_
        subst hQ
        exact vs_iret C hr d_L_hit_14 ⟨Nat.le_of_ble_eq_true rfl, Nat.le_of_ble_eq_true rfl⟩ (fun h => by cases h) (fun h => by cases h) ⟨rfl, rfl⟩
  · rcases hp _ _ h with ⟨h1, h2, h3⟩ | ⟨_, q, _⟩
    · cases h2
      subst h3
      subst h1
      refine vs_i2l C d_L_hit_7 ?_
      refine vs_lastN C d_L_hit_8 rfl (rfl) ((by decide)) (by decide) ?_
      refine vs_goto (tgt := 15) C d_L_hit_9 (by decide) ?_
      refine vs_iconst (v := 0) C (by decide) d_L_hit_15 ?_
      subst hQ
      exact vs_iret C hr d_L_hit_16 ⟨Nat.le_of_ble_eq_true rfl, Nat.le_of_ble_eq_true rfl⟩ (fun h => by cases h) (fun h => by cases h) ⟨rfl, rfl⟩
    · cases q
theorem h_L_score_3 : vs_H "VeilSearchLaw" [⟨0, 8, 11, 57⟩] 4 3 11 := ⟨[], [], ⟨0, 8, 11, 57⟩, rfl, by decide, rfl, by decide, w_604, w_611, fun y h => by cases h⟩
set_option maxRecDepth 100000 in
set_option maxHeartbeats 4000000 in
theorem k_L_score (l : Launch) (b : Nat) (D : va_G) (aC : Nat → ClassId) (S S1 : vs_S) (a1 : Int32) (v : UInt64) (ec : Nat) (pu : Bool) (post : (Option Value ⊕ Nat) → List vs_C → Prop) (hM : vs_M l b D aC false pu y_X_score (.code y_X_score c_X_score 2 (Option.some Jvm.ClassFile.FieldType.double)) { frames := 6, cells := 1, slots := 6, locals := 100 } [.ref 0, .int a1] (vs_mem S) post) (hp : ∀ r mem', post r mem' → vs_pc ec (fun _ => 3) (some (.double v)) (vs_mem S) (vs_mem S1) r mem') (hec : ec ≤ 1) : vs_M l b D aC false false y_L_score (.codeWith y_L_score c_L_score 4 (Option.some Jvm.ClassFile.FieldType.int) [((0 : Nat), (8 : Nat), (11 : Nat), (57 : Nat))]) { frames := 7, cells := 1, slots := 6, locals := 121 } [.ref 0, .int a1, .ref 64] (vs_mem S) (vs_ret (some (.int (nI ec))) (vs_mem (lo_ ec S (vs_uD S1 64 (vf_upd (S1.2.2.2.1 64) 0 v))))) := by
  refine vs_M.ofW (by decide) (Nat.le_of_ble_eq_true rfl) ?_
  intro p e s m args below meth c C hmn hr htab htg
  have htab2 : c.exceptionTable.toList = [⟨0, 8, 11, 57⟩] := htab
  generalize hQ : vs_E below args s b D aC false false (vs_ret (some (.int (nI ec))) (vs_mem (lo_ ec S (vs_uD S1 64 (vf_upd (S1.2.2.2.1 64) 0 v))))) { frames := 7, cells := 1, slots := 6, locals := 121 } = Q
  refine vs_aload_n C rfl d_L_score_0 ?_
  refine vs_iconst (v := 0) C (by decide) d_L_score_1 ?_
  refine vs_aload_n C rfl d_L_score_2 ?_
  refine vs_iload_n C rfl d_L_score_3 ?_
  refine vs_st_eq (st2 := [.int a1].reverse ++ .ref 0 :: [.int 0, .ref 64]) rfl ?_
  refine vs_callVT C hM yk_X_score w_627 im_X_score se_X_score d_L_score_4 rfl rfl rfl (Nat.le_of_ble_eq_true rfl) (by exact ⟨Nat.le_of_ble_eq_true rfl, Nat.le_of_ble_eq_true rfl⟩) (by exact ⟨Nat.le_of_ble_eq_true rfl, Nat.le_of_ble_eq_true rfl⟩) (fun k mem' h => ?_) (fun r mem' h => ?_)
  · rcases hp _ _ h with ⟨_, q, _⟩ | ⟨h1, h2, h3⟩
    · cases q
    · cases h2
      subst h3
      have hx : ec = 1 := by omega
      rcases hx with rfl
      · refine ⟨11, by rw [htab2]; exact h_L_score_3, fun x => ?_⟩
        refine vs_astore_nA C d_L_score_11 (by decide) ?_
        refine vs_iconst (v := 1) C (by decide) d_L_score_12 ?_
        subst hQ
        exact vs_iret C hr d_L_score_13 ⟨Nat.le_of_ble_eq_true rfl, Nat.le_of_ble_eq_true rfl⟩ (fun h => by cases h) (fun h => by cases h) ⟨rfl, rfl⟩
  · rcases hp _ _ h with ⟨h1, h2, h3⟩ | ⟨_, q, _⟩
    · cases h2
      subst h3
      subst h1
      refine vs_dastN C d_L_score_7 rfl (rfl) ((by decide)) (by decide) ?_
      refine vs_goto (tgt := 14) C d_L_score_8 (by decide) ?_
      refine vs_iconst (v := 0) C (by decide) d_L_score_14 ?_
      subst hQ
      exact vs_iret C hr d_L_score_15 ⟨Nat.le_of_ble_eq_true rfl, Nat.le_of_ble_eq_true rfl⟩ (fun h => by cases h) (fun h => by cases h) ⟨rfl, rfl⟩
    · cases q
theorem h_L_value_0 : vs_H "VeilSearchLaw" [⟨0, 12, 15, 13⟩, ⟨0, 12, 19, 41⟩, ⟨0, 12, 23, 66⟩] 7 0 15 := ⟨[], [⟨0, 12, 19, 41⟩, ⟨0, 12, 23, 66⟩], ⟨0, 12, 15, 13⟩, rfl, by decide, rfl, by decide, w_303, w_313, fun y h => by cases h⟩
theorem h_L_value_2 : vs_H "VeilSearchLaw" [⟨0, 12, 15, 13⟩, ⟨0, 12, 19, 41⟩, ⟨0, 12, 23, 66⟩] 7 2 19 := ⟨[⟨0, 12, 15, 13⟩], [⟨0, 12, 23, 66⟩], ⟨0, 12, 19, 41⟩, rfl, by decide, rfl, by decide, w_455, w_465, fun y h => by
    simp only [List.mem_cons, List.not_mem_nil, or_false] at h
    subst h
    exact ⟨by decide, by decide, _, w_303, fun U h => h.2.1⟩⟩
theorem h_L_value_4 : vs_H "VeilSearchLaw" [⟨0, 12, 15, 13⟩, ⟨0, 12, 19, 41⟩, ⟨0, 12, 23, 66⟩] 7 4 23 := ⟨[⟨0, 12, 15, 13⟩, ⟨0, 12, 19, 41⟩], [], ⟨0, 12, 23, 66⟩, rfl, by decide, rfl, by decide, w_634, w_643, fun y h => by
    simp only [List.mem_cons, List.not_mem_nil, or_false] at h
    rcases h with rfl | rfl
    · exact ⟨by decide, by decide, _, w_303, fun U h => h.2.2.1⟩
    · exact ⟨by decide, by decide, _, w_455, fun U h => h.2.2.2⟩⟩
set_option maxRecDepth 100000 in
set_option maxHeartbeats 4000000 in
theorem k_L_value (l : Launch) (b : Nat) (D : va_G) (aC : Nat → ClassId) (S S1 : vs_S) (a1 : Int32) (a2 : Int32) (a3 : Int32) (v : Int32) (ec : Nat) (pu : Bool) (post : (Option Value ⊕ Nat) → List vs_C → Prop) (hM : vs_M l b D aC false pu y_X_value (.code y_X_value c_X_value 4 (Option.some Jvm.ClassFile.FieldType.int)) { frames := 6, cells := 1, slots := 6, locals := 100 } [.ref 0, .int a1, .int a2, .int a3] (vs_mem S) post) (hp : ∀ r mem', post r mem' → vs_pc ec (kdV) (some (.int v)) (vs_mem S) (vs_mem S1) r mem') (hec : ec ≤ 3) : vs_M l b D aC false false y_L_value (.codeWith y_L_value c_L_value 6 (Option.some Jvm.ClassFile.FieldType.int) [((0 : Nat), (12 : Nat), (15 : Nat), (13 : Nat)), ((0 : Nat), (12 : Nat), (19 : Nat), (41 : Nat)), ((0 : Nat), (12 : Nat), (23 : Nat), (66 : Nat))]) { frames := 7, cells := 1, slots := 6, locals := 123 } [.ref 0, .int a1, .int a2, .int a3, .ref 63] (vs_mem S) (vs_ret (some (.int (nI ec))) (vs_mem (lo_ ec S (vs_uL S1 63 (vp_updL (S1.2.1 63) 0 v.toInt64))))) := by
  refine vs_M.ofW (by decide) (Nat.le_of_ble_eq_true rfl) ?_
  intro p e s m args below meth c C hmn hr htab htg
  have htab2 : c.exceptionTable.toList = [⟨0, 12, 15, 13⟩, ⟨0, 12, 19, 41⟩, ⟨0, 12, 23, 66⟩] := htab
  generalize hQ : vs_E below args s b D aC false false (vs_ret (some (.int (nI ec))) (vs_mem (lo_ ec S (vs_uL S1 63 (vp_updL (S1.2.1 63) 0 v.toInt64))))) { frames := 7, cells := 1, slots := 6, locals := 123 } = Q
  refine vs_aload C rfl d_L_value_0 ?_
  refine vs_iconst (v := 0) C (by decide) d_L_value_2 ?_
  refine vs_aload_n C rfl d_L_value_3 ?_
  refine vs_iload_n C rfl d_L_value_4 ?_
  refine vs_iload_n C rfl d_L_value_5 ?_
  refine vs_iload_n C rfl d_L_value_6 ?_
  refine vs_st_eq (st2 := [.int a1, .int a2, .int a3].reverse ++ .ref 0 :: [.int 0, .ref 63]) rfl ?_
  refine vs_callVT C hM yk_X_value w_635 im_X_value se_X_value d_L_value_7 rfl rfl rfl (Nat.le_of_ble_eq_true rfl) (by exact ⟨Nat.le_of_ble_eq_true rfl, Nat.le_of_ble_eq_true rfl⟩) (by exact ⟨Nat.le_of_ble_eq_true rfl, Nat.le_of_ble_eq_true rfl⟩) (fun k mem' h => ?_) (fun r mem' h => ?_)
  · rcases hp _ _ h with ⟨_, q, _⟩ | ⟨h1, h2, h3⟩
    · cases q
    · cases h2
      subst h3
      have hx : ec = 1 ∨ ec = 2 ∨ ec = 3 := by omega
      rcases hx with rfl | rfl | rfl
      · refine ⟨15, by rw [htab2]; exact h_L_value_0, fun x => ?_⟩
        refine vs_astoreA C d_L_value_15 (by decide) ?_
        refine vs_iconst (v := 1) C (by decide) d_L_value_17 ?_
        subst hQ
        exact vs_iret C hr d_L_value_18 ⟨Nat.le_of_ble_eq_true rfl, Nat.le_of_ble_eq_true rfl⟩ (fun h => by cases h) (fun h => by cases h) ⟨rfl, rfl⟩
      · refine ⟨19, by rw [htab2]; exact h_L_value_2, fun x => ?_⟩
        refine vs_astoreA C d_L_value_19 (by decide) ?_
        refine vs_iconst (v := 2) C (by decide) d_L_value_21 ?_
        subst hQ
        exact vs_iret C hr d_L_value_22 ⟨Nat.le_of_ble_eq_true rfl, Nat.le_of_ble_eq_true rfl⟩ (fun h => by cases h) (fun h => by cases h) ⟨rfl, rfl⟩
      · refine ⟨23, by rw [htab2]; exact h_L_value_4, fun x => ?_⟩
        refine vs_astoreA C d_L_value_23 (by decide) ?_
        refine vs_iconst (v := 3) C (by decide) d_L_value_25 ?_
        subst hQ
        exact vs_iret C hr d_L_value_26 ⟨Nat.le_of_ble_eq_true rfl, Nat.le_of_ble_eq_true rfl⟩ (fun h => by cases h) (fun h => by cases h) ⟨rfl, rfl⟩
  · rcases hp _ _ h with ⟨h1, h2, h3⟩ | ⟨_, q, _⟩
    · cases h2
      subst h3
      subst h1
      refine vs_i2l C d_L_value_10 ?_
      refine vs_lastN C d_L_value_11 rfl (rfl) ((by decide)) (by decide) ?_
      refine vs_goto (tgt := 27) C d_L_value_12 (by decide) ?_
      refine vs_iconst (v := 0) C (by decide) d_L_value_27 ?_
      subst hQ
      exact vs_iret C hr d_L_value_28 ⟨Nat.le_of_ble_eq_true rfl, Nat.le_of_ble_eq_true rfl⟩ (fun h => by cases h) (fun h => by cases h) ⟨rfl, rfl⟩
    · cases q
theorem h_L_count_0 : vs_H "VeilSearchLaw" [⟨0, 9, 12, 13⟩] 4 0 12 := ⟨[], [], ⟨0, 9, 12, 13⟩, rfl, by decide, rfl, by decide, w_303, w_313, fun y h => by cases h⟩
set_option maxRecDepth 100000 in
set_option maxHeartbeats 4000000 in
theorem k_L_count (l : Launch) (b : Nat) (D : va_G) (aC : Nat → ClassId) (S S1 : vs_S) (a1 : Int32) (v : Int32) (ec : Nat) (pu : Bool) (post : (Option Value ⊕ Nat) → List vs_C → Prop) (hM : vs_M l b D aC false pu y_X_count (.code y_X_count c_X_count 2 (Option.some Jvm.ClassFile.FieldType.int)) { frames := 6, cells := 1, slots := 6, locals := 100 } [.ref 0, .int a1] (vs_mem S) post) (hp : ∀ r mem', post r mem' → vs_pc ec (fun _ => 0) (some (.int v)) (vs_mem S) (vs_mem S1) r mem') (hec : ec ≤ 1) : vs_M l b D aC false false y_L_count (.codeWith y_L_count c_L_count 4 (Option.some Jvm.ClassFile.FieldType.int) [((0 : Nat), (9 : Nat), (12 : Nat), (13 : Nat))]) { frames := 7, cells := 1, slots := 6, locals := 121 } [.ref 0, .int a1, .ref 63] (vs_mem S) (vs_ret (some (.int (nI ec))) (vs_mem (lo_ ec S (vs_uL S1 63 (vp_updL (S1.2.1 63) 0 v.toInt64))))) := by
  refine vs_M.ofW (by decide) (Nat.le_of_ble_eq_true rfl) ?_
  intro p e s m args below meth c C hmn hr htab htg
  have htab2 : c.exceptionTable.toList = [⟨0, 9, 12, 13⟩] := htab
  generalize hQ : vs_E below args s b D aC false false (vs_ret (some (.int (nI ec))) (vs_mem (lo_ ec S (vs_uL S1 63 (vp_updL (S1.2.1 63) 0 v.toInt64))))) { frames := 7, cells := 1, slots := 6, locals := 121 } = Q
  refine vs_aload_n C rfl d_L_count_0 ?_
  refine vs_iconst (v := 0) C (by decide) d_L_count_1 ?_
  refine vs_aload_n C rfl d_L_count_2 ?_
  refine vs_iload_n C rfl d_L_count_3 ?_
  refine vs_st_eq (st2 := [.int a1].reverse ++ .ref 0 :: [.int 0, .ref 63]) rfl ?_
  refine vs_callVT C hM yk_X_count w_659 im_X_count se_X_count d_L_count_4 rfl rfl rfl (Nat.le_of_ble_eq_true rfl) (by exact ⟨Nat.le_of_ble_eq_true rfl, Nat.le_of_ble_eq_true rfl⟩) (by exact ⟨Nat.le_of_ble_eq_true rfl, Nat.le_of_ble_eq_true rfl⟩) (fun k mem' h => ?_) (fun r mem' h => ?_)
  · rcases hp _ _ h with ⟨_, q, _⟩ | ⟨h1, h2, h3⟩
    · cases q
    · cases h2
      subst h3
      have hx : ec = 1 := by omega
      rcases hx with rfl
      · refine ⟨12, by rw [htab2]; exact h_L_count_0, fun x => ?_⟩
        refine vs_astore_nA C d_L_count_12 (by decide) ?_
        refine vs_iconst (v := 1) C (by decide) d_L_count_13 ?_
        subst hQ
        exact vs_iret C hr d_L_count_14 ⟨Nat.le_of_ble_eq_true rfl, Nat.le_of_ble_eq_true rfl⟩ (fun h => by cases h) (fun h => by cases h) ⟨rfl, rfl⟩
  · rcases hp _ _ h with ⟨h1, h2, h3⟩ | ⟨_, q, _⟩
    · cases h2
      subst h3
      subst h1
      refine vs_i2l C d_L_count_7 ?_
      refine vs_lastN C d_L_count_8 rfl (rfl) ((by decide)) (by decide) ?_
      refine vs_goto (tgt := 15) C d_L_count_9 (by decide) ?_
      refine vs_iconst (v := 0) C (by decide) d_L_count_15 ?_
      subst hQ
      exact vs_iret C hr d_L_count_16 ⟨Nat.le_of_ble_eq_true rfl, Nat.le_of_ble_eq_true rfl⟩ (fun h => by cases h) (fun h => by cases h) ⟨rfl, rfl⟩
    · cases q
