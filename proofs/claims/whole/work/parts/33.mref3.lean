set_option maxRecDepth 100000 in
set_option maxHeartbeats 4000000 in
theorem k_M_remove_1 (l : Launch) (b : Nat) (D : va_G) (aC : Nat → ClassId) (S : vs_S) (i : Int32) (kd : Nat) (hkd : (S.2.2.2.2.1 35 27) = nI kd) (hkd40 : kd ≤ 40) (hn : ¬ ((0 ≤ i ∧ i < nI kd) ∧ S.1 49 i.toNatClampNeg = 0)) : vs_M l b D aC false false y_M_remove (.code y_M_remove c_M_remove 2 (Option.none : Option Jvm.ClassFile.FieldType)) { frames := 1, cells := 0, slots := 0, locals := 22 } [.ref 35, .int i] (vs_mem S) (vs_ret none (vs_mem (mTh S 1))) := by
  refine vs_M.of (by decide) (Nat.le_of_ble_eq_true rfl) ?_
  intro p e s m args below meth c C hmn hr hx htg
  generalize hQ : vs_E below args s b D aC false false (vs_ret none (vs_mem (mTh S 1))) { frames := 1, cells := 0, slots := 0, locals := 22 } = Q
  have h28 : vs_G p l e { frames := 1, cells := 0, slots := 0, locals := 22 } s m args below meth c b D aC 2 Q 0 0 true (vs_mem S) 28 [some (.ref 35), some (.int i)] [.ref 35] := by
    refine vs_iconst (v := 1) C (by decide) d_M_remove_28 ?_
    refine vs_put C fl_M_94 d_M_remove_29 rfl rfl rfl (Nat.le_of_ble_eq_true rfl) ?_
    refine vs_aload_n C rfl d_M_remove_32 ?_
    refine vs_get C fl_M_94 d_M_remove_33 rfl rfl ?_
    refine vs_if_le (tgt := 40) C d_M_remove_36 (by decide) (fun h1 => ?_) (fun h1 => ?_)
    · exact absurd h1 (by decide)
    · subst hQ
      exact vs_vret C hr d_M_remove_39 ⟨Nat.le_of_ble_eq_true rfl, Nat.le_of_ble_eq_true rfl⟩ (fun h => by cases h) (by first | exact (fun _ => rfl) | exact (fun h => by cases h)) (⟨rfl, rfl⟩)
  refine vs_aload_n C rfl d_M_remove_0 ?_
  refine vs_iload_n C rfl d_M_remove_1 ?_
  refine vs_iconst (v := 0) C (by decide) d_M_remove_2 ?_
  refine vs_aload_n C rfl d_M_remove_3 ?_
  refine vs_get C fl_M_116 d_M_remove_4 rfl rfl ?_
  refine vs_iconst (v := 1) C (by decide) d_M_remove_7 ?_
  refine vs_isub C d_M_remove_8 ?_
  refine vs_cS C (k_M_in l b D aC S i 0 ((S.2.2.2.2.1 35 27) - 1)) yk_M_in ml_M_98 st_M_in d_M_remove_9 rfl rfl (by exact Nat.le_of_ble_eq_true rfl) (by exact ⟨Nat.le_of_ble_eq_true rfl, Nat.le_of_ble_eq_true rfl⟩) (by exact ⟨Nat.le_of_ble_eq_true rfl, Nat.le_of_ble_eq_true rfl⟩) (fun h => by cases h) ?_
  rw [hkd, in_p (by omega)]
  refine vs_if_eq (tgt := 28) C d_M_remove_12 (by decide) (fun h1 => ?_) (fun h1 => ?_)
  · exact h28
  · have hi := b01_n h1
    obtain ⟨hlt, hii⟩ := nI_rng (n := kd) hi.1 hi.2 (by omega)
    refine vs_aload_n C rfl d_M_remove_15 ?_
    refine vs_get C fl_M_49 d_M_remove_16 rfl rfl ?_
    refine vs_iload_n C rfl d_M_remove_19 ?_
    refine vs_zaldN C d_M_remove_20 rfl (hii) ((by omega)) (by decide) ?_
    refine vs_if_ne (tgt := 28) C d_M_remove_21 (by decide) (fun h2 => ?_) (fun h2 => ?_)
    · exact h28
    · exact absurd ⟨hi, h2⟩ hn
def rmS (S : vs_S) (i : Nat) : vs_S := if S.1 47 i = -1 then vs_uI (vs_uI (mTh S 0) 49 (upd (S.1 49) i 1)) 47 (upd (S.1 47) i (-2)) else vs_uI (mTh S 0) 49 (upd (S.1 49) i 1)
set_option maxRecDepth 100000 in
set_option maxHeartbeats 4000000 in
theorem k_M_remove_0 (l : Launch) (b : Nat) (D : va_G) (aC : Nat → ClassId) (S : vs_S) (i kd : Nat) (hkd : (S.2.2.2.2.1 35 27) = nI kd) (hkd40 : kd ≤ 40) (hi : i < kd) (h0 : S.1 49 i = 0) : vs_M l b D aC false false y_M_remove (.code y_M_remove c_M_remove 2 (Option.none : Option Jvm.ClassFile.FieldType)) { frames := 1, cells := 0, slots := 0, locals := 22 } [.ref 35, .int (nI i)] (vs_mem S) (vs_ret none (vs_mem (rmS S i))) := by
  refine vs_M.of (by decide) (Nat.le_of_ble_eq_true rfl) ?_
  intro p e s m args below meth c C hmn hr hx htg
  generalize hQ : vs_E below args s b D aC false false (vs_ret none (vs_mem (rmS S i))) { frames := 1, cells := 0, slots := 0, locals := 22 } = Q
  refine vs_aload_n C rfl d_M_remove_0 ?_
  refine vs_iload_n C rfl d_M_remove_1 ?_
  refine vs_iconst (v := 0) C (by decide) d_M_remove_2 ?_
  refine vs_aload_n C rfl d_M_remove_3 ?_
  refine vs_get C fl_M_116 d_M_remove_4 rfl rfl ?_
  refine vs_iconst (v := 1) C (by decide) d_M_remove_7 ?_
  refine vs_isub C d_M_remove_8 ?_
  refine vs_cS C (k_M_in l b D aC S (nI i) 0 ((S.2.2.2.2.1 35 27) - 1)) yk_M_in ml_M_98 st_M_in d_M_remove_9 rfl rfl (by exact Nat.le_of_ble_eq_true rfl) (by exact ⟨Nat.le_of_ble_eq_true rfl, Nat.le_of_ble_eq_true rfl⟩) (by exact ⟨Nat.le_of_ble_eq_true rfl, Nat.le_of_ble_eq_true rfl⟩) (fun h => by cases h) ?_
  rw [hkd, in_p (by omega)]
  refine vs_if_eq (tgt := 28) C d_M_remove_12 (by decide) (fun h1 => ?_) (fun h1 => ?_)
  · exact absurd ⟨Int32.not_lt.mp (nI_pos (by omega)), nI_lt hi (by omega)⟩ (b01_0.mp h1)
  · refine vs_aload_n C rfl d_M_remove_15 ?_
    refine vs_get C fl_M_49 d_M_remove_16 rfl rfl ?_
    refine vs_iload_n C rfl d_M_remove_19 ?_
    refine vs_zaldN C d_M_remove_20 rfl (rfl) ((by omega)) (by decide) ?_
    refine vs_if_ne (tgt := 28) C d_M_remove_21 (by decide) (fun h2 => ?_) (fun h2 => ?_)
    · exact absurd h0 h2
    · refine vs_iconst (v := 0) C (by decide) d_M_remove_24 ?_
      refine vs_goto (tgt := 29) C d_M_remove_25 (by decide) ?_
      refine vs_put C fl_M_94 d_M_remove_29 rfl rfl rfl (Nat.le_of_ble_eq_true rfl) ?_
      refine vs_aload_n C rfl d_M_remove_32 ?_
      refine vs_get C fl_M_94 d_M_remove_33 rfl rfl ?_
      refine vs_if_le (tgt := 40) C d_M_remove_36 (by decide) (fun h3 => ?_) (fun h3 => ?_)
      · refine vs_aload_n C rfl d_M_remove_40 ?_
        refine vs_get C fl_M_49 d_M_remove_41 rfl rfl ?_
        refine vs_iload_n C rfl d_M_remove_44 ?_
        refine vs_iconst (v := 1) C (by decide) d_M_remove_45 ?_
        refine vs_zastN C d_M_remove_46 rfl (rfl) ((by omega)) (by decide) ?_
        refine vs_aload_n C rfl d_M_remove_47 ?_
        refine vs_get C fl_M_43 d_M_remove_48 rfl rfl ?_
        refine vs_iload_n C rfl d_M_remove_51 ?_
        refine vs_ialdN C d_M_remove_52 rfl (rfl) ((by omega)) (by decide) ?_
        refine vs_iconst (v := (-1)) C (by decide) d_M_remove_53 ?_
        unfold rmS at hQ
        refine vs_icmp_ne (tgt := 65) C d_M_remove_54 (by decide) (fun h4 => ?_) (fun h4 => ?_)
        · rw [if_neg h4] at hQ
          subst hQ
          exact vs_vret C hr d_M_remove_65 ⟨Nat.le_of_ble_eq_true rfl, Nat.le_of_ble_eq_true rfl⟩ (fun h => by cases h) (by first | exact (fun _ => rfl) | exact (fun h => by cases h)) (⟨rfl, rfl⟩)
        · rw [if_pos h4] at hQ
          refine vs_aload_n C rfl d_M_remove_57 ?_
          refine vs_get C fl_M_43 d_M_remove_58 rfl rfl ?_
          refine vs_iload_n C rfl d_M_remove_61 ?_
          refine vs_bipush (v := (-2)) C (by decide) d_M_remove_62 ?_
          refine vs_iastN C d_M_remove_64 rfl (rfl) ((by omega)) (by decide) ?_
          subst hQ
          exact vs_vret C hr d_M_remove_65 ⟨Nat.le_of_ble_eq_true rfl, Nat.le_of_ble_eq_true rfl⟩ (fun h => by cases h) (by first | exact (fun _ => rfl) | exact (fun h => by cases h)) (⟨rfl, rfl⟩)
      · exact absurd (Int32.le_refl _) h3
set_option maxRecDepth 100000 in
set_option maxHeartbeats 4000000 in
theorem k_M_clause_1 (l : Launch) (b : Nat) (D : va_G) (aC : Nat → ClassId) (S : vs_S) (s0 t f : Int32) (w : UInt64) (hn : ¬ claOK s0 t f w) : vs_M l b D aC false false y_M_clause (.code y_M_clause c_M_clause 6 (Option.some Jvm.ClassFile.FieldType.int)) { frames := 1, cells := 0, slots := 0, locals := 22 } [.ref 35, .int s0, .int t, .int f, .double w] (vs_mem S) (vs_ret (some (.int 0)) (vs_mem (mTh S 1))) := by
  refine vs_M.of (by decide) (Nat.le_of_ble_eq_true rfl) ?_
  intro p e s m args below meth c C hmn hr hx htg
  generalize hQ : vs_E below args s b D aC false false (vs_ret (some (.int 0)) (vs_mem (mTh S 1))) { frames := 1, cells := 0, slots := 0, locals := 22 } = Q
  have h36 : vs_G p l e { frames := 1, cells := 0, slots := 0, locals := 22 } s m args below meth c b D aC 6 Q 0 0 true (vs_mem S) 36 [some (.ref 35), some (.int s0), some (.int t), some (.int f), some (.double w), none] [] := by
    refine vs_aload_n C rfl d_M_clause_36 ?_
    refine vs_iconst (v := 1) C (by decide) d_M_clause_37 ?_
    refine vs_cV C (k_M_fail l b D aC S 1) yk_M_fail ml_M_102 im_M_fail se_M_fail d_M_clause_38 rfl rfl rfl rfl (by exact Nat.le_of_ble_eq_true rfl) (by exact ⟨Nat.le_of_ble_eq_true rfl, Nat.le_of_ble_eq_true rfl⟩) (by exact ⟨Nat.le_of_ble_eq_true rfl, Nat.le_of_ble_eq_true rfl⟩) (fun h => by cases h) ?_
    subst hQ
    exact vs_iret C hr d_M_clause_41 ⟨Nat.le_of_ble_eq_true rfl, Nat.le_of_ble_eq_true rfl⟩ (fun h => by cases h) (by first | exact (fun _ => rfl) | exact (fun h => by cases h)) (⟨rfl, rfl⟩)
  refine vs_iload_n C rfl d_M_clause_0 ?_
  refine vs_iconst (v := 0) C (by decide) d_M_clause_1 ?_
  refine vs_iconst (v := 2) C (by decide) d_M_clause_2 ?_
  refine vs_cS C (k_M_in l b D aC S s0 0 2) yk_M_in ml_M_98 st_M_in d_M_clause_3 rfl rfl (by exact Nat.le_of_ble_eq_true rfl) (by exact ⟨Nat.le_of_ble_eq_true rfl, Nat.le_of_ble_eq_true rfl⟩) (by exact ⟨Nat.le_of_ble_eq_true rfl, Nat.le_of_ble_eq_true rfl⟩) (fun h => by cases h) ?_
  rw [in_b (b := 3) (by decide)]
  refine vs_if_eq (tgt := 36) C d_M_clause_6 (by decide) (fun h1 => ?_) (fun h1 => ?_)
  · exact h36
  · refine vs_iload_n C rfl d_M_clause_9 ?_
    refine vs_iconst (v := 0) C (by decide) d_M_clause_10 ?_
    refine vs_bipush (v := 7) C (by decide) d_M_clause_11 ?_
    refine vs_cS C (k_M_in l b D aC S t 0 7) yk_M_in ml_M_98 st_M_in d_M_clause_13 rfl rfl (by exact Nat.le_of_ble_eq_true rfl) (by exact ⟨Nat.le_of_ble_eq_true rfl, Nat.le_of_ble_eq_true rfl⟩) (by exact ⟨Nat.le_of_ble_eq_true rfl, Nat.le_of_ble_eq_true rfl⟩) (fun h => by cases h) ?_
    rw [in_b (b := 8) (by decide)]
    refine vs_if_eq (tgt := 36) C d_M_clause_16 (by decide) (fun h2 => ?_) (fun h2 => ?_)
    · exact h36
    · refine vs_iload_n C rfl d_M_clause_19 ?_
      refine vs_iconst (v := 0) C (by decide) d_M_clause_20 ?_
      refine vs_iconst (v := 2) C (by decide) d_M_clause_21 ?_
      refine vs_cS C (k_M_in l b D aC S f 0 2) yk_M_in ml_M_98 st_M_in d_M_clause_22 rfl rfl (by exact Nat.le_of_ble_eq_true rfl) (by exact ⟨Nat.le_of_ble_eq_true rfl, Nat.le_of_ble_eq_true rfl⟩) (by exact ⟨Nat.le_of_ble_eq_true rfl, Nat.le_of_ble_eq_true rfl⟩) (fun h => by cases h) ?_
      rw [in_b (b := 3) (by decide)]
      refine vs_if_eq (tgt := 36) C d_M_clause_25 (by decide) (fun h3 => ?_) (fun h3 => ?_)
      · exact h36
      · refine vs_dload C rfl d_M_clause_28 ?_
        refine vs_cS C (k_M_isWeight l b D aC S w) yk_M_isWeight ml_M_110 st_M_isWeight d_M_clause_30 rfl rfl (by exact Nat.le_of_ble_eq_true rfl) (by exact ⟨Nat.le_of_ble_eq_true rfl, Nat.le_of_ble_eq_true rfl⟩) (by exact ⟨Nat.le_of_ble_eq_true rfl, Nat.le_of_ble_eq_true rfl⟩) (fun h => by cases h) ?_
        refine vs_if_ne (tgt := 42) C d_M_clause_33 (by decide) (fun h4 => ?_) (fun h4 => ?_)
        · exact absurd ⟨b01_n h1, b01_n h2, b01_n h3, b01_n h4⟩ hn
        · exact h36
section MCla
variable {p : Program} {l : Launch} {e : Env} {R : Room} {s : State} {m : MethodId} {args : Array Value} {below : List Frame} {meth : Method} {c : Code} {b : Nat} {D : va_G} {aC : Nat → ClassId} {Q : State → Prop} {kc ks : Nat} {ck : Bool}
theorem mcla (C : vs_X p s m args meth c b D aC "VeilSearchModel" c_M_clause 6) (S : vs_S) (s0 t f : Int32) (w : UInt64) (hok : claOK s0 t f w) (K : vs_G p l e { frames := 1, cells := 0, slots := 0, locals := 22 } s m args below meth c b D aC 6 Q 0 0 true (vs_mem S) 42 [some (.ref 35), some (.int s0), some (.int t), some (.int f), some (.double w), none] []) : vs_G p l e { frames := 1, cells := 0, slots := 0, locals := 22 } s m args below meth c b D aC 6 Q 0 0 true (vs_mem S) 0 [some (.ref 35), some (.int s0), some (.int t), some (.int f), some (.double w), none] [] := by
  refine vs_iload_n C rfl d_M_clause_0 ?_
  refine vs_iconst (v := 0) C (by decide) d_M_clause_1 ?_
  refine vs_iconst (v := 2) C (by decide) d_M_clause_2 ?_
  refine vs_cS C (k_M_in l b D aC S s0 0 2) yk_M_in ml_M_98 st_M_in d_M_clause_3 rfl rfl (by exact Nat.le_of_ble_eq_true rfl) (by exact ⟨Nat.le_of_ble_eq_true rfl, Nat.le_of_ble_eq_true rfl⟩) (by exact ⟨Nat.le_of_ble_eq_true rfl, Nat.le_of_ble_eq_true rfl⟩) (fun h => by cases h) ?_
  rw [in_b (b := 3) (by decide)]
  refine vs_if_eq (tgt := 36) C d_M_clause_6 (by decide) (fun h1 => ?_) (fun h1 => ?_)
  · exact absurd hok.1 (b01_0.mp h1)
  · refine vs_iload_n C rfl d_M_clause_9 ?_
    refine vs_iconst (v := 0) C (by decide) d_M_clause_10 ?_
    refine vs_bipush (v := 7) C (by decide) d_M_clause_11 ?_
    refine vs_cS C (k_M_in l b D aC S t 0 7) yk_M_in ml_M_98 st_M_in d_M_clause_13 rfl rfl (by exact Nat.le_of_ble_eq_true rfl) (by exact ⟨Nat.le_of_ble_eq_true rfl, Nat.le_of_ble_eq_true rfl⟩) (by exact ⟨Nat.le_of_ble_eq_true rfl, Nat.le_of_ble_eq_true rfl⟩) (fun h => by cases h) ?_
    rw [in_b (b := 8) (by decide)]
    refine vs_if_eq (tgt := 36) C d_M_clause_16 (by decide) (fun h2 => ?_) (fun h2 => ?_)
    · exact absurd hok.2.1 (b01_0.mp h2)
    · refine vs_iload_n C rfl d_M_clause_19 ?_
      refine vs_iconst (v := 0) C (by decide) d_M_clause_20 ?_
      refine vs_iconst (v := 2) C (by decide) d_M_clause_21 ?_
      refine vs_cS C (k_M_in l b D aC S f 0 2) yk_M_in ml_M_98 st_M_in d_M_clause_22 rfl rfl (by exact Nat.le_of_ble_eq_true rfl) (by exact ⟨Nat.le_of_ble_eq_true rfl, Nat.le_of_ble_eq_true rfl⟩) (by exact ⟨Nat.le_of_ble_eq_true rfl, Nat.le_of_ble_eq_true rfl⟩) (fun h => by cases h) ?_
      rw [in_b (b := 3) (by decide)]
      refine vs_if_eq (tgt := 36) C d_M_clause_25 (by decide) (fun h3 => ?_) (fun h3 => ?_)
      · exact absurd hok.2.2.1 (b01_0.mp h3)
      · refine vs_dload C rfl d_M_clause_28 ?_
        refine vs_cS C (k_M_isWeight l b D aC S w) yk_M_isWeight ml_M_110 st_M_isWeight d_M_clause_30 rfl rfl (by exact Nat.le_of_ble_eq_true rfl) (by exact ⟨Nat.le_of_ble_eq_true rfl, Nat.le_of_ble_eq_true rfl⟩) (by exact ⟨Nat.le_of_ble_eq_true rfl, Nat.le_of_ble_eq_true rfl⟩) (fun h => by cases h) ?_
        refine vs_if_ne (tgt := 42) C d_M_clause_33 (by decide) (fun h4 => ?_) (fun h4 => ?_)
        · exact K
        · exact absurd hok.2.2.2 (b01_0.mp h4)
end MCla
set_option maxRecDepth 100000 in
set_option maxHeartbeats 4000000 in
theorem k_M_clause_2 (l : Launch) (b : Nat) (D : va_G) (aC : Nat → ClassId) (S : vs_S) (s0 t f : Int32) (w : UInt64) (hok : claOK s0 t f w) (hk : (S.2.2.2.2.1 35 31) = nI 6) : vs_M l b D aC false false y_M_clause (.code y_M_clause c_M_clause 6 (Option.some Jvm.ClassFile.FieldType.int)) { frames := 1, cells := 0, slots := 0, locals := 22 } [.ref 35, .int s0, .int t, .int f, .double w] (vs_mem S) (vs_ret (some (.int 0)) (vs_mem (mTh S 2))) := by
  refine vs_M.of (by decide) (Nat.le_of_ble_eq_true rfl) ?_
  intro p e s m args below meth c C hmn hr hx htg
  generalize hQ : vs_E below args s b D aC false false (vs_ret (some (.int 0)) (vs_mem (mTh S 2))) { frames := 1, cells := 0, slots := 0, locals := 22 } = Q
  refine mcla C S s0 t f w hok ?_
  refine vs_aload_n C rfl d_M_clause_42 ?_
  refine vs_get C fl_M_146 d_M_clause_43 rfl rfl ?_
  refine vs_bipush (v := 6) C (by decide) d_M_clause_46 ?_
  refine vs_icmp_ne (tgt := 57) C d_M_clause_48 (by decide) (fun h1 => ?_) (fun h1 => ?_)
  · exact absurd hk h1
  · refine vs_aload_n C rfl d_M_clause_51 ?_
    refine vs_iconst (v := 2) C (by decide) d_M_clause_52 ?_
    refine vs_cV C (k_M_fail l b D aC S 2) yk_M_fail ml_M_102 im_M_fail se_M_fail d_M_clause_53 rfl rfl rfl rfl (by exact Nat.le_of_ble_eq_true rfl) (by exact ⟨Nat.le_of_ble_eq_true rfl, Nat.le_of_ble_eq_true rfl⟩) (by exact ⟨Nat.le_of_ble_eq_true rfl, Nat.le_of_ble_eq_true rfl⟩) (fun h => by cases h) ?_
    subst hQ
    exact vs_iret C hr d_M_clause_56 ⟨Nat.le_of_ble_eq_true rfl, Nat.le_of_ble_eq_true rfl⟩ (fun h => by cases h) (by first | exact (fun _ => rfl) | exact (fun h => by cases h)) (⟨rfl, rfl⟩)
def mclS (S : vs_S) (k : Nat) (s0 t f : Int32) (w : UInt64) : vs_S := vs_ui (vs_uD (vs_uI (vs_uI (vs_uI (mTh S 0) 53 (upd (S.1 53) k s0)) 54 (upd (S.1 54) k t)) 55 (upd (S.1 55) k f)) 58 (vf_upd (S.2.2.2.1 58) k w)) 35 31 (nI (k + 1))
set_option maxRecDepth 100000 in
set_option maxHeartbeats 4000000 in
theorem k_M_clause_0 (l : Launch) (b : Nat) (D : va_G) (aC : Nat → ClassId) (S : vs_S) (s0 t f : Int32) (w : UInt64) (k : Nat) (hok : claOK s0 t f w) (hk : (S.2.2.2.2.1 35 31) = nI k) (hk6 : k < 6) : vs_M l b D aC false false y_M_clause (.code y_M_clause c_M_clause 6 (Option.some Jvm.ClassFile.FieldType.int)) { frames := 1, cells := 0, slots := 0, locals := 22 } [.ref 35, .int s0, .int t, .int f, .double w] (vs_mem S) (vs_ret (some (.int (nI (k + 1)))) (vs_mem (mclS S k s0 t f w))) := by
  refine vs_M.of (by decide) (Nat.le_of_ble_eq_true rfl) ?_
  intro p e s m args below meth c C hmn hr hx htg
  generalize hQ : vs_E below args s b D aC false false (vs_ret (some (.int (nI (k + 1)))) (vs_mem (mclS S k s0 t f w))) { frames := 1, cells := 0, slots := 0, locals := 22 } = Q
  refine mcla C S s0 t f w hok ?_
  refine vs_aload_n C rfl d_M_clause_42 ?_
  refine vs_get C fl_M_146 d_M_clause_43 rfl rfl ?_
  refine vs_bipush (v := 6) C (by decide) d_M_clause_46 ?_
  refine vs_icmp_ne (tgt := 57) C d_M_clause_48 (by decide) (fun h1 => ?_) (fun h1 => ?_)
  · refine vs_aload_n C rfl d_M_clause_57 ?_
    refine vs_iconst (v := 0) C (by decide) d_M_clause_58 ?_
    refine vs_put C fl_M_94 d_M_clause_59 rfl rfl rfl (Nat.le_of_ble_eq_true rfl) ?_
    refine vs_aload_n C rfl d_M_clause_62 ?_
    refine vs_get C fl_M_62 d_M_clause_63 rfl rfl ?_
    refine vs_aload_n C rfl d_M_clause_66 ?_
    refine vs_get C fl_M_146 d_M_clause_67 rfl rfl ?_
    refine vs_iload_n C rfl d_M_clause_70 ?_
    refine vs_iastN C d_M_clause_71 rfl (hk) ((by omega)) (by decide) ?_
    refine vs_aload_n C rfl d_M_clause_72 ?_
    refine vs_get C fl_M_65 d_M_clause_73 rfl rfl ?_
    refine vs_aload_n C rfl d_M_clause_76 ?_
    refine vs_get C fl_M_146 d_M_clause_77 rfl rfl ?_
    refine vs_iload_n C rfl d_M_clause_80 ?_
    refine vs_iastN C d_M_clause_81 rfl (hk) ((by omega)) (by decide) ?_
    refine vs_aload_n C rfl d_M_clause_82 ?_
    refine vs_get C fl_M_68 d_M_clause_83 rfl rfl ?_
    refine vs_aload_n C rfl d_M_clause_86 ?_
    refine vs_get C fl_M_146 d_M_clause_87 rfl rfl ?_
    refine vs_iload_n C rfl d_M_clause_90 ?_
    refine vs_iastN C d_M_clause_91 rfl (hk) ((by omega)) (by decide) ?_
    refine vs_aload_n C rfl d_M_clause_92 ?_
    refine vs_get C fl_M_77 d_M_clause_93 rfl rfl ?_
    refine vs_aload_n C rfl d_M_clause_96 ?_
    refine vs_get C fl_M_146 d_M_clause_97 rfl rfl ?_
    refine vs_dload C rfl d_M_clause_100 ?_
    refine vs_dastN C d_M_clause_102 rfl (hk) ((by omega)) (by decide) ?_
    refine vs_aload_n C rfl d_M_clause_103 ?_
    refine vs_dup C rfl d_M_clause_104 ?_
    refine vs_get C fl_M_146 d_M_clause_105 rfl rfl ?_
    refine vs_iconst (v := 1) C (by decide) d_M_clause_108 ?_
    refine vs_iadd C d_M_clause_109 ?_
    refine vs_st_eq (st2 := [.int (nI (k + 1)), .ref 35]) (by rw [← nI_1 k, ← hk] <;> rfl) ?_
    refine vs_put C fl_M_146 d_M_clause_110 rfl rfl rfl (Nat.le_of_ble_eq_true rfl) ?_
    refine vs_aload_n C rfl d_M_clause_113 ?_
    refine vs_get C fl_M_146 d_M_clause_114 rfl rfl ?_
    subst hQ
    exact vs_iret C hr d_M_clause_117 ⟨Nat.le_of_ble_eq_true rfl, Nat.le_of_ble_eq_true rfl⟩ (fun h => by cases h) (by first | exact (fun _ => rfl) | exact (fun h => by cases h)) (⟨rfl, rfl⟩)
  · rw [hk] at h1
    exact absurd ((nI_eq (by omega) (by decide)).mp (show nI k = nI 6 from h1)) (by omega)
def cn (P : Nat → Bool) : Nat → Nat
  | 0 => 0
  | i + 1 => if P i = true then cn P i + 1 else cn P i
theorem cn_le (P : Nat → Bool) : ∀ n, cn P n ≤ n
  | 0 => Nat.le_refl _
  | n + 1 => by
    have := cn_le P n
    simp only [cn]
    split <;> omega
section MSz
variable {p : Program} {l : Launch} {e : Env} {R : Room} {s : State} {m : MethodId} {args : Array Value} {below : List Frame} {meth : Method} {c : Code} {b : Nat} {D : va_G} {aC : Nat → ClassId} {Q : State → Prop} {kc ks : Nat} {ck : Bool}
theorem msz (C : vs_X p s m args meth c b D aC "VeilSearchModel" c_M_sizeOf 4) (S : vs_S) (x : Int32) (kd : Nat) (hkd : (S.2.2.2.2.1 35 27) = nI kd) (hkd40 : kd ≤ 40) (K : vs_G p l e { frames := 0, cells := 0, slots := 0, locals := 0 } s m args below meth c b D aC 4 Q 0 0 true (vs_mem S) 31 [some (.ref 35), some (.int x), some (.int (nI (cn (fun d => decide (S.1 47 d = x)) kd))), some (.int (nI kd))] []) : ∀ n i : Nat, i ≤ kd → kd - i < n → vs_G p l e { frames := 0, cells := 0, slots := 0, locals := 0 } s m args below meth c b D aC 4 Q 0 0 true (vs_mem S) 4 [some (.ref 35), some (.int x), some (.int (nI (cn (fun d => decide (S.1 47 d = x)) i))), some (.int (nI i))] [] := by
  intro n
  induction n with
  | zero => intro i _ h; omega
  | succ n ih =>
    intro i hi hn
    refine vs_iload_n C rfl d_M_sizeOf_4 ?_
    refine vs_aload_n C rfl d_M_sizeOf_5 ?_
    refine vs_get C fl_M_116 d_M_sizeOf_6 rfl rfl ?_
    refine vs_icmp_ge (tgt := 31) C d_M_sizeOf_9 (by decide) (fun h1 => ?_) (fun h1 => ?_)
    · have h2 := n_ge (N := kd) (i := i) h1 hkd rfl (by omega) (by omega)
      obtain rfl : i = kd := by omega
      exact K
    · have hlt := n_lt (N := kd) (i := i) h1 hkd rfl (by omega) (by omega)
      have := ih (i + 1) (by omega) (by omega)
      refine vs_aload_n C rfl d_M_sizeOf_12 ?_
      refine vs_get C fl_M_43 d_M_sizeOf_13 rfl rfl ?_
      refine vs_iload_n C rfl d_M_sizeOf_16 ?_
      refine vs_ialdN C d_M_sizeOf_17 rfl (rfl) ((by omega)) (by decide) ?_
      refine vs_iload_n C rfl d_M_sizeOf_18 ?_
      refine vs_icmp_ne (tgt := 25) C d_M_sizeOf_19 (by decide) (fun h2 => ?_) (fun h2 => ?_)
      · refine vs_iinc C d_M_sizeOf_25 rfl (nI_1 i) (by decide) ?_
        refine vs_goto (tgt := 4) C d_M_sizeOf_28 (by decide) ?_
        rw [show cn (fun d => decide (S.1 47 d = x)) (i + 1) = cn (fun d => decide (S.1 47 d = x)) i from if_neg (by rw [decide_eq_true_eq]; exact h2)] at this
        exact this
      · refine vs_iinc C d_M_sizeOf_22 rfl (nI_1 (cn (fun d => decide (S.1 47 d = x)) i)) (by decide) ?_
        refine vs_iinc C d_M_sizeOf_25 rfl (nI_1 i) (by decide) ?_
        refine vs_goto (tgt := 4) C d_M_sizeOf_28 (by decide) ?_
        rw [show cn (fun d => decide (S.1 47 d = x)) (i + 1) = cn (fun d => decide (S.1 47 d = x)) i + 1 from if_pos (by rw [decide_eq_true_eq]; exact h2)] at this
        exact this
end MSz
set_option maxRecDepth 100000 in
set_option maxHeartbeats 4000000 in
theorem k_M_sizeOf (l : Launch) (b : Nat) (D : va_G) (aC : Nat → ClassId) (S : vs_S) (x : Int32) (kd : Nat) (hkd : (S.2.2.2.2.1 35 27) = nI kd) (hkd40 : kd ≤ 40) : vs_M l b D aC false true y_M_sizeOf (.code y_M_sizeOf c_M_sizeOf 4 (Option.some Jvm.ClassFile.FieldType.int)) { frames := 0, cells := 0, slots := 0, locals := 0 } [.ref 35, .int x] (vs_mem S) (vs_ret (some (.int (nI (cn (fun d => decide (S.1 47 d = x)) kd)))) (vs_mem S)) := by
  refine vs_M.of (by decide) (Nat.le_of_ble_eq_true rfl) ?_
  intro p e s m args below meth c C hmn hr hx htg
  generalize hQ : vs_E below args s b D aC false true (vs_ret (some (.int (nI (cn (fun d => decide (S.1 47 d = x)) kd)))) (vs_mem S)) { frames := 0, cells := 0, slots := 0, locals := 0 } = Q
  refine vs_iconst (v := 0) C (by decide) d_M_sizeOf_0 ?_
  refine vs_istore_n C d_M_sizeOf_1 (by decide) ?_
  refine vs_iconst (v := 0) C (by decide) d_M_sizeOf_2 ?_
  refine vs_istore_n C d_M_sizeOf_3 (by decide) ?_
  refine msz C S x kd hkd hkd40 ?_ (kd + 1) 0 (Nat.zero_le _) (by omega)
  refine vs_iload_n C rfl d_M_sizeOf_31 ?_
  subst hQ
  exact vs_iret C hr d_M_sizeOf_32 ⟨Nat.le_of_ble_eq_true rfl, Nat.le_of_ble_eq_true rfl⟩ (fun h => by cases h) (by first | exact (fun _ => rfl) | exact (fun h => by cases h)) (⟨rfl, rfl⟩)
set_option maxRecDepth 100000 in
set_option maxHeartbeats 4000000 in
theorem k_M_flush_1 (l : Launch) (b : Nat) (D : va_G) (aC : Nat → ClassId) (S : vs_S) (hk : (S.2.2.2.2.1 35 28) = nI 6) : vs_M l b D aC false false y_M_flush (.code y_M_flush c_M_flush 3 (Option.some Jvm.ClassFile.FieldType.int)) { frames := 1, cells := 0, slots := 0, locals := 23 } [.ref 35] (vs_mem S) (vs_ret (some (.int 0)) (vs_mem (mTh S 1))) := by
  refine vs_M.of (by decide) (Nat.le_of_ble_eq_true rfl) ?_
  intro p e s m args below meth c C hmn hr hx htg
  generalize hQ : vs_E below args s b D aC false false (vs_ret (some (.int 0)) (vs_mem (mTh S 1))) { frames := 1, cells := 0, slots := 0, locals := 23 } = Q
  refine vs_aload_n C rfl d_M_flush_0 ?_
  refine vs_get C fl_M_119 d_M_flush_1 rfl rfl ?_
  refine vs_bipush (v := 6) C (by decide) d_M_flush_4 ?_
  refine vs_icmp_ne (tgt := 15) C d_M_flush_6 (by decide) (fun h1 => ?_) (fun h1 => ?_)
  · exact absurd hk h1
  · refine vs_aload_n C rfl d_M_flush_9 ?_
    refine vs_iconst (v := 1) C (by decide) d_M_flush_10 ?_
    refine vs_cV C (k_M_fail l b D aC S 1) yk_M_fail ml_M_102 im_M_fail se_M_fail d_M_flush_11 rfl rfl rfl rfl (by exact Nat.le_of_ble_eq_true rfl) (by exact ⟨Nat.le_of_ble_eq_true rfl, Nat.le_of_ble_eq_true rfl⟩) (by exact ⟨Nat.le_of_ble_eq_true rfl, Nat.le_of_ble_eq_true rfl⟩) (fun h => by cases h) ?_
    subst hQ
    exact vs_iret C hr d_M_flush_14 ⟨Nat.le_of_ble_eq_true rfl, Nat.le_of_ble_eq_true rfl⟩ (fun h => by cases h) (by first | exact (fun _ => rfl) | exact (fun h => by cases h)) (⟨rfl, rfl⟩)
/-- a row changed below i where P holds -/
def chg (P : Nat → Bool) (v f : Nat → Int32) (i : Nat) : Nat → Int32 := fun d => if d < i ∧ P d = true then v d else f d
theorem chg_0 (P : Nat → Bool) (v f : Nat → Int32) : chg P v f 0 = f := by
  funext d
  exact if_neg (fun h => absurd h.1 (by omega))
theorem chg_t {P : Nat → Bool} {v f : Nat → Int32} {i : Nat} (h : P i = true) : upd (chg P v f i) i (v i) = chg P v f (i + 1) := by
  funext d
  simp only [upd, chg]
  by_cases h1 : d = i
  · subst h1
    rw [if_pos rfl, if_pos ⟨by omega, h⟩]
  · rw [if_neg h1]
    by_cases h2 : d < i ∧ P d = true
    · rw [if_pos h2, if_pos ⟨by omega, h2.2⟩]
    · rw [if_neg h2, if_neg (fun q => h2 ⟨by omega, q.2⟩)]
theorem chg_f {P : Nat → Bool} {v f : Nat → Int32} {i : Nat} (h : ¬ P i = true) : chg P v f i = chg P v f (i + 1) := by
  funext d
  simp only [chg]
  by_cases h1 : d = i
  · subst h1
    rw [if_neg (fun q => absurd q.1 (by omega)), if_neg (fun q => h q.2)]
  · by_cases h2 : d < i ∧ P d = true
    · rw [if_pos h2, if_pos ⟨by omega, h2.2⟩]
    · rw [if_neg h2, if_neg (fun q => h2 ⟨by omega, q.2⟩)]
theorem chg_at {P : Nat → Bool} {v f : Nat → Int32} {i : Nat} : chg P v f i i = f i := if_neg (fun h => absurd h.1 (by omega))
def isB (S : vs_S) (d : Nat) : Bool := decide (S.1 47 d = -1)
def fgS (S : vs_S) (i : Nat) : vs_S := vs_uI S 47 (chg (isB S) (fun _ => S.2.2.2.2.1 35 30) (S.1 47) i)
section MFl
variable {p : Program} {l : Launch} {e : Env} {R : Room} {s : State} {m : MethodId} {args : Array Value} {below : List Frame} {meth : Method} {c : Code} {b : Nat} {D : va_G} {aC : Nat → ClassId} {Q : State → Prop} {kc ks : Nat} {ck : Bool}
theorem mfl (C : vs_X p s m args meth c b D aC "VeilSearchModel" c_M_flush 3) (S : vs_S) (z : Int32) (kd : Nat) (hkd : (S.2.2.2.2.1 35 27) = nI kd) (hkd40 : kd ≤ 40) (K : vs_G p l e { frames := 1, cells := 0, slots := 0, locals := 23 } s m args below meth c b D aC 3 Q 0 0 false (vs_mem (fgS S kd)) 68 [some (.ref 35), some (.int z), some (.int (nI kd))] []) : ∀ n i : Nat, i ≤ kd → kd - i < n → vs_G p l e { frames := 1, cells := 0, slots := 0, locals := 23 } s m args below meth c b D aC 3 Q 0 0 false (vs_mem (fgS S i)) 34 [some (.ref 35), some (.int z), some (.int (nI i))] [] := by
  intro n
  induction n with
  | zero => intro i _ h; omega
  | succ n ih =>
    intro i hi hn
    refine vs_iload_n C rfl d_M_flush_34 ?_
    refine vs_aload_n C rfl d_M_flush_35 ?_
    refine vs_get C fl_M_116 d_M_flush_36 rfl rfl ?_
    refine vs_icmp_ge (tgt := 68) C d_M_flush_39 (by decide) (fun h1 => ?_) (fun h1 => ?_)
    · have h2 := n_ge (N := kd) (i := i) h1 hkd rfl (by omega) (by omega)
      obtain rfl : i = kd := by omega
      exact K
    · have hlt := n_lt (N := kd) (i := i) h1 hkd rfl (by omega) (by omega)
      have hgo : vs_G p l e { frames := 1, cells := 0, slots := 0, locals := 23 } s m args below meth c b D aC 3 Q 0 0 false (vs_mem (fgS S (i + 1))) 62 [some (.ref 35), some (.int z), some (.int (nI i))] [] := by
        refine vs_iinc C d_M_flush_62 rfl (nI_1 i) (by decide) ?_
        refine vs_goto (tgt := 34) C d_M_flush_65 (by decide) ?_
        exact ih (i + 1) (by omega) (by omega)
      refine vs_aload_n C rfl d_M_flush_42 ?_
      refine vs_get C fl_M_43 d_M_flush_43 rfl rfl ?_
      refine vs_iload_n C rfl d_M_flush_46 ?_
      refine vs_ialdN C d_M_flush_47 rfl (rfl) ((by omega)) (by decide) ?_
      refine vs_iconst (v := (-1)) C (by decide) d_M_flush_48 ?_
      have e : (fgS S i).1 47 i = S.1 47 i := chg_at (P := isB S) (v := fun _ => S.2.2.2.2.1 35 30) (f := S.1 47)
      refine vs_icmp_ne (tgt := 62) C d_M_flush_49 (by decide) (fun h2 => ?_) (fun h2 => ?_)
      · have h2' : ¬ (fgS S i).1 47 i = -1 := h2
        rw [e] at h2'
        have e2 : fgS S i = fgS S (i + 1) := by
          unfold fgS
          rw [chg_f (by unfold isB; rw [decide_eq_true_eq]; exact h2')]
        rw [e2]
        exact hgo
      · have h2' : (fgS S i).1 47 i = -1 := h2
        rw [e] at h2'
        refine vs_aload_n C rfl d_M_flush_52 ?_
        refine vs_get C fl_M_43 d_M_flush_53 rfl rfl ?_
        refine vs_iload_n C rfl d_M_flush_56 ?_
        refine vs_aload_n C rfl d_M_flush_57 ?_
        refine vs_get C fl_M_125 d_M_flush_58 rfl rfl ?_
        refine vs_iastN C d_M_flush_61 rfl (rfl) ((by omega)) (by decide) ?_
        refine vs_mem_eq (mem2 := vs_mem (fgS S (i + 1))) ?_ hgo
        unfold fgS
        rw [← chg_t (i := i) (show isB S i = true by unfold isB; rw [decide_eq_true_eq]; exact h2')]
        rfl
end MFl
def mflS (S : vs_S) (k kd : Nat) : vs_S := vs_ui (vs_ui (vs_uI (fgS (mTh S 0) kd) 51 (upd (S.1 51) k (S.2.2.2.2.1 35 30))) 35 28 (nI (k + 1))) 35 30 ((S.2.2.2.2.1 35 30) + 1)
set_option maxRecDepth 100000 in
set_option maxHeartbeats 4000000 in
theorem k_M_flush_0 (l : Launch) (b : Nat) (D : va_G) (aC : Nat → ClassId) (S : vs_S) (k kd : Nat) (hk : (S.2.2.2.2.1 35 28) = nI k) (hk6 : k < 6) (hkd : (S.2.2.2.2.1 35 27) = nI kd) (hkd40 : kd ≤ 40) (h0 : cn (isB S) kd = 0) : vs_M l b D aC false false y_M_flush (.code y_M_flush c_M_flush 3 (Option.some Jvm.ClassFile.FieldType.int)) { frames := 1, cells := 0, slots := 0, locals := 23 } [.ref 35] (vs_mem S) (vs_ret (some (.int 0)) (vs_mem (mTh S 0))) := by
  refine vs_M.of (by decide) (Nat.le_of_ble_eq_true rfl) ?_
  intro p e s m args below meth c C hmn hr hx htg
  generalize hQ : vs_E below args s b D aC false false (vs_ret (some (.int 0)) (vs_mem (mTh S 0))) { frames := 1, cells := 0, slots := 0, locals := 23 } = Q
  refine vs_aload_n C rfl d_M_flush_0 ?_
  refine vs_get C fl_M_119 d_M_flush_1 rfl rfl ?_
  refine vs_bipush (v := 6) C (by decide) d_M_flush_4 ?_
  refine vs_icmp_ne (tgt := 15) C d_M_flush_6 (by decide) (fun h1 => ?_) (fun h1 => ?_)
  · refine vs_aload_n C rfl d_M_flush_15 ?_
    refine vs_iconst (v := 0) C (by decide) d_M_flush_16 ?_
    refine vs_put C fl_M_94 d_M_flush_17 rfl rfl rfl (Nat.le_of_ble_eq_true rfl) ?_
    refine vs_aload_n C rfl d_M_flush_20 ?_
    refine vs_iconst (v := (-1)) C (by decide) d_M_flush_21 ?_
    refine vs_mem_eq (mem2 := vs_mem (mTh S 0)) rfl ?_
    refine vs_cV C (k_M_sizeOf l b D aC (mTh S 0) (-1) kd hkd hkd40) yk_M_sizeOf ml_M_122 im_M_sizeOf se_M_sizeOf d_M_flush_22 rfl rfl rfl rfl (by exact Nat.le_of_ble_eq_true rfl) (by exact ⟨Nat.le_of_ble_eq_true rfl, Nat.le_of_ble_eq_true rfl⟩) (by exact ⟨Nat.le_of_ble_eq_true rfl, Nat.le_of_ble_eq_true rfl⟩) (fun h => by cases h) ?_
    rw [show cn (fun d => decide ((mTh S 0).1 47 d = -1)) kd = 0 from h0]
    refine vs_istore_n C d_M_flush_25 (by decide) ?_
    refine vs_iload_n C rfl d_M_flush_26 ?_
    refine vs_if_ne (tgt := 32) C d_M_flush_27 (by decide) (fun h2 => ?_) (fun h2 => ?_)
    · exact absurd rfl h2
    · refine vs_iconst (v := 0) C (by decide) d_M_flush_30 ?_
      subst hQ
      exact vs_iret C hr d_M_flush_31 ⟨Nat.le_of_ble_eq_true rfl, Nat.le_of_ble_eq_true rfl⟩ (fun h => by cases h) (by first | exact (fun _ => rfl) | exact (fun h => by cases h)) (⟨rfl, rfl⟩)
  · rw [hk] at h1
    exact absurd ((nI_eq (by omega) (by decide)).mp (show nI k = nI 6 from h1)) (by omega)
set_option maxRecDepth 100000 in
set_option maxHeartbeats 4000000 in
theorem k_M_flush_2 (l : Launch) (b : Nat) (D : va_G) (aC : Nat → ClassId) (S : vs_S) (k kd : Nat) (hk : (S.2.2.2.2.1 35 28) = nI k) (hk6 : k < 6) (hkd : (S.2.2.2.2.1 35 27) = nI kd) (hkd40 : kd ≤ 40) (h0 : ¬ cn (isB S) kd = 0) : vs_M l b D aC false false y_M_flush (.code y_M_flush c_M_flush 3 (Option.some Jvm.ClassFile.FieldType.int)) { frames := 1, cells := 0, slots := 0, locals := 23 } [.ref 35] (vs_mem S) (vs_ret (some (.int (nI (cn (isB S) kd)))) (vs_mem (mflS S k kd))) := by
  refine vs_M.of (by decide) (Nat.le_of_ble_eq_true rfl) ?_
  intro p e s m args below meth c C hmn hr hx htg
  generalize hQ : vs_E below args s b D aC false false (vs_ret (some (.int (nI (cn (isB S) kd)))) (vs_mem (mflS S k kd))) { frames := 1, cells := 0, slots := 0, locals := 23 } = Q
  refine vs_aload_n C rfl d_M_flush_0 ?_
  refine vs_get C fl_M_119 d_M_flush_1 rfl rfl ?_
  refine vs_bipush (v := 6) C (by decide) d_M_flush_4 ?_
  refine vs_icmp_ne (tgt := 15) C d_M_flush_6 (by decide) (fun h1 => ?_) (fun h1 => ?_)
  · refine vs_aload_n C rfl d_M_flush_15 ?_
    refine vs_iconst (v := 0) C (by decide) d_M_flush_16 ?_
    refine vs_put C fl_M_94 d_M_flush_17 rfl rfl rfl (Nat.le_of_ble_eq_true rfl) ?_
    refine vs_aload_n C rfl d_M_flush_20 ?_
    refine vs_iconst (v := (-1)) C (by decide) d_M_flush_21 ?_
    refine vs_mem_eq (mem2 := vs_mem (mTh S 0)) rfl ?_
    refine vs_cV C (k_M_sizeOf l b D aC (mTh S 0) (-1) kd hkd hkd40) yk_M_sizeOf ml_M_122 im_M_sizeOf se_M_sizeOf d_M_flush_22 rfl rfl rfl rfl (by exact Nat.le_of_ble_eq_true rfl) (by exact ⟨Nat.le_of_ble_eq_true rfl, Nat.le_of_ble_eq_true rfl⟩) (by exact ⟨Nat.le_of_ble_eq_true rfl, Nat.le_of_ble_eq_true rfl⟩) (fun h => by cases h) ?_
    rw [show cn (fun d => decide ((mTh S 0).1 47 d = -1)) kd = cn (isB S) kd from rfl]
    have hle := cn_le (isB S) kd
    generalize cn (isB S) kd = q at h0 hQ hle
    refine vs_istore_n C d_M_flush_25 (by decide) ?_
    refine vs_iload_n C rfl d_M_flush_26 ?_
    refine vs_if_ne (tgt := 32) C d_M_flush_27 (by decide) (fun h2 => ?_) (fun h2 => ?_)
    · refine vs_iconst (v := 0) C (by decide) d_M_flush_32 ?_
      refine vs_istore_n C d_M_flush_33 (by decide) ?_
      refine vs_ck (vs_mem_eq (mem2 := vs_mem (fgS (mTh S 0) 0)) (by unfold fgS; rw [chg_0]; rfl) (mfl C (mTh S 0) (nI q) kd hkd hkd40 ?_ (kd + 1) 0 (Nat.zero_le _) (by omega)))
      refine vs_aload_n C rfl d_M_flush_68 ?_
      refine vs_get C fl_M_56 d_M_flush_69 rfl rfl ?_
      refine vs_aload_n C rfl d_M_flush_72 ?_
      refine vs_get C fl_M_119 d_M_flush_73 rfl rfl ?_
      refine vs_aload_n C rfl d_M_flush_76 ?_
      refine vs_get C fl_M_125 d_M_flush_77 rfl rfl ?_
      refine vs_iastN C d_M_flush_80 rfl (hk) ((by omega)) (by decide) ?_
      refine vs_aload_n C rfl d_M_flush_81 ?_
      refine vs_dup C rfl d_M_flush_82 ?_
      refine vs_get C fl_M_119 d_M_flush_83 rfl rfl ?_
      refine vs_iconst (v := 1) C (by decide) d_M_flush_86 ?_
      refine vs_iadd C d_M_flush_87 ?_
      refine vs_st_eq (st2 := [.int (nI (k + 1)), .ref 35]) (by rw [← nI_1 k, ← hk] <;> rfl) ?_
      refine vs_put C fl_M_119 d_M_flush_88 rfl rfl rfl (Nat.le_of_ble_eq_true rfl) ?_
      refine vs_aload_n C rfl d_M_flush_91 ?_
      refine vs_dup C rfl d_M_flush_92 ?_
      refine vs_get C fl_M_125 d_M_flush_93 rfl rfl ?_
      refine vs_iconst (v := 1) C (by decide) d_M_flush_96 ?_
      refine vs_iadd C d_M_flush_97 ?_
      refine vs_put C fl_M_125 d_M_flush_98 rfl rfl rfl (Nat.le_of_ble_eq_true rfl) ?_
      refine vs_iload_n C rfl d_M_flush_101 ?_
      subst hQ
      exact vs_iret C hr d_M_flush_102 ⟨Nat.le_of_ble_eq_true rfl, Nat.le_of_ble_eq_true rfl⟩ (fun h => by cases h) (by first | exact (fun _ => rfl) | exact (fun h => by cases h)) (⟨rfl, rfl⟩)
    · exact absurd ((nI_eq (by omega) (by decide)).mp (show nI q = nI 0 from h2)) h0
  · rw [hk] at h1
    exact absurd ((nI_eq (by omega) (by decide)).mp (show nI k = nI 6 from h1)) (by omega)

