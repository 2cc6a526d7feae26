def mTh (S : vs_S) (k : Int32) : vs_S := vs_ui S 35 39 k
set_option maxRecDepth 100000 in
set_option maxHeartbeats 4000000 in
theorem k_M_member_0 (l : Launch) (b : Nat) (D : va_G) (aC : Nat → ClassId) (S : vs_S) (mm g on : Int32) (hok : memOK mm g) : vs_M l b D aC false false y_M_member (.code y_M_member c_M_member 6 (Option.some Jvm.ClassFile.FieldType.boolean)) { frames := 1, cells := 0, slots := 0, locals := 22 } [.ref 35, .int mm, .int g, .int on] (vs_mem S) (vs_ret (some (.int (b01 (¬ jn_v (S.1 36 mm.toNatClampNeg) g on = S.1 36 mm.toNatClampNeg)))) (vs_mem (vs_uI (mTh S 0) 36 (upd (S.1 36) mm.toNatClampNeg (jn_v (S.1 36 mm.toNatClampNeg) g on))))) := by
  refine vs_M.of (by decide) (Nat.le_of_ble_eq_true rfl) ?_
  intro p e s m args below meth c C hmn hr hx htg
  generalize hQ : vs_E below args s b D aC false false (vs_ret (some (.int (b01 (¬ jn_v (S.1 36 mm.toNatClampNeg) g on = S.1 36 mm.toNatClampNeg)))) (vs_mem (vs_uI (mTh S 0) 36 (upd (S.1 36) mm.toNatClampNeg (jn_v (S.1 36 mm.toNatClampNeg) g on))))) { frames := 1, cells := 0, slots := 0, locals := 22 } = Q
  obtain ⟨hlt, hmm⟩ := nI_rng (n := 16) hok.1.1 hok.1.2 (by decide)
  generalize mm.toNatClampNeg = i at hlt hmm hQ
  subst hmm
  have h73 : ∀ v, v = jn_v (S.1 36 i) g on → vs_G p l e { frames := 1, cells := 0, slots := 0, locals := 22 } s m args below meth c b D aC 6 Q 0 0 false (vs_mem (mTh S 0)) 73 [some (.ref 35), some (.int (nI i)), some (.int g), some (.int on), none, none] [.int v] := by
    intro v hv
    rw [← hv] at hQ
    refine vs_istore C d_M_member_73 (by decide) ?_
    refine vs_iload C rfl d_M_member_75 ?_
    refine vs_aload_n C rfl d_M_member_77 ?_
    refine vs_get C fl_M_7 d_M_member_78 rfl rfl ?_
    refine vs_iload_n C rfl d_M_member_81 ?_
    refine vs_ialdN C d_M_member_82 rfl (rfl) (hlt) (by decide) ?_
    refine vs_icmp_eq (tgt := 90) C d_M_member_83 (by decide) (fun h1 => ?_) (fun h1 => ?_)
    · refine vs_iconst (v := 0) C (by decide) d_M_member_90 ?_
      refine vs_istore C d_M_member_91 (by decide) ?_
      refine vs_aload_n C rfl d_M_member_93 ?_
      refine vs_get C fl_M_7 d_M_member_94 rfl rfl ?_
      refine vs_iload_n C rfl d_M_member_97 ?_
      refine vs_iload C rfl d_M_member_98 ?_
      refine vs_iastN C d_M_member_100 rfl (rfl) (hlt) (by decide) ?_
      refine vs_iload C rfl d_M_member_101 ?_
      have h1' : v = S.1 36 i := h1
      subst hQ
      exact vs_zret C hr (by first | rfl | exact nr01) d_M_member_103 ⟨Nat.le_of_ble_eq_true rfl, Nat.le_of_ble_eq_true rfl⟩ (fun h => by cases h) (by first | exact (fun _ => rfl) | exact (fun h => by cases h)) (⟨by rw [b01_f (fun h => h h1')], rfl⟩)
    · refine vs_iconst (v := 1) C (by decide) d_M_member_86 ?_
      refine vs_goto (tgt := 91) C d_M_member_87 (by decide) ?_
      refine vs_istore C d_M_member_91 (by decide) ?_
      refine vs_aload_n C rfl d_M_member_93 ?_
      refine vs_get C fl_M_7 d_M_member_94 rfl rfl ?_
      refine vs_iload_n C rfl d_M_member_97 ?_
      refine vs_iload C rfl d_M_member_98 ?_
      refine vs_iastN C d_M_member_100 rfl (rfl) (hlt) (by decide) ?_
      refine vs_iload C rfl d_M_member_101 ?_
      have h1' : ¬ v = S.1 36 i := h1
      subst hQ
      exact vs_zret C hr (by first | rfl | exact nr01) d_M_member_103 ⟨Nat.le_of_ble_eq_true rfl, Nat.le_of_ble_eq_true rfl⟩ (fun h => by cases h) (by first | exact (fun _ => rfl) | exact (fun h => by cases h)) (⟨by rw [b01_t h1'], rfl⟩)
  refine vs_aload_n C rfl d_M_member_0 ?_
  refine vs_iload_n C rfl d_M_member_1 ?_
  refine vs_iconst (v := 0) C (by decide) d_M_member_2 ?_
  refine vs_bipush (v := 15) C (by decide) d_M_member_3 ?_
  refine vs_cS C (k_M_in l b D aC S (nI i) 0 15) yk_M_in ml_M_98 st_M_in d_M_member_5 rfl rfl (by exact Nat.le_of_ble_eq_true rfl) (by exact ⟨Nat.le_of_ble_eq_true rfl, Nat.le_of_ble_eq_true rfl⟩) (by exact ⟨Nat.le_of_ble_eq_true rfl, Nat.le_of_ble_eq_true rfl⟩) (fun h => by cases h) ?_
  rw [in_b (b := 16) (by decide)]
  refine vs_if_eq (tgt := 31) C d_M_member_8 (by decide) (fun h1 => ?_) (fun h1 => ?_)
  · exact absurd hok.1 (b01_0.mp h1)
  · refine vs_iload_n C rfl d_M_member_11 ?_
    refine vs_bipush (v := 8) C (by decide) d_M_member_12 ?_
    refine vs_bipush (v := 15) C (by decide) d_M_member_14 ?_
    refine vs_cS C (k_M_in l b D aC S g 8 15) yk_M_in ml_M_98 st_M_in d_M_member_16 rfl rfl (by exact Nat.le_of_ble_eq_true rfl) (by exact ⟨Nat.le_of_ble_eq_true rfl, Nat.le_of_ble_eq_true rfl⟩) (by exact ⟨Nat.le_of_ble_eq_true rfl, Nat.le_of_ble_eq_true rfl⟩) (fun h => by cases h) ?_
    rw [in_b (b := 16) (by decide)]
    refine vs_if_eq (tgt := 31) C d_M_member_19 (by decide) (fun h2 => ?_) (fun h2 => ?_)
    · exact absurd ⟨Int32.not_lt.mp hok.2.2.1, hok.2.1.2⟩ (b01_0.mp h2)
    · refine vs_iload_n C rfl d_M_member_22 ?_
      refine vs_iload_n C rfl d_M_member_23 ?_
      refine vs_icmp_eq (tgt := 31) C d_M_member_24 (by decide) (fun h3 => ?_) (fun h3 => ?_)
      · exact absurd h3 hok.2.2.2
      · refine vs_iconst (v := 0) C (by decide) d_M_member_27 ?_
        refine vs_goto (tgt := 32) C d_M_member_28 (by decide) ?_
        refine vs_put C fl_M_94 d_M_member_32 rfl rfl rfl (Nat.le_of_ble_eq_true rfl) ?_
        refine vs_aload_n C rfl d_M_member_35 ?_
        refine vs_get C fl_M_94 d_M_member_36 rfl rfl ?_
        refine vs_if_le (tgt := 44) C d_M_member_39 (by decide) (fun h4 => ?_) (fun h4 => ?_)
        · refine vs_iload_n C rfl d_M_member_44 ?_
          refine vs_if_eq (tgt := 61) C d_M_member_45 (by decide) (fun h5 => ?_) (fun h5 => ?_)
          · refine vs_aload_n C rfl d_M_member_61 ?_
            refine vs_get C fl_M_7 d_M_member_62 rfl rfl ?_
            refine vs_iload_n C rfl d_M_member_65 ?_
            refine vs_ialdN C d_M_member_66 rfl (rfl) (hlt) (by decide) ?_
            refine vs_iconst (v := 1) C (by decide) d_M_member_67 ?_
            refine vs_iload_n C rfl d_M_member_68 ?_
            refine vs_ishl C d_M_member_69 ?_
            refine vs_iconst (v := (-1)) C (by decide) d_M_member_70 ?_
            refine vs_ixor C d_M_member_71 ?_
            refine vs_iand C d_M_member_72 ?_
            exact h73 _ (if_pos h5).symm
          · refine vs_aload_n C rfl d_M_member_48 ?_
            refine vs_get C fl_M_7 d_M_member_49 rfl rfl ?_
            refine vs_iload_n C rfl d_M_member_52 ?_
            refine vs_ialdN C d_M_member_53 rfl (rfl) (hlt) (by decide) ?_
            refine vs_iconst (v := 1) C (by decide) d_M_member_54 ?_
            refine vs_iload_n C rfl d_M_member_55 ?_
            refine vs_ishl C d_M_member_56 ?_
            refine vs_ior C d_M_member_57 ?_
            refine vs_goto (tgt := 73) C d_M_member_58 (by decide) ?_
            exact h73 _ (if_neg h5).symm
        · exact absurd (Int32.le_refl _) h4
set_option maxRecDepth 100000 in
set_option maxHeartbeats 4000000 in
theorem k_M_member_1 (l : Launch) (b : Nat) (D : va_G) (aC : Nat → ClassId) (S : vs_S) (mm g on : Int32) (hn : ¬ memOK mm g) : vs_M l b D aC false false y_M_member (.code y_M_member c_M_member 6 (Option.some Jvm.ClassFile.FieldType.boolean)) { frames := 1, cells := 0, slots := 0, locals := 22 } [.ref 35, .int mm, .int g, .int on] (vs_mem S) (vs_ret (some (.int 0)) (vs_mem (mTh S 1))) := by
  refine vs_M.of (by decide) (Nat.le_of_ble_eq_true rfl) ?_
  intro p e s m args below meth c C hmn hr hx htg
  generalize hQ : vs_E below args s b D aC false false (vs_ret (some (.int 0)) (vs_mem (mTh S 1))) { frames := 1, cells := 0, slots := 0, locals := 22 } = Q
  have h31 : vs_G p l e { frames := 1, cells := 0, slots := 0, locals := 22 } s m args below meth c b D aC 6 Q 0 0 true (vs_mem S) 31 [some (.ref 35), some (.int mm), some (.int g), some (.int on), none, none] [.ref 35] := by
    refine vs_iconst (v := 1) C (by decide) d_M_member_31 ?_
    refine vs_put C fl_M_94 d_M_member_32 rfl rfl rfl (Nat.le_of_ble_eq_true rfl) ?_
    refine vs_aload_n C rfl d_M_member_35 ?_
    refine vs_get C fl_M_94 d_M_member_36 rfl rfl ?_
    refine vs_if_le (tgt := 44) C d_M_member_39 (by decide) (fun h1 => ?_) (fun h1 => ?_)
    · exact absurd h1 (by decide)
    · refine vs_iconst (v := 0) C (by decide) d_M_member_42 ?_
      subst hQ
      exact vs_zret C hr (by first | rfl | exact nr01) d_M_member_43 ⟨Nat.le_of_ble_eq_true rfl, Nat.le_of_ble_eq_true rfl⟩ (fun h => by cases h) (by first | exact (fun _ => rfl) | exact (fun h => by cases h)) (⟨rfl, rfl⟩)
  refine vs_aload_n C rfl d_M_member_0 ?_
  refine vs_iload_n C rfl d_M_member_1 ?_
  refine vs_iconst (v := 0) C (by decide) d_M_member_2 ?_
  refine vs_bipush (v := 15) C (by decide) d_M_member_3 ?_
  refine vs_cS C (k_M_in l b D aC S mm 0 15) yk_M_in ml_M_98 st_M_in d_M_member_5 rfl rfl (by exact Nat.le_of_ble_eq_true rfl) (by exact ⟨Nat.le_of_ble_eq_true rfl, Nat.le_of_ble_eq_true rfl⟩) (by exact ⟨Nat.le_of_ble_eq_true rfl, Nat.le_of_ble_eq_true rfl⟩) (fun h => by cases h) ?_
  rw [in_b (b := 16) (by decide)]
  refine vs_if_eq (tgt := 31) C d_M_member_8 (by decide) (fun h1 => ?_) (fun h1 => ?_)
  · exact h31
  · refine vs_iload_n C rfl d_M_member_11 ?_
    refine vs_bipush (v := 8) C (by decide) d_M_member_12 ?_
    refine vs_bipush (v := 15) C (by decide) d_M_member_14 ?_
    refine vs_cS C (k_M_in l b D aC S g 8 15) yk_M_in ml_M_98 st_M_in d_M_member_16 rfl rfl (by exact Nat.le_of_ble_eq_true rfl) (by exact ⟨Nat.le_of_ble_eq_true rfl, Nat.le_of_ble_eq_true rfl⟩) (by exact ⟨Nat.le_of_ble_eq_true rfl, Nat.le_of_ble_eq_true rfl⟩) (fun h => by cases h) ?_
    rw [in_b (b := 16) (by decide)]
    refine vs_if_eq (tgt := 31) C d_M_member_19 (by decide) (fun h2 => ?_) (fun h2 => ?_)
    · exact h31
    · refine vs_iload_n C rfl d_M_member_22 ?_
      refine vs_iload_n C rfl d_M_member_23 ?_
      refine vs_icmp_eq (tgt := 31) C d_M_member_24 (by decide) (fun h3 => ?_) (fun h3 => ?_)
      · exact h31
      · have q := b01_n h2
        exact absurd ⟨b01_n h1, ⟨Int32.le_trans (by decide) q.1, q.2⟩, Int32.not_lt.mpr q.1, h3⟩ hn
def mlvP (what : Int32) : Nat := if what = 0 then 37 else 38
theorem lvlN_1 {what : Int32} (h : what = 0) : nI (lvlN what) = 3 := by unfold lvlN; rw [if_pos h]; rfl
theorem lvlN_0 {what : Int32} (h : ¬ what = 0) : nI (lvlN what) = 8 := by unfold lvlN; rw [if_neg h]; rfl
set_option maxRecDepth 100000 in
set_option maxHeartbeats 4000000 in
theorem k_M_level_1 (l : Launch) (b : Nat) (D : va_G) (aC : Nat → ClassId) (S : vs_S) (what i n : Int32) (hn : ¬ lvlOK what i n) : vs_M l b D aC false false y_M_level (.code y_M_level c_M_level 5 (Option.some Jvm.ClassFile.FieldType.int)) { frames := 1, cells := 0, slots := 0, locals := 22 } [.ref 35, .int what, .int i, .int n] (vs_mem S) (vs_ret (some (.int 0)) (vs_mem (mTh S 1))) := by
  refine vs_M.of (by decide) (Nat.le_of_ble_eq_true rfl) ?_
  intro p e s m args below meth c C hmn hr hx htg
  generalize hQ : vs_E below args s b D aC false false (vs_ret (some (.int 0)) (vs_mem (mTh S 1))) { frames := 1, cells := 0, slots := 0, locals := 22 } = Q
  have h36 : vs_G p l e { frames := 1, cells := 0, slots := 0, locals := 22 } s m args below meth c b D aC 5 Q 0 0 true (vs_mem S) 36 [some (.ref 35), some (.int what), some (.int i), some (.int n), none] [] := by
    refine vs_aload_n C rfl d_M_level_36 ?_
    refine vs_iconst (v := 1) C (by decide) d_M_level_37 ?_
    refine vs_cV C (k_M_fail l b D aC S 1) yk_M_fail ml_M_102 im_M_fail se_M_fail d_M_level_38 rfl rfl rfl rfl (by exact Nat.le_of_ble_eq_true rfl) (by exact ⟨Nat.le_of_ble_eq_true rfl, Nat.le_of_ble_eq_true rfl⟩) (by exact ⟨Nat.le_of_ble_eq_true rfl, Nat.le_of_ble_eq_true rfl⟩) (fun h => by cases h) ?_
    subst hQ
    exact vs_iret C hr d_M_level_41 ⟨Nat.le_of_ble_eq_true rfl, Nat.le_of_ble_eq_true rfl⟩ (fun h => by cases h) (by first | exact (fun _ => rfl) | exact (fun h => by cases h)) (⟨rfl, rfl⟩)
  refine vs_iload_n C rfl d_M_level_0 ?_
  refine vs_iconst (v := 0) C (by decide) d_M_level_1 ?_
  refine vs_iconst (v := 1) C (by decide) d_M_level_2 ?_
  refine vs_cS C (k_M_in l b D aC S what 0 1) yk_M_in ml_M_98 st_M_in d_M_level_3 rfl rfl (by exact Nat.le_of_ble_eq_true rfl) (by exact ⟨Nat.le_of_ble_eq_true rfl, Nat.le_of_ble_eq_true rfl⟩) (by exact ⟨Nat.le_of_ble_eq_true rfl, Nat.le_of_ble_eq_true rfl⟩) (fun h => by cases h) ?_
  rw [in_b (b := 2) (by decide)]
  refine vs_if_eq (tgt := 36) C d_M_level_6 (by decide) (fun h1 => ?_) (fun h1 => ?_)
  · exact h36
  · refine vs_iload_n C rfl d_M_level_9 ?_
    refine vs_iconst (v := 0) C (by decide) d_M_level_10 ?_
    refine vs_iload_n C rfl d_M_level_11 ?_
    have h21 : ∀ v : Int32, b01 (0 ≤ i ∧ i ≤ v) = b01 (0 ≤ i ∧ i < nI (lvlN what)) → vs_G p l e { frames := 1, cells := 0, slots := 0, locals := 22 } s m args below meth c b D aC 5 Q 0 0 true (vs_mem S) 21 [some (.ref 35), some (.int what), some (.int i), some (.int n), none] [.int v, .int 0, .int i] := by
      intro v hv
      refine vs_cS C (k_M_in l b D aC S i 0 v) yk_M_in ml_M_98 st_M_in d_M_level_21 rfl rfl (by exact Nat.le_of_ble_eq_true rfl) (by exact ⟨Nat.le_of_ble_eq_true rfl, Nat.le_of_ble_eq_true rfl⟩) (by exact ⟨Nat.le_of_ble_eq_true rfl, Nat.le_of_ble_eq_true rfl⟩) (fun h => by cases h) ?_
      rw [hv]
      refine vs_if_eq (tgt := 36) C d_M_level_24 (by decide) (fun h2 => ?_) (fun h2 => ?_)
      · exact h36
      · refine vs_iload_n C rfl d_M_level_27 ?_
        refine vs_iconst (v := 0) C (by decide) d_M_level_28 ?_
        refine vs_iconst (v := 3) C (by decide) d_M_level_29 ?_
        refine vs_cS C (k_M_in l b D aC S n 0 3) yk_M_in ml_M_98 st_M_in d_M_level_30 rfl rfl (by exact Nat.le_of_ble_eq_true rfl) (by exact ⟨Nat.le_of_ble_eq_true rfl, Nat.le_of_ble_eq_true rfl⟩) (by exact ⟨Nat.le_of_ble_eq_true rfl, Nat.le_of_ble_eq_true rfl⟩) (fun h => by cases h) ?_
        rw [in_b (b := 4) (by decide)]
        refine vs_if_ne (tgt := 42) C d_M_level_33 (by decide) (fun h3 => ?_) (fun h3 => ?_)
        · exact absurd ⟨b01_n h1, b01_n h2, b01_n h3⟩ hn
        · exact h36
    refine vs_if_ne (tgt := 19) C d_M_level_12 (by decide) (fun h2 => ?_) (fun h2 => ?_)
    · refine vs_bipush (v := 7) C (by decide) d_M_level_19 ?_
      exact h21 7 (by rw [lvlN_0 h2]; exact in_b (by decide))
    · refine vs_iconst (v := 2) C (by decide) d_M_level_15 ?_
      refine vs_goto (tgt := 21) C d_M_level_16 (by decide) ?_
      exact h21 2 (by rw [lvlN_1 h2]; exact in_b (by decide))
set_option maxRecDepth 100000 in
set_option maxHeartbeats 4000000 in
theorem k_M_level_0 (l : Launch) (b : Nat) (D : va_G) (aC : Nat → ClassId) (S : vs_S) (what i n : Int32) (hok : lvlOK what i n) : vs_M l b D aC false false y_M_level (.code y_M_level c_M_level 5 (Option.some Jvm.ClassFile.FieldType.int)) { frames := 1, cells := 0, slots := 0, locals := 22 } [.ref 35, .int what, .int i, .int n] (vs_mem S) (vs_ret (some (.int (S.1 (mlvP what) i.toNatClampNeg))) (vs_mem (vs_uI (mTh S 0) (mlvP what) (upd (S.1 (mlvP what)) i.toNatClampNeg n)))) := by
  refine vs_M.of (by decide) (Nat.le_of_ble_eq_true rfl) ?_
  intro p e s m args below meth c C hmn hr hx htg
  generalize hQ : vs_E below args s b D aC false false (vs_ret (some (.int (S.1 (mlvP what) i.toNatClampNeg))) (vs_mem (vs_uI (mTh S 0) (mlvP what) (upd (S.1 (mlvP what)) i.toNatClampNeg n)))) { frames := 1, cells := 0, slots := 0, locals := 22 } = Q
  refine vs_iload_n C rfl d_M_level_0 ?_
  refine vs_iconst (v := 0) C (by decide) d_M_level_1 ?_
  refine vs_iconst (v := 1) C (by decide) d_M_level_2 ?_
  refine vs_cS C (k_M_in l b D aC S what 0 1) yk_M_in ml_M_98 st_M_in d_M_level_3 rfl rfl (by exact Nat.le_of_ble_eq_true rfl) (by exact ⟨Nat.le_of_ble_eq_true rfl, Nat.le_of_ble_eq_true rfl⟩) (by exact ⟨Nat.le_of_ble_eq_true rfl, Nat.le_of_ble_eq_true rfl⟩) (fun h => by cases h) ?_
  rw [in_b (b := 2) (by decide)]
  refine vs_if_eq (tgt := 36) C d_M_level_6 (by decide) (fun h1 => ?_) (fun h1 => ?_)
  · exact absurd hok.1 (b01_0.mp h1)
  · refine vs_iload_n C rfl d_M_level_9 ?_
    refine vs_iconst (v := 0) C (by decide) d_M_level_10 ?_
    refine vs_iload_n C rfl d_M_level_11 ?_
    have h21 : ∀ v : Int32, b01 (0 ≤ i ∧ i ≤ v) = b01 (0 ≤ i ∧ i < nI (lvlN what)) → vs_G p l e { frames := 1, cells := 0, slots := 0, locals := 22 } s m args below meth c b D aC 5 Q 0 0 true (vs_mem S) 21 [some (.ref 35), some (.int what), some (.int i), some (.int n), none] [.int v, .int 0, .int i] := by
      intro v hv
      refine vs_cS C (k_M_in l b D aC S i 0 v) yk_M_in ml_M_98 st_M_in d_M_level_21 rfl rfl (by exact Nat.le_of_ble_eq_true rfl) (by exact ⟨Nat.le_of_ble_eq_true rfl, Nat.le_of_ble_eq_true rfl⟩) (by exact ⟨Nat.le_of_ble_eq_true rfl, Nat.le_of_ble_eq_true rfl⟩) (fun h => by cases h) ?_
      rw [hv]
      refine vs_if_eq (tgt := 36) C d_M_level_24 (by decide) (fun h2 => ?_) (fun h2 => ?_)
      · exact absurd hok.2.1 (b01_0.mp h2)
      · refine vs_iload_n C rfl d_M_level_27 ?_
        refine vs_iconst (v := 0) C (by decide) d_M_level_28 ?_
        refine vs_iconst (v := 3) C (by decide) d_M_level_29 ?_
        refine vs_cS C (k_M_in l b D aC S n 0 3) yk_M_in ml_M_98 st_M_in d_M_level_30 rfl rfl (by exact Nat.le_of_ble_eq_true rfl) (by exact ⟨Nat.le_of_ble_eq_true rfl, Nat.le_of_ble_eq_true rfl⟩) (by exact ⟨Nat.le_of_ble_eq_true rfl, Nat.le_of_ble_eq_true rfl⟩) (fun h => by cases h) ?_
        rw [in_b (b := 4) (by decide)]
        refine vs_if_ne (tgt := 42) C d_M_level_33 (by decide) (fun h3 => ?_) (fun h3 => ?_)
        · refine vs_aload_n C rfl d_M_level_42 ?_
          refine vs_iconst (v := 0) C (by decide) d_M_level_43 ?_
          refine vs_put C fl_M_94 d_M_level_44 rfl rfl rfl (Nat.le_of_ble_eq_true rfl) ?_
          refine vs_iload_n C rfl d_M_level_47 ?_
          refine vs_if_ne (tgt := 60) C d_M_level_48 (by decide) (fun h4 => ?_) (fun h4 => ?_)
          · have e1 : mlvP what = 38 := if_neg h4
            rw [e1] at hQ
            obtain ⟨hlt, hii⟩ := nI_rng (n := 8) hok.2.1.1 (by have q := hok.2.1.2; rw [lvlN_0 h4] at q; exact q) (by decide)
            refine vs_aload_n C rfl d_M_level_60 ?_
            refine vs_get C fl_M_16 d_M_level_61 rfl rfl ?_
            refine vs_iload_n C rfl d_M_level_64 ?_
            refine vs_ialdN C d_M_level_65 rfl (hii) (hlt) (by decide) ?_
            refine vs_istore C d_M_level_66 (by decide) ?_
            refine vs_iload_n C rfl d_M_level_68 ?_
            refine vs_if_ne (tgt := 82) C d_M_level_69 (by decide) (fun h5 => ?_) (fun h5 => ?_)
            · refine vs_aload_n C rfl d_M_level_82 ?_
              refine vs_get C fl_M_16 d_M_level_83 rfl rfl ?_
              refine vs_iload_n C rfl d_M_level_86 ?_
              refine vs_iload_n C rfl d_M_level_87 ?_
              refine vs_iastN C d_M_level_88 rfl (hii) (hlt) (by decide) ?_
              refine vs_iload C rfl d_M_level_89 ?_
              subst hQ
              exact vs_iret C hr d_M_level_91 ⟨Nat.le_of_ble_eq_true rfl, Nat.le_of_ble_eq_true rfl⟩ (fun h => by cases h) (by first | exact (fun _ => rfl) | exact (fun h => by cases h)) (⟨rfl, rfl⟩)
            · exact absurd h5 h4
          · have e1 : mlvP what = 37 := if_pos h4
            rw [e1] at hQ
            obtain ⟨hlt, hii⟩ := nI_rng (n := 3) hok.2.1.1 (by have q := hok.2.1.2; rw [lvlN_1 h4] at q; exact q) (by decide)
            refine vs_aload_n C rfl d_M_level_51 ?_
            refine vs_get C fl_M_13 d_M_level_52 rfl rfl ?_
            refine vs_iload_n C rfl d_M_level_55 ?_
            refine vs_ialdN C d_M_level_56 rfl (hii) (hlt) (by decide) ?_
            refine vs_goto (tgt := 66) C d_M_level_57 (by decide) ?_
            refine vs_istore C d_M_level_66 (by decide) ?_
            refine vs_iload_n C rfl d_M_level_68 ?_
            refine vs_if_ne (tgt := 82) C d_M_level_69 (by decide) (fun h5 => ?_) (fun h5 => ?_)
            · exact absurd h4 h5
            · refine vs_aload_n C rfl d_M_level_72 ?_
              refine vs_get C fl_M_13 d_M_level_73 rfl rfl ?_
              refine vs_iload_n C rfl d_M_level_76 ?_
              refine vs_iload_n C rfl d_M_level_77 ?_
              refine vs_iastN C d_M_level_78 rfl (hii) (hlt) (by decide) ?_
              refine vs_goto (tgt := 89) C d_M_level_79 (by decide) ?_
              refine vs_iload C rfl d_M_level_89 ?_
              subst hQ
              exact vs_iret C hr d_M_level_91 ⟨Nat.le_of_ble_eq_true rfl, Nat.le_of_ble_eq_true rfl⟩ (fun h => by cases h) (by first | exact (fun _ => rfl) | exact (fun h => by cases h)) (⟨rfl, rfl⟩)
        · exact absurd hok.2.2 (b01_0.mp h3)
    refine vs_if_ne (tgt := 19) C d_M_level_12 (by decide) (fun h2 => ?_) (fun h2 => ?_)
    · refine vs_bipush (v := 7) C (by decide) d_M_level_19 ?_
      exact h21 7 (by rw [lvlN_0 h2]; exact in_b (by decide))
    · refine vs_iconst (v := 2) C (by decide) d_M_level_15 ?_
      refine vs_goto (tgt := 21) C d_M_level_16 (by decide) ?_
      exact h21 2 (by rw [lvlN_1 h2]; exact in_b (by decide))
set_option maxRecDepth 100000 in
set_option maxHeartbeats 4000000 in
theorem k_M_weigh_1 (l : Launch) (b : Nat) (D : va_G) (aC : Nat → ClassId) (S : vs_S) (f t : Int32) (w : UInt64) (hn : ¬ weiOK f t w) : vs_M l b D aC false false y_M_weigh (.code y_M_weigh c_M_weigh 6 (Option.some Jvm.ClassFile.FieldType.int)) { frames := 1, cells := 0, slots := 0, locals := 22 } [.ref 35, .int f, .int t, .double w] (vs_mem S) (vs_ret (some (.int 0)) (vs_mem (mTh S 1))) := by
  refine vs_M.of (by decide) (Nat.le_of_ble_eq_true rfl) ?_
  intro p e s m args below meth c C hmn hr hx htg
  generalize hQ : vs_E below args s b D aC false false (vs_ret (some (.int 0)) (vs_mem (mTh S 1))) { frames := 1, cells := 0, slots := 0, locals := 22 } = Q
  have h26 : vs_G p l e { frames := 1, cells := 0, slots := 0, locals := 22 } s m args below meth c b D aC 6 Q 0 0 true (vs_mem S) 26 [some (.ref 35), some (.int f), some (.int t), some (.double w), none, none] [] := by
    refine vs_aload_n C rfl d_M_weigh_26 ?_
    refine vs_iconst (v := 1) C (by decide) d_M_weigh_27 ?_
    refine vs_cV C (k_M_fail l b D aC S 1) yk_M_fail ml_M_102 im_M_fail se_M_fail d_M_weigh_28 rfl rfl rfl rfl (by exact Nat.le_of_ble_eq_true rfl) (by exact ⟨Nat.le_of_ble_eq_true rfl, Nat.le_of_ble_eq_true rfl⟩) (by exact ⟨Nat.le_of_ble_eq_true rfl, Nat.le_of_ble_eq_true rfl⟩) (fun h => by cases h) ?_
    subst hQ
    exact vs_iret C hr d_M_weigh_31 ⟨Nat.le_of_ble_eq_true rfl, Nat.le_of_ble_eq_true rfl⟩ (fun h => by cases h) (by first | exact (fun _ => rfl) | exact (fun h => by cases h)) (⟨rfl, rfl⟩)
  refine vs_iload_n C rfl d_M_weigh_0 ?_
  refine vs_iconst (v := 0) C (by decide) d_M_weigh_1 ?_
  refine vs_iconst (v := 2) C (by decide) d_M_weigh_2 ?_
  refine vs_cS C (k_M_in l b D aC S f 0 2) yk_M_in ml_M_98 st_M_in d_M_weigh_3 rfl rfl (by exact Nat.le_of_ble_eq_true rfl) (by exact ⟨Nat.le_of_ble_eq_true rfl, Nat.le_of_ble_eq_true rfl⟩) (by exact ⟨Nat.le_of_ble_eq_true rfl, Nat.le_of_ble_eq_true rfl⟩) (fun h => by cases h) ?_
  rw [in_b (b := 3) (by decide)]
  refine vs_if_eq (tgt := 26) C d_M_weigh_6 (by decide) (fun h1 => ?_) (fun h1 => ?_)
  · exact h26
  · refine vs_iload_n C rfl d_M_weigh_9 ?_
    refine vs_iconst (v := 0) C (by decide) d_M_weigh_10 ?_
    refine vs_bipush (v := 7) C (by decide) d_M_weigh_11 ?_
    refine vs_cS C (k_M_in l b D aC S t 0 7) yk_M_in ml_M_98 st_M_in d_M_weigh_13 rfl rfl (by exact Nat.le_of_ble_eq_true rfl) (by exact ⟨Nat.le_of_ble_eq_true rfl, Nat.le_of_ble_eq_true rfl⟩) (by exact ⟨Nat.le_of_ble_eq_true rfl, Nat.le_of_ble_eq_true rfl⟩) (fun h => by cases h) ?_
    rw [in_b (b := 8) (by decide)]
    refine vs_if_eq (tgt := 26) C d_M_weigh_16 (by decide) (fun h2 => ?_) (fun h2 => ?_)
    · exact h26
    · refine vs_dload_n C rfl d_M_weigh_19 ?_
      refine vs_cS C (k_M_isWeight l b D aC S w) yk_M_isWeight ml_M_110 st_M_isWeight d_M_weigh_20 rfl rfl (by exact Nat.le_of_ble_eq_true rfl) (by exact ⟨Nat.le_of_ble_eq_true rfl, Nat.le_of_ble_eq_true rfl⟩) (by exact ⟨Nat.le_of_ble_eq_true rfl, Nat.le_of_ble_eq_true rfl⟩) (fun h => by cases h) ?_
      refine vs_if_ne (tgt := 32) C d_M_weigh_23 (by decide) (fun h3 => ?_) (fun h3 => ?_)
      · exact absurd ⟨b01_n h1, b01_n h2, b01_n h3⟩ hn
      · exact h26
theorem i960 (f t : Nat) : (960 : Int32) + 8 * nI f + nI t = nI (960 + 8 * f + t) := by
  rw [show (960 : Int32) = nI 960 from rfl, show (8 : Int32) = nI 8 from rfl, pk_mul, nI_add, nI_add]
set_option maxRecDepth 100000 in
set_option maxHeartbeats 4000000 in
theorem k_M_weigh_0 (l : Launch) (b : Nat) (D : va_G) (aC : Nat → ClassId) (S : vs_S) (f t : Int32) (w : UInt64) (hok : weiOK f t w) (hw : cdOK w) : vs_M l b D aC false false y_M_weigh (.code y_M_weigh c_M_weigh 6 (Option.some Jvm.ClassFile.FieldType.int)) { frames := 1, cells := 0, slots := 0, locals := 22 } [.ref 35, .int f, .int t, .double w] (vs_mem S) (vs_ret (some (.int (cdV w))) (vs_mem (vs_uI (mTh S 0) 43 (upd (S.1 43) (960 + 8 * f.toNatClampNeg + t.toNatClampNeg) (cdV w))))) := by
  refine vs_M.of (by decide) (Nat.le_of_ble_eq_true rfl) ?_
  intro p e s m args below meth c C hmn hr hx htg
  generalize hQ : vs_E below args s b D aC false false (vs_ret (some (.int (cdV w))) (vs_mem (vs_uI (mTh S 0) 43 (upd (S.1 43) (960 + 8 * f.toNatClampNeg + t.toNatClampNeg) (cdV w))))) { frames := 1, cells := 0, slots := 0, locals := 22 } = Q
  obtain ⟨hlt1, hff⟩ := nI_rng (n := 3) hok.1.1 hok.1.2 (by decide)
  obtain ⟨hlt2, htt⟩ := nI_rng (n := 8) hok.2.1.1 hok.2.1.2 (by decide)
  generalize f.toNatClampNeg = q at hlt1 hff hQ
  generalize t.toNatClampNeg = r at hlt2 htt hQ
  subst hff
  subst htt
  refine vs_iload_n C rfl d_M_weigh_0 ?_
  refine vs_iconst (v := 0) C (by decide) d_M_weigh_1 ?_
  refine vs_iconst (v := 2) C (by decide) d_M_weigh_2 ?_
  refine vs_cS C (k_M_in l b D aC S (nI q) 0 2) yk_M_in ml_M_98 st_M_in d_M_weigh_3 rfl rfl (by exact Nat.le_of_ble_eq_true rfl) (by exact ⟨Nat.le_of_ble_eq_true rfl, Nat.le_of_ble_eq_true rfl⟩) (by exact ⟨Nat.le_of_ble_eq_true rfl, Nat.le_of_ble_eq_true rfl⟩) (fun h => by cases h) ?_
  rw [in_b (b := 3) (by decide)]
  refine vs_if_eq (tgt := 26) C d_M_weigh_6 (by decide) (fun h1 => ?_) (fun h1 => ?_)
  · exact absurd hok.1 (b01_0.mp h1)
  · refine vs_iload_n C rfl d_M_weigh_9 ?_
    refine vs_iconst (v := 0) C (by decide) d_M_weigh_10 ?_
    refine vs_bipush (v := 7) C (by decide) d_M_weigh_11 ?_
    refine vs_cS C (k_M_in l b D aC S (nI r) 0 7) yk_M_in ml_M_98 st_M_in d_M_weigh_13 rfl rfl (by exact Nat.le_of_ble_eq_true rfl) (by exact ⟨Nat.le_of_ble_eq_true rfl, Nat.le_of_ble_eq_true rfl⟩) (by exact ⟨Nat.le_of_ble_eq_true rfl, Nat.le_of_ble_eq_true rfl⟩) (fun h => by cases h) ?_
    rw [in_b (b := 8) (by decide)]
    refine vs_if_eq (tgt := 26) C d_M_weigh_16 (by decide) (fun h2 => ?_) (fun h2 => ?_)
    · exact absurd hok.2.1 (b01_0.mp h2)
    · refine vs_dload_n C rfl d_M_weigh_19 ?_
      refine vs_cS C (k_M_isWeight l b D aC S w) yk_M_isWeight ml_M_110 st_M_isWeight d_M_weigh_20 rfl rfl (by exact Nat.le_of_ble_eq_true rfl) (by exact ⟨Nat.le_of_ble_eq_true rfl, Nat.le_of_ble_eq_true rfl⟩) (by exact ⟨Nat.le_of_ble_eq_true rfl, Nat.le_of_ble_eq_true rfl⟩) (fun h => by cases h) ?_
      refine vs_if_ne (tgt := 32) C d_M_weigh_23 (by decide) (fun h3 => ?_) (fun h3 => ?_)
      · refine vs_aload_n C rfl d_M_weigh_32 ?_
        refine vs_iconst (v := 0) C (by decide) d_M_weigh_33 ?_
        refine vs_put C fl_M_94 d_M_weigh_34 rfl rfl rfl (Nat.le_of_ble_eq_true rfl) ?_
        refine vs_dload_n C rfl d_M_weigh_37 ?_
        refine vs_d2f C (hw.1) d_M_weigh_38 ?_
        refine vs_ldcf C w_819 d_M_weigh_39 ?_
        refine vs_fmul C (hw.2.1) d_M_weigh_41 ?_
        refine vs_ldcf C w_820 d_M_weigh_42 ?_
        refine vs_fadd C (hw.2.2) d_M_weigh_44 ?_
        refine vs_f2i C d_M_weigh_45 ?_
        refine vs_istore C d_M_weigh_46 (by decide) ?_
        refine vs_iload C rfl d_M_weigh_48 ?_
        refine vs_sipush (v := 255) C (by decide) d_M_weigh_50 ?_
        refine vs_icmp_le (tgt := 61) C d_M_weigh_53 (by decide) (fun h4 => ?_) (fun h4 => ?_)
        · have e : cdV w = FP.f2i (cdF w) := if_pos h4
          rw [e] at hQ
          refine vs_aload_n C rfl d_M_weigh_61 ?_
          refine vs_get C fl_M_31 d_M_weigh_62 rfl rfl ?_
          refine vs_sipush (v := 960) C (by decide) d_M_weigh_65 ?_
          refine vs_bipush (v := 8) C (by decide) d_M_weigh_68 ?_
          refine vs_iload_n C rfl d_M_weigh_70 ?_
          refine vs_imul C d_M_weigh_71 ?_
          refine vs_iadd C d_M_weigh_72 ?_
          refine vs_iload_n C rfl d_M_weigh_73 ?_
          refine vs_iadd C d_M_weigh_74 ?_
          refine vs_iload C rfl d_M_weigh_75 ?_
          refine vs_iastN C d_M_weigh_77 rfl (i960 q r) ((by omega)) (by decide) ?_
          refine vs_iload C rfl d_M_weigh_78 ?_
          subst hQ
          exact vs_iret C hr d_M_weigh_80 ⟨Nat.le_of_ble_eq_true rfl, Nat.le_of_ble_eq_true rfl⟩ (fun h => by cases h) (by first | exact (fun _ => rfl) | exact (fun h => by cases h)) (⟨rfl, rfl⟩)
        · have e : cdV w = 255 := if_neg h4
          rw [e] at hQ
          refine vs_sipush (v := 255) C (by decide) d_M_weigh_56 ?_
          refine vs_istore C d_M_weigh_59 (by decide) ?_
          refine vs_aload_n C rfl d_M_weigh_61 ?_
          refine vs_get C fl_M_31 d_M_weigh_62 rfl rfl ?_
          refine vs_sipush (v := 960) C (by decide) d_M_weigh_65 ?_
          refine vs_bipush (v := 8) C (by decide) d_M_weigh_68 ?_
          refine vs_iload_n C rfl d_M_weigh_70 ?_
          refine vs_imul C d_M_weigh_71 ?_
          refine vs_iadd C d_M_weigh_72 ?_
          refine vs_iload_n C rfl d_M_weigh_73 ?_
          refine vs_iadd C d_M_weigh_74 ?_
          refine vs_iload C rfl d_M_weigh_75 ?_
          refine vs_iastN C d_M_weigh_77 rfl (i960 q r) ((by omega)) (by decide) ?_
          refine vs_iload C rfl d_M_weigh_78 ?_
          subst hQ
          exact vs_iret C hr d_M_weigh_80 ⟨Nat.le_of_ble_eq_true rfl, Nat.le_of_ble_eq_true rfl⟩ (fun h => by cases h) (by first | exact (fun _ => rfl) | exact (fun h => by cases h)) (⟨rfl, rfl⟩)
      · exact absurd hok.2.2 (b01_0.mp h3)
set_option maxRecDepth 100000 in
set_option maxHeartbeats 4000000 in
theorem k_M_put_1 (l : Launch) (b : Nat) (D : va_G) (aC : Nat → ClassId) (S : vs_S) (f v : Int32) (hn : ¬ (0 ≤ f ∧ f < 3)) : vs_M l b D aC false false y_M_put (.code y_M_put c_M_put 4 (Option.some Jvm.ClassFile.FieldType.int)) { frames := 1, cells := 0, slots := 0, locals := 22 } [.ref 35, .int f, .int v] (vs_mem S) (vs_ret (some (.int 0)) (vs_mem (mTh S 1))) := by
  refine vs_M.of (by decide) (Nat.le_of_ble_eq_true rfl) ?_
  intro p e s m args below meth c C hmn hr hx htg
  generalize hQ : vs_E below args s b D aC false false (vs_ret (some (.int 0)) (vs_mem (mTh S 1))) { frames := 1, cells := 0, slots := 0, locals := 22 } = Q
  refine vs_iload_n C rfl d_M_put_0 ?_
  refine vs_iconst (v := 0) C (by decide) d_M_put_1 ?_
  refine vs_iconst (v := 2) C (by decide) d_M_put_2 ?_
  refine vs_cS C (k_M_in l b D aC S f 0 2) yk_M_in ml_M_98 st_M_in d_M_put_3 rfl rfl (by exact Nat.le_of_ble_eq_true rfl) (by exact ⟨Nat.le_of_ble_eq_true rfl, Nat.le_of_ble_eq_true rfl⟩) (by exact ⟨Nat.le_of_ble_eq_true rfl, Nat.le_of_ble_eq_true rfl⟩) (fun h => by cases h) ?_
  rw [in_b (b := 3) (by decide)]
  refine vs_if_ne (tgt := 15) C d_M_put_6 (by decide) (fun h1 => ?_) (fun h1 => ?_)
  · exact absurd (b01_n h1) hn
  · refine vs_aload_n C rfl d_M_put_9 ?_
    refine vs_iconst (v := 1) C (by decide) d_M_put_10 ?_
    refine vs_cV C (k_M_fail l b D aC S 1) yk_M_fail ml_M_102 im_M_fail se_M_fail d_M_put_11 rfl rfl rfl rfl (by exact Nat.le_of_ble_eq_true rfl) (by exact ⟨Nat.le_of_ble_eq_true rfl, Nat.le_of_ble_eq_true rfl⟩) (by exact ⟨Nat.le_of_ble_eq_true rfl, Nat.le_of_ble_eq_true rfl⟩) (fun h => by cases h) ?_
    subst hQ
    exact vs_iret C hr d_M_put_14 ⟨Nat.le_of_ble_eq_true rfl, Nat.le_of_ble_eq_true rfl⟩ (fun h => by cases h) (by first | exact (fun _ => rfl) | exact (fun h => by cases h)) (⟨rfl, rfl⟩)
theorem i120 (f : Nat) : (120 : Int32) + nI f = nI (120 + f) := by
  rw [show (120 : Int32) = nI 120 from rfl, nI_add]
set_option maxRecDepth 100000 in
set_option maxHeartbeats 4000000 in
theorem k_M_put_0 (l : Launch) (b : Nat) (D : va_G) (aC : Nat → ClassId) (S : vs_S) (f v : Int32) (hok : 0 ≤ f ∧ f < 3) : vs_M l b D aC false false y_M_put (.code y_M_put c_M_put 4 (Option.some Jvm.ClassFile.FieldType.int)) { frames := 1, cells := 0, slots := 0, locals := 22 } [.ref 35, .int f, .int v] (vs_mem S) (vs_ret (some (.int (S.1 42 (120 + f.toNatClampNeg)))) (vs_mem (vs_uI (mTh S 0) 42 (upd (S.1 42) (120 + f.toNatClampNeg) v)))) := by
  refine vs_M.of (by decide) (Nat.le_of_ble_eq_true rfl) ?_
  intro p e s m args below meth c C hmn hr hx htg
  generalize hQ : vs_E below args s b D aC false false (vs_ret (some (.int (S.1 42 (120 + f.toNatClampNeg)))) (vs_mem (vs_uI (mTh S 0) 42 (upd (S.1 42) (120 + f.toNatClampNeg) v)))) { frames := 1, cells := 0, slots := 0, locals := 22 } = Q
  obtain ⟨hlt, hff⟩ := nI_rng (n := 3) hok.1 hok.2 (by decide)
  generalize f.toNatClampNeg = q at hlt hff hQ
  subst hff
  refine vs_iload_n C rfl d_M_put_0 ?_
  refine vs_iconst (v := 0) C (by decide) d_M_put_1 ?_
  refine vs_iconst (v := 2) C (by decide) d_M_put_2 ?_
  refine vs_cS C (k_M_in l b D aC S (nI q) 0 2) yk_M_in ml_M_98 st_M_in d_M_put_3 rfl rfl (by exact Nat.le_of_ble_eq_true rfl) (by exact ⟨Nat.le_of_ble_eq_true rfl, Nat.le_of_ble_eq_true rfl⟩) (by exact ⟨Nat.le_of_ble_eq_true rfl, Nat.le_of_ble_eq_true rfl⟩) (fun h => by cases h) ?_
  rw [in_b (b := 3) (by decide)]
  refine vs_if_ne (tgt := 15) C d_M_put_6 (by decide) (fun h1 => ?_) (fun h1 => ?_)
  · refine vs_aload_n C rfl d_M_put_15 ?_
    refine vs_iconst (v := 0) C (by decide) d_M_put_16 ?_
    refine vs_put C fl_M_94 d_M_put_17 rfl rfl rfl (Nat.le_of_ble_eq_true rfl) ?_
    refine vs_aload_n C rfl d_M_put_20 ?_
    refine vs_get C fl_M_28 d_M_put_21 rfl rfl ?_
    refine vs_bipush (v := 120) C (by decide) d_M_put_24 ?_
    refine vs_iload_n C rfl d_M_put_26 ?_
    refine vs_iadd C d_M_put_27 ?_
    refine vs_ialdN C d_M_put_28 rfl (i120 q) ((by omega)) (by decide) ?_
    refine vs_istore_n C d_M_put_29 (by decide) ?_
    refine vs_aload_n C rfl d_M_put_30 ?_
    refine vs_get C fl_M_28 d_M_put_31 rfl rfl ?_
    refine vs_bipush (v := 120) C (by decide) d_M_put_34 ?_
    refine vs_iload_n C rfl d_M_put_36 ?_
    refine vs_iadd C d_M_put_37 ?_
    refine vs_iload_n C rfl d_M_put_38 ?_
    refine vs_iastN C d_M_put_39 rfl (i120 q) ((by omega)) (by decide) ?_
    refine vs_iload_n C rfl d_M_put_40 ?_
    subst hQ
    exact vs_iret C hr d_M_put_41 ⟨Nat.le_of_ble_eq_true rfl, Nat.le_of_ble_eq_true rfl⟩ (fun h => by cases h) (by first | exact (fun _ => rfl) | exact (fun h => by cases h)) (⟨rfl, rfl⟩)
  · exact absurd hok (b01_0.mp h1)
def mruP (al : Int32) : Nat := if al = 0 then 45 else 44
set_option maxRecDepth 100000 in
set_option maxHeartbeats 4000000 in
theorem k_M_rule_1 (l : Launch) (b : Nat) (D : va_G) (aC : Nat → ClassId) (S : vs_S) (t al : Int32) (hn : ¬ (0 ≤ t ∧ t < 16)) : vs_M l b D aC false false y_M_rule (.code y_M_rule c_M_rule 5 (Option.some Jvm.ClassFile.FieldType.boolean)) { frames := 1, cells := 0, slots := 0, locals := 22 } [.ref 35, .int t, .int al] (vs_mem S) (vs_ret (some (.int 0)) (vs_mem (mTh S 1))) := by
  refine vs_M.of (by decide) (Nat.le_of_ble_eq_true rfl) ?_
  intro p e s m args below meth c C hmn hr hx htg
  generalize hQ : vs_E below args s b D aC false false (vs_ret (some (.int 0)) (vs_mem (mTh S 1))) { frames := 1, cells := 0, slots := 0, locals := 22 } = Q
  refine vs_aload_n C rfl d_M_rule_0 ?_
  refine vs_iload_n C rfl d_M_rule_1 ?_
  refine vs_iconst (v := 0) C (by decide) d_M_rule_2 ?_
  refine vs_bipush (v := 15) C (by decide) d_M_rule_3 ?_
  refine vs_cS C (k_M_in l b D aC S t 0 15) yk_M_in ml_M_98 st_M_in d_M_rule_5 rfl rfl (by exact Nat.le_of_ble_eq_true rfl) (by exact ⟨Nat.le_of_ble_eq_true rfl, Nat.le_of_ble_eq_true rfl⟩) (by exact ⟨Nat.le_of_ble_eq_true rfl, Nat.le_of_ble_eq_true rfl⟩) (fun h => by cases h) ?_
  rw [in_b (b := 16) (by decide)]
  refine vs_if_eq (tgt := 15) C d_M_rule_8 (by decide) (fun h1 => ?_) (fun h1 => ?_)
  · refine vs_iconst (v := 1) C (by decide) d_M_rule_15 ?_
    refine vs_put C fl_M_94 d_M_rule_16 rfl rfl rfl (Nat.le_of_ble_eq_true rfl) ?_
    refine vs_aload_n C rfl d_M_rule_19 ?_
    refine vs_get C fl_M_94 d_M_rule_20 rfl rfl ?_
    refine vs_if_le (tgt := 28) C d_M_rule_23 (by decide) (fun h2 => ?_) (fun h2 => ?_)
    · exact absurd h2 (by decide)
    · refine vs_iconst (v := 0) C (by decide) d_M_rule_26 ?_
      subst hQ
      exact vs_zret C hr (by first | rfl | exact nr01) d_M_rule_27 ⟨Nat.le_of_ble_eq_true rfl, Nat.le_of_ble_eq_true rfl⟩ (fun h => by cases h) (by first | exact (fun _ => rfl) | exact (fun h => by cases h)) (⟨rfl, rfl⟩)
  · exact absurd (b01_n h1) hn
set_option maxRecDepth 100000 in
set_option maxHeartbeats 4000000 in
theorem k_M_rule_0 (l : Launch) (b : Nat) (D : va_G) (aC : Nat → ClassId) (S : vs_S) (t al : Int32) (hok : 0 ≤ t ∧ t < 16) : vs_M l b D aC false false y_M_rule (.code y_M_rule c_M_rule 5 (Option.some Jvm.ClassFile.FieldType.boolean)) { frames := 1, cells := 0, slots := 0, locals := 22 } [.ref 35, .int t, .int al] (vs_mem S) (vs_ret (some (.int (b01 (¬ S.1 (mruP al) 40 ||| (1 <<< (t &&& 31)) = S.1 (mruP al) 40)))) (vs_mem (vs_uI (mTh S 0) (mruP al) (upd (S.1 (mruP al)) 40 (S.1 (mruP al) 40 ||| (1 <<< (t &&& 31))))))) := by
  refine vs_M.of (by decide) (Nat.le_of_ble_eq_true rfl) ?_
  intro p e s m args below meth c C hmn hr hx htg
  generalize hQ : vs_E below args s b D aC false false (vs_ret (some (.int (b01 (¬ S.1 (mruP al) 40 ||| (1 <<< (t &&& 31)) = S.1 (mruP al) 40)))) (vs_mem (vs_uI (mTh S 0) (mruP al) (upd (S.1 (mruP al)) 40 (S.1 (mruP al) 40 ||| (1 <<< (t &&& 31))))))) { frames := 1, cells := 0, slots := 0, locals := 22 } = Q
  refine vs_aload_n C rfl d_M_rule_0 ?_
  refine vs_iload_n C rfl d_M_rule_1 ?_
  refine vs_iconst (v := 0) C (by decide) d_M_rule_2 ?_
  refine vs_bipush (v := 15) C (by decide) d_M_rule_3 ?_
  refine vs_cS C (k_M_in l b D aC S t 0 15) yk_M_in ml_M_98 st_M_in d_M_rule_5 rfl rfl (by exact Nat.le_of_ble_eq_true rfl) (by exact ⟨Nat.le_of_ble_eq_true rfl, Nat.le_of_ble_eq_true rfl⟩) (by exact ⟨Nat.le_of_ble_eq_true rfl, Nat.le_of_ble_eq_true rfl⟩) (fun h => by cases h) ?_
  rw [in_b (b := 16) (by decide)]
  refine vs_if_eq (tgt := 15) C d_M_rule_8 (by decide) (fun h1 => ?_) (fun h1 => ?_)
  · exact absurd hok (b01_0.mp h1)
  · refine vs_iconst (v := 0) C (by decide) d_M_rule_11 ?_
    refine vs_goto (tgt := 16) C d_M_rule_12 (by decide) ?_
    refine vs_put C fl_M_94 d_M_rule_16 rfl rfl rfl (Nat.le_of_ble_eq_true rfl) ?_
    refine vs_aload_n C rfl d_M_rule_19 ?_
    refine vs_get C fl_M_94 d_M_rule_20 rfl rfl ?_
    refine vs_if_le (tgt := 28) C d_M_rule_23 (by decide) (fun h2 => ?_) (fun h2 => ?_)
    · refine vs_iload_n C rfl d_M_rule_28 ?_
      refine vs_if_eq (tgt := 42) C d_M_rule_29 (by decide) (fun h3 => ?_) (fun h3 => ?_)
      · have e : mruP al = 45 := if_pos h3
        rw [e] at hQ
        refine vs_aload_n C rfl d_M_rule_42 ?_
        refine vs_get C fl_M_37 d_M_rule_43 rfl rfl ?_
        refine vs_bipush (v := 40) C (by decide) d_M_rule_46 ?_
        refine vs_ialdN C d_M_rule_48 rfl (rfl) ((by decide)) (by decide) ?_
        refine vs_istore_n C d_M_rule_49 (by decide) ?_
        refine vs_iload_n C rfl d_M_rule_50 ?_
        refine vs_iconst (v := 1) C (by decide) d_M_rule_51 ?_
        refine vs_iload_n C rfl d_M_rule_52 ?_
        refine vs_ishl C d_M_rule_53 ?_
        refine vs_ior C d_M_rule_54 ?_
        refine vs_istore C d_M_rule_55 (by decide) ?_
        refine vs_iload_n C rfl d_M_rule_57 ?_
        refine vs_if_eq (tgt := 73) C d_M_rule_58 (by decide) (fun h4 => ?_) (fun h4 => ?_)
        · refine vs_aload_n C rfl d_M_rule_73 ?_
          refine vs_get C fl_M_37 d_M_rule_74 rfl rfl ?_
          refine vs_bipush (v := 40) C (by decide) d_M_rule_77 ?_
          refine vs_iload C rfl d_M_rule_79 ?_
          refine vs_iastN C d_M_rule_81 rfl (rfl) ((by decide)) (by decide) ?_
          refine vs_iload C rfl d_M_rule_82 ?_
          refine vs_iload_n C rfl d_M_rule_84 ?_
          refine vs_icmp_eq (tgt := 92) C d_M_rule_85 (by decide) (fun h5 => ?_) (fun h5 => ?_)
          · refine vs_iconst (v := 0) C (by decide) d_M_rule_92 ?_
            subst hQ
            exact vs_zret C hr (by first | rfl | exact nr01) d_M_rule_93 ⟨Nat.le_of_ble_eq_true rfl, Nat.le_of_ble_eq_true rfl⟩ (fun h => by cases h) (by first | exact (fun _ => rfl) | exact (fun h => by cases h)) (⟨by rw [b01_f (fun h => h h5)], rfl⟩)
          · refine vs_iconst (v := 1) C (by decide) d_M_rule_88 ?_
            refine vs_goto (tgt := 93) C d_M_rule_89 (by decide) ?_
            subst hQ
            exact vs_zret C hr (by first | rfl | exact nr01) d_M_rule_93 ⟨Nat.le_of_ble_eq_true rfl, Nat.le_of_ble_eq_true rfl⟩ (fun h => by cases h) (by first | exact (fun _ => rfl) | exact (fun h => by cases h)) (⟨by rw [b01_t h5], rfl⟩)
        · exact absurd h3 h4
      · have e : mruP al = 44 := if_neg h3
        rw [e] at hQ
        refine vs_aload_n C rfl d_M_rule_32 ?_
        refine vs_get C fl_M_34 d_M_rule_33 rfl rfl ?_
        refine vs_bipush (v := 40) C (by decide) d_M_rule_36 ?_
        refine vs_ialdN C d_M_rule_38 rfl (rfl) ((by decide)) (by decide) ?_
        refine vs_goto (tgt := 49) C d_M_rule_39 (by decide) ?_
        refine vs_istore_n C d_M_rule_49 (by decide) ?_
        refine vs_iload_n C rfl d_M_rule_50 ?_
        refine vs_iconst (v := 1) C (by decide) d_M_rule_51 ?_
        refine vs_iload_n C rfl d_M_rule_52 ?_
        refine vs_ishl C d_M_rule_53 ?_
        refine vs_ior C d_M_rule_54 ?_
        refine vs_istore C d_M_rule_55 (by decide) ?_
        refine vs_iload_n C rfl d_M_rule_57 ?_
        refine vs_if_eq (tgt := 73) C d_M_rule_58 (by decide) (fun h4 => ?_) (fun h4 => ?_)
        · exact absurd h4 h3
        · refine vs_aload_n C rfl d_M_rule_61 ?_
          refine vs_get C fl_M_34 d_M_rule_62 rfl rfl ?_
          refine vs_bipush (v := 40) C (by decide) d_M_rule_65 ?_
          refine vs_iload C rfl d_M_rule_67 ?_
          refine vs_iastN C d_M_rule_69 rfl (rfl) ((by decide)) (by decide) ?_
          refine vs_goto (tgt := 82) C d_M_rule_70 (by decide) ?_
          refine vs_iload C rfl d_M_rule_82 ?_
          refine vs_iload_n C rfl d_M_rule_84 ?_
          refine vs_icmp_eq (tgt := 92) C d_M_rule_85 (by decide) (fun h5 => ?_) (fun h5 => ?_)
          · refine vs_iconst (v := 0) C (by decide) d_M_rule_92 ?_
            subst hQ
            exact vs_zret C hr (by first | rfl | exact nr01) d_M_rule_93 ⟨Nat.le_of_ble_eq_true rfl, Nat.le_of_ble_eq_true rfl⟩ (fun h => by cases h) (by first | exact (fun _ => rfl) | exact (fun h => by cases h)) (⟨by rw [b01_f (fun h => h h5)], rfl⟩)
          · refine vs_iconst (v := 1) C (by decide) d_M_rule_88 ?_
            refine vs_goto (tgt := 93) C d_M_rule_89 (by decide) ?_
            subst hQ
            exact vs_zret C hr (by first | rfl | exact nr01) d_M_rule_93 ⟨Nat.le_of_ble_eq_true rfl, Nat.le_of_ble_eq_true rfl⟩ (fun h => by cases h) (by first | exact (fun _ => rfl) | exact (fun h => by cases h)) (⟨by rw [b01_t h5], rfl⟩)
    · exact absurd (Int32.le_refl _) h2
theorem in_p {n : Int32} {k : Nat} (hk : k < 2 ^ 31) : b01 (0 ≤ n ∧ n ≤ nI k - 1) = b01 (0 ≤ n ∧ n < nI k) := by
  rcases k with _ | k
  · refine b01_c ⟨fun h => ?_, fun h => ?_⟩
    · exact absurd (Int32.le_trans h.1 h.2) (by decide)
    · exact absurd (Int32.lt_of_le_of_lt h.1 h.2) (by decide)
  · rw [nI_pred k]
    exact in_b (by rw [nI_toInt hk, nI_toInt (by omega)]; omega)
set_option maxRecDepth 100000 in
set_option maxHeartbeats 4000000 in
theorem k_M_hit_1 (l : Launch) (b : Nat) (D : va_G) (aC : Nat → ClassId) (S : vs_S) (i : Int32) (k : Nat) (hk : (S.2.2.2.2.1 35 32) = nI k) (hk8 : k ≤ 8) (hn : ¬ (0 ≤ i ∧ i < nI k)) : vs_M l b D aC false false y_M_hit (.code y_M_hit c_M_hit 2 (Option.some Jvm.ClassFile.FieldType.int)) { frames := 1, cells := 0, slots := 0, locals := 22 } [.ref 35, .int i] (vs_mem S) (vs_ret (some (.int 0)) (vs_mem (mTh S 1))) := by
  refine vs_M.of (by decide) (Nat.le_of_ble_eq_true rfl) ?_
  intro p e s m args below meth c C hmn hr hx htg
  generalize hQ : vs_E below args s b D aC false false (vs_ret (some (.int 0)) (vs_mem (mTh S 1))) { frames := 1, cells := 0, slots := 0, locals := 22 } = Q
  refine vs_aload_n C rfl d_M_hit_0 ?_
  refine vs_iload_n C rfl d_M_hit_1 ?_
  refine vs_iconst (v := 0) C (by decide) d_M_hit_2 ?_
  refine vs_aload_n C rfl d_M_hit_3 ?_
  refine vs_get C fl_M_157 d_M_hit_4 rfl rfl ?_
  refine vs_iconst (v := 1) C (by decide) d_M_hit_7 ?_
  refine vs_isub C d_M_hit_8 ?_
  refine vs_cS C (k_M_in l b D aC S i 0 ((S.2.2.2.2.1 35 32) - 1)) yk_M_in ml_M_98 st_M_in d_M_hit_9 rfl rfl (by exact Nat.le_of_ble_eq_true rfl) (by exact ⟨Nat.le_of_ble_eq_true rfl, Nat.le_of_ble_eq_true rfl⟩) (by exact ⟨Nat.le_of_ble_eq_true rfl, Nat.le_of_ble_eq_true rfl⟩) (fun h => by cases h) ?_
  rw [hk, in_p (by omega)]
  refine vs_if_eq (tgt := 19) C d_M_hit_12 (by decide) (fun h1 => ?_) (fun h1 => ?_)
  · refine vs_iconst (v := 1) C (by decide) d_M_hit_19 ?_
    refine vs_put C fl_M_94 d_M_hit_20 rfl rfl rfl (Nat.le_of_ble_eq_true rfl) ?_
    refine vs_aload_n C rfl d_M_hit_23 ?_
    refine vs_get C fl_M_94 d_M_hit_24 rfl rfl ?_
    refine vs_if_le (tgt := 34) C d_M_hit_27 (by decide) (fun h2 => ?_) (fun h2 => ?_)
    · exact absurd h2 (by decide)
    · refine vs_iconst (v := 0) C (by decide) d_M_hit_30 ?_
      refine vs_goto (tgt := 40) C d_M_hit_31 (by decide) ?_
      subst hQ
      exact vs_iret C hr d_M_hit_40 ⟨Nat.le_of_ble_eq_true rfl, Nat.le_of_ble_eq_true rfl⟩ (fun h => by cases h) (by first | exact (fun _ => rfl) | exact (fun h => by cases h)) (⟨rfl, rfl⟩)
  · exact absurd (b01_n h1) hn
set_option maxRecDepth 100000 in
set_option maxHeartbeats 4000000 in
theorem k_M_hit_0 (l : Launch) (b : Nat) (D : va_G) (aC : Nat → ClassId) (S : vs_S) (i k : Nat) (hk : (S.2.2.2.2.1 35 32) = nI k) (hk8 : k ≤ 8) (hi : i < k) : vs_M l b D aC false false y_M_hit (.code y_M_hit c_M_hit 2 (Option.some Jvm.ClassFile.FieldType.int)) { frames := 1, cells := 0, slots := 0, locals := 22 } [.ref 35, .int (nI i)] (vs_mem S) (vs_ret (some (.int (S.1 57 i))) (vs_mem (mTh S 0))) := by
  refine vs_M.of (by decide) (Nat.le_of_ble_eq_true rfl) ?_
  intro p e s m args below meth c C hmn hr hx htg
  generalize hQ : vs_E below args s b D aC false false (vs_ret (some (.int (S.1 57 i))) (vs_mem (mTh S 0))) { frames := 1, cells := 0, slots := 0, locals := 22 } = Q
  refine vs_aload_n C rfl d_M_hit_0 ?_
  refine vs_iload_n C rfl d_M_hit_1 ?_
  refine vs_iconst (v := 0) C (by decide) d_M_hit_2 ?_
  refine vs_aload_n C rfl d_M_hit_3 ?_
  refine vs_get C fl_M_157 d_M_hit_4 rfl rfl ?_
  refine vs_iconst (v := 1) C (by decide) d_M_hit_7 ?_
  refine vs_isub C d_M_hit_8 ?_
  refine vs_cS C (k_M_in l b D aC S (nI i) 0 ((S.2.2.2.2.1 35 32) - 1)) yk_M_in ml_M_98 st_M_in d_M_hit_9 rfl rfl (by exact Nat.le_of_ble_eq_true rfl) (by exact ⟨Nat.le_of_ble_eq_true rfl, Nat.le_of_ble_eq_true rfl⟩) (by exact ⟨Nat.le_of_ble_eq_true rfl, Nat.le_of_ble_eq_true rfl⟩) (fun h => by cases h) ?_
  rw [hk, in_p (by omega)]
  refine vs_if_eq (tgt := 19) C d_M_hit_12 (by decide) (fun h1 => ?_) (fun h1 => ?_)
  · exact absurd ⟨Int32.not_lt.mp (nI_pos (by omega)), nI_lt hi (by omega)⟩ (b01_0.mp h1)
  · refine vs_iconst (v := 0) C (by decide) d_M_hit_15 ?_
    refine vs_goto (tgt := 20) C d_M_hit_16 (by decide) ?_
    refine vs_put C fl_M_94 d_M_hit_20 rfl rfl rfl (Nat.le_of_ble_eq_true rfl) ?_
    refine vs_aload_n C rfl d_M_hit_23 ?_
    refine vs_get C fl_M_94 d_M_hit_24 rfl rfl ?_
    refine vs_if_le (tgt := 34) C d_M_hit_27 (by decide) (fun h2 => ?_) (fun h2 => ?_)
    · refine vs_aload_n C rfl d_M_hit_34 ?_
      refine vs_get C fl_M_74 d_M_hit_35 rfl rfl ?_
      refine vs_iload_n C rfl d_M_hit_38 ?_
      refine vs_ialdN C d_M_hit_39 rfl (rfl) ((by omega)) (by decide) ?_
      subst hQ
      exact vs_iret C hr d_M_hit_40 ⟨Nat.le_of_ble_eq_true rfl, Nat.le_of_ble_eq_true rfl⟩ (fun h => by cases h) (by first | exact (fun _ => rfl) | exact (fun h => by cases h)) (⟨rfl, rfl⟩)
    · exact absurd (Int32.le_refl _) h2
set_option maxRecDepth 100000 in
set_option maxHeartbeats 4000000 in
theorem k_M_score_1 (l : Launch) (b : Nat) (D : va_G) (aC : Nat → ClassId) (S : vs_S) (i : Int32) (k : Nat) (hk : (S.2.2.2.2.1 35 32) = nI k) (hk8 : k ≤ 8) (hn : ¬ (0 ≤ i ∧ i < nI k)) : vs_M l b D aC false false y_M_score (.code y_M_score c_M_score 2 (Option.some Jvm.ClassFile.FieldType.double)) { frames := 1, cells := 0, slots := 0, locals := 22 } [.ref 35, .int i] (vs_mem S) (vs_ret (some (.double FP.dconst0)) (vs_mem (mTh S 1))) := by
  refine vs_M.of (by decide) (Nat.le_of_ble_eq_true rfl) ?_
  intro p e s m args below meth c C hmn hr hx htg
  generalize hQ : vs_E below args s b D aC false false (vs_ret (some (.double FP.dconst0)) (vs_mem (mTh S 1))) { frames := 1, cells := 0, slots := 0, locals := 22 } = Q
  refine vs_aload_n C rfl d_M_score_0 ?_
  refine vs_iload_n C rfl d_M_score_1 ?_
  refine vs_iconst (v := 0) C (by decide) d_M_score_2 ?_
  refine vs_aload_n C rfl d_M_score_3 ?_
  refine vs_get C fl_M_157 d_M_score_4 rfl rfl ?_
  refine vs_iconst (v := 1) C (by decide) d_M_score_7 ?_
  refine vs_isub C d_M_score_8 ?_
  refine vs_cS C (k_M_in l b D aC S i 0 ((S.2.2.2.2.1 35 32) - 1)) yk_M_in ml_M_98 st_M_in d_M_score_9 rfl rfl (by exact Nat.le_of_ble_eq_true rfl) (by exact ⟨Nat.le_of_ble_eq_true rfl, Nat.le_of_ble_eq_true rfl⟩) (by exact ⟨Nat.le_of_ble_eq_true rfl, Nat.le_of_ble_eq_true rfl⟩) (fun h => by cases h) ?_
  rw [hk, in_p (by omega)]
  refine vs_if_eq (tgt := 19) C d_M_score_12 (by decide) (fun h1 => ?_) (fun h1 => ?_)
  · refine vs_iconst (v := 1) C (by decide) d_M_score_19 ?_
    refine vs_put C fl_M_94 d_M_score_20 rfl rfl rfl (Nat.le_of_ble_eq_true rfl) ?_
    refine vs_aload_n C rfl d_M_score_23 ?_
    refine vs_get C fl_M_94 d_M_score_24 rfl rfl ?_
    refine vs_if_le (tgt := 34) C d_M_score_27 (by decide) (fun h2 => ?_) (fun h2 => ?_)
    · exact absurd h2 (by decide)
    · refine vs_dconst0 C d_M_score_30 ?_
      refine vs_goto (tgt := 41) C d_M_score_31 (by decide) ?_
      subst hQ
      exact vs_dret C hr d_M_score_41 ⟨Nat.le_of_ble_eq_true rfl, Nat.le_of_ble_eq_true rfl⟩ (fun h => by cases h) (by first | exact (fun _ => rfl) | exact (fun h => by cases h)) (⟨rfl, rfl⟩)
  · exact absurd (b01_n h1) hn
set_option maxRecDepth 100000 in
set_option maxHeartbeats 4000000 in
theorem k_M_score_0 (l : Launch) (b : Nat) (D : va_G) (aC : Nat → ClassId) (S : vs_S) (i k : Nat) (hk : (S.2.2.2.2.1 35 32) = nI k) (hk8 : k ≤ 8) (hi : i < k) (hn : vf_n64 (FP.f2d (S.2.2.1 59 i))) : vs_M l b D aC false false y_M_score (.code y_M_score c_M_score 2 (Option.some Jvm.ClassFile.FieldType.double)) { frames := 1, cells := 0, slots := 0, locals := 22 } [.ref 35, .int (nI i)] (vs_mem S) (vs_ret (some (.double (FP.f2d (S.2.2.1 59 i)))) (vs_mem (mTh S 0))) := by
  refine vs_M.of (by decide) (Nat.le_of_ble_eq_true rfl) ?_
  intro p e s m args below meth c C hmn hr hx htg
  generalize hQ : vs_E below args s b D aC false false (vs_ret (some (.double (FP.f2d (S.2.2.1 59 i)))) (vs_mem (mTh S 0))) { frames := 1, cells := 0, slots := 0, locals := 22 } = Q
  refine vs_aload_n C rfl d_M_score_0 ?_
  refine vs_iload_n C rfl d_M_score_1 ?_
  refine vs_iconst (v := 0) C (by decide) d_M_score_2 ?_
  refine vs_aload_n C rfl d_M_score_3 ?_
  refine vs_get C fl_M_157 d_M_score_4 rfl rfl ?_
  refine vs_iconst (v := 1) C (by decide) d_M_score_7 ?_
  refine vs_isub C d_M_score_8 ?_
  refine vs_cS C (k_M_in l b D aC S (nI i) 0 ((S.2.2.2.2.1 35 32) - 1)) yk_M_in ml_M_98 st_M_in d_M_score_9 rfl rfl (by exact Nat.le_of_ble_eq_true rfl) (by exact ⟨Nat.le_of_ble_eq_true rfl, Nat.le_of_ble_eq_true rfl⟩) (by exact ⟨Nat.le_of_ble_eq_true rfl, Nat.le_of_ble_eq_true rfl⟩) (fun h => by cases h) ?_
  rw [hk, in_p (by omega)]
  refine vs_if_eq (tgt := 19) C d_M_score_12 (by decide) (fun h1 => ?_) (fun h1 => ?_)
  · exact absurd ⟨Int32.not_lt.mp (nI_pos (by omega)), nI_lt hi (by omega)⟩ (b01_0.mp h1)
  · refine vs_iconst (v := 0) C (by decide) d_M_score_15 ?_
    refine vs_goto (tgt := 20) C d_M_score_16 (by decide) ?_
    refine vs_put C fl_M_94 d_M_score_20 rfl rfl rfl (Nat.le_of_ble_eq_true rfl) ?_
    refine vs_aload_n C rfl d_M_score_23 ?_
    refine vs_get C fl_M_94 d_M_score_24 rfl rfl ?_
    refine vs_if_le (tgt := 34) C d_M_score_27 (by decide) (fun h2 => ?_) (fun h2 => ?_)
    · refine vs_aload_n C rfl d_M_score_34 ?_
      refine vs_get C fl_M_81 d_M_score_35 rfl rfl ?_
      refine vs_iload_n C rfl d_M_score_38 ?_
      refine vs_faldN C d_M_score_39 rfl (rfl) ((by omega)) (by decide) ?_
      refine vs_f2d C (hn) d_M_score_40 ?_
      subst hQ
      exact vs_dret C hr d_M_score_41 ⟨Nat.le_of_ble_eq_true rfl, Nat.le_of_ble_eq_true rfl⟩ (fun h => by cases h) (by first | exact (fun _ => rfl) | exact (fun h => by cases h)) (⟨rfl, rfl⟩)
    · exact absurd (Int32.le_refl _) h2

