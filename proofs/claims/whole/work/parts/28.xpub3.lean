def addIn (S : vs_S) (q : Int32) : Prop := q = -1 ∨ (0 ≤ q ∧ q < (S.2.2.2.2.1 1 4))
def adT (S : vs_S) (d : Nat) (q : Int32) : vs_S := if q = -1 then fd0 S else fd0 (fd2 S d q.toNatClampNeg)
def adS (S : vs_S) (d : Nat) (q : Int32) : vs_S := vs_ul (adT S d q) 0 6 ((adT S d q).2.2.2.2.2 0 6 ||| sh1 (nI d))
set_option maxRecDepth 100000 in
set_option maxHeartbeats 4000000 in
theorem k_X_add (l : Launch) (b : Nat) (D : va_G) (aC : Nat → ClassId) (S : vs_S) (hfl : l.flags = flags0) (q : Int32) (d ec : Nat) (hd : (S.2.2.2.2.1 1 4) = nI d) (hd40 : d ≤ 40) (he : (ec = 0 ∧ addIn S q ∧ d < 40) ∨ (ec = 1 ∧ ¬ addIn S q) ∨ (ec = 2 ∧ addIn S q ∧ ¬ d < 40)) : vs_M l b D aC false false y_X_add (.code y_X_add c_X_add 3 (Option.some Jvm.ClassFile.FieldType.int)) { frames := 6, cells := 1, slots := 6, locals := 100 } [.ref 0, .int q] (vs_mem S) (vs_pc ec (fun e => if e = 1 then 0 else 1) (some (.int (nI d))) (vs_mem S) (vs_mem (adS S d q))) := by
  refine vs_M.of (by decide) (Nat.le_of_ble_eq_true rfl) ?_
  intro p e s m args below meth c C hmn hr hx htg
  generalize hQ : vs_E below args s b D aC false false (vs_pc ec (fun e => if e = 1 then 0 else 1) (some (.int (nI d))) (vs_mem S) (vs_mem (adS S d q))) { frames := 6, cells := 1, slots := 6, locals := 100 } = Q
  have h27 : addIn S q → vs_G p l e { frames := 6, cells := 1, slots := 6, locals := 100 } s m args below meth c b D aC 3 Q 0 0 true (vs_mem S) 27 [some (.ref 0), some (.int q), none] [] := by
    intro hin
    refine vs_aload_n C rfl d_X_add_27 ?_
    refine vs_get C fl_X_12 d_X_add_28 rfl rfl ?_
    refine vs_get C fl_X_96 d_X_add_31 rfl rfl ?_
    refine vs_bipush (v := 40) C (by decide) d_X_add_34 ?_
    refine vs_icmp_lt (tgt := 47) C d_X_add_36 (by decide) (fun h2 => ?_) (fun h2 => ?_)
    · rw [hd] at h2
      have hd4 : d < 40 := (nI_ltI (by omega) (by decide)).mp h2
      have h0 : ec = 0 := by
        rcases he with h | h | h
        · exact h.1
        · exact absurd hin h.2
        · exact absurd hd4 h.2.2
      refine vs_aload_n C rfl d_X_add_47 ?_
      refine vs_get C fl_X_12 d_X_add_48 rfl rfl ?_
      refine vs_iload_n C rfl d_X_add_51 ?_
      by_cases hq : q = -1
      · subst hq
        unfold adS at hQ
        rw [show adT S d (-1) = fd0 S from if_pos rfl] at hQ
        refine vs_cV C (k_D_finishDraft_n l b D aC S d hd hd4) yk_D_finishDraft ml_X_119 im_D_finishDraft se_D_finishDraft d_X_add_52 rfl rfl rfl rfl (by exact Nat.le_of_ble_eq_true rfl) (by exact ⟨Nat.le_of_ble_eq_true rfl, Nat.le_of_ble_eq_true rfl⟩) (by exact ⟨Nat.le_of_ble_eq_true rfl, Nat.le_of_ble_eq_true rfl⟩) (fun h => by cases h) ?_
        refine vs_istore_n C d_X_add_55 (by decide) ?_
        refine vs_aload_n C rfl d_X_add_56 ?_
        refine vs_dup C rfl d_X_add_57 ?_
        refine vs_get C fl_X_47 d_X_add_58 rfl rfl ?_
        refine vs_lconst (v := 1) C (by decide) d_X_add_61 ?_
        refine vs_iload_n C rfl d_X_add_62 ?_
        refine vs_lshl C d_X_add_63 ?_
        refine vs_lor C d_X_add_64 ?_
        refine vs_put C fl_X_47 d_X_add_65 rfl rfl rfl (Nat.le_of_ble_eq_true rfl) ?_
        refine vs_iload_n C rfl d_X_add_68 ?_
        subst hQ
        exact vs_iret C hr d_X_add_69 ⟨Nat.le_of_ble_eq_true rfl, Nat.le_of_ble_eq_true rfl⟩ (fun h => by cases h) (by first | exact (fun _ => rfl) | exact (fun h => by cases h)) (pc_ok h0 rfl rfl)
      · have hin2 := hin.resolve_left hq
        rw [hd] at hin2
        obtain ⟨hlt, hqq⟩ := nI_rng (n := d) hin2.1 hin2.2 (by omega)
        unfold adS at hQ
        rw [show adT S d q = fd0 (fd2 S d q.toNatClampNeg) from if_neg hq] at hQ
        generalize q.toNatClampNeg = j at hlt hqq hQ
        subst hqq
        refine vs_cV C (k_D_finishDraft_p l b D aC S d j hd hd4 hlt) yk_D_finishDraft ml_X_119 im_D_finishDraft se_D_finishDraft d_X_add_52 rfl rfl rfl rfl (by exact Nat.le_of_ble_eq_true rfl) (by exact ⟨Nat.le_of_ble_eq_true rfl, Nat.le_of_ble_eq_true rfl⟩) (by exact ⟨Nat.le_of_ble_eq_true rfl, Nat.le_of_ble_eq_true rfl⟩) (fun h => by cases h) ?_
        refine vs_istore_n C d_X_add_55 (by decide) ?_
        refine vs_aload_n C rfl d_X_add_56 ?_
        refine vs_dup C rfl d_X_add_57 ?_
        refine vs_get C fl_X_47 d_X_add_58 rfl rfl ?_
        refine vs_lconst (v := 1) C (by decide) d_X_add_61 ?_
        refine vs_iload_n C rfl d_X_add_62 ?_
        refine vs_lshl C d_X_add_63 ?_
        refine vs_lor C d_X_add_64 ?_
        refine vs_put C fl_X_47 d_X_add_65 rfl rfl rfl (Nat.le_of_ble_eq_true rfl) ?_
        refine vs_iload_n C rfl d_X_add_68 ?_
        subst hQ
        exact vs_iret C hr d_X_add_69 ⟨Nat.le_of_ble_eq_true rfl, Nat.le_of_ble_eq_true rfl⟩ (fun h => by cases h) (by first | exact (fun _ => rfl) | exact (fun h => by cases h)) (pc_ok h0 rfl rfl)
    · rw [hd] at h2
      have hd4 : ¬ d < 40 := fun h => h2 (nI_lt h (by decide))
      have h1 : ec = 2 := by
        rcases he with h | h | h
        · exact absurd h.2.2 hd4
        · exact absurd hin h.2
        · exact h.1
      subst hQ
      exact vs_throw0 C hfl hx tx_1 d_X_add_39 d_X_add_42 d_X_add_43 d_X_add_46 rfl (by exact ⟨Nat.le_of_ble_eq_true rfl, Nat.le_of_ble_eq_true rfl⟩) (by exact ⟨Nat.le_of_ble_eq_true rfl, Nat.le_of_ble_eq_true rfl, Nat.le_of_ble_eq_true rfl, Nat.le_of_ble_eq_true rfl⟩) (pc_no (by rw [h1]; decide) (by rw [h1]; rfl))
  refine vs_iload_n C rfl d_X_add_0 ?_
  refine vs_iconst (v := (-1)) C (by decide) d_X_add_1 ?_
  refine vs_icmp_eq (tgt := 27) C d_X_add_2 (by decide) (fun h1 => ?_) (fun h1 => ?_)
  · exact h27 (Or.inl h1)
  · refine vs_iload_n C rfl d_X_add_5 ?_
    refine vs_aload_n C rfl d_X_add_6 ?_
    refine vs_get C fl_X_12 d_X_add_7 rfl rfl ?_
    refine vs_get C fl_X_96 d_X_add_10 rfl rfl ?_
    refine vs_cS C (k_X_isBelow l b D aC S q (S.2.2.2.2.1 1 4)) yk_X_isBelow ml_X_61 st_X_isBelow d_X_add_13 rfl rfl (by exact Nat.le_of_ble_eq_true rfl) (by exact ⟨Nat.le_of_ble_eq_true rfl, Nat.le_of_ble_eq_true rfl⟩) (by exact ⟨Nat.le_of_ble_eq_true rfl, Nat.le_of_ble_eq_true rfl⟩) (fun h => by cases h) ?_
    refine vs_if_ne (tgt := 27) C d_X_add_16 (by decide) (fun h2 => ?_) (fun h2 => ?_)
    · exact h27 (Or.inr (b01_n h2))
    · have hn : ¬ addIn S q := fun h => h.elim h1 (b01_0.mp h2)
      have h3 : ec = 1 := by
        rcases he with h | h | h
        · exact absurd h.2.1 hn
        · exact h.1
        · exact absurd h.2.1 hn
      subst hQ
      exact vs_throw0 C hfl hx tx_0 d_X_add_19 d_X_add_22 d_X_add_23 d_X_add_26 rfl (by exact ⟨Nat.le_of_ble_eq_true rfl, Nat.le_of_ble_eq_true rfl⟩) (by exact ⟨Nat.le_of_ble_eq_true rfl, Nat.le_of_ble_eq_true rfl, Nat.le_of_ble_eq_true rfl, Nat.le_of_ble_eq_true rfl⟩) (pc_no (by rw [h3]; decide) (by rw [h3]; rfl))
def flT (S : vs_S) (k : Nat) : vs_S := if (S.2.2.2.2.2 0 6) = 0 then S else xApp S k (S.2.2.2.2.2 0 6)
def flS (S : vs_S) (k : Nat) : vs_S := vs_ul (flT S k) 0 6 0
set_option maxRecDepth 100000 in
set_option maxHeartbeats 4000000 in
theorem k_X_flush (l : Launch) (b : Nat) (D : va_G) (aC : Nat → ClassId) (S : vs_S) (hfl : l.flags = flags0) (k ec : Nat) (hk : (S.2.2.2.2.1 24 2) = nI k) (hk6 : k ≤ 6) (he : (ec = 0 ∧ k < 6) ∨ (ec = 1 ∧ ¬ k < 6)) : vs_M l b D aC false false y_X_flush (.code y_X_flush c_X_flush 2 (Option.some Jvm.ClassFile.FieldType.int)) { frames := 6, cells := 1, slots := 6, locals := 100 } [.ref 0] (vs_mem S) (vs_pc ec (fun _ => 1) (some (.int (bcR (S.2.2.2.2.2 0 6)))) (vs_mem S) (vs_mem (flS S k))) := by
  refine vs_M.of (by decide) (Nat.le_of_ble_eq_true rfl) ?_
  intro p e s m args below meth c C hmn hr hx htg
  generalize hQ : vs_E below args s b D aC false false (vs_pc ec (fun _ => 1) (some (.int (bcR (S.2.2.2.2.2 0 6)))) (vs_mem S) (vs_mem (flS S k))) { frames := 6, cells := 1, slots := 6, locals := 100 } = Q
  refine vs_aload_n C rfl d_X_flush_0 ?_
  refine vs_get C fl_X_40 d_X_flush_1 rfl rfl ?_
  refine vs_get C fl_X_135 d_X_flush_4 rfl rfl ?_
  refine vs_get C fl_X_139 d_X_flush_7 rfl rfl ?_
  refine vs_bipush (v := 6) C (by decide) d_X_flush_10 ?_
  refine vs_icmp_lt (tgt := 23) C d_X_flush_12 (by decide) (fun h1 => ?_) (fun h1 => ?_)
  · rw [hk] at h1
    have hk' : k < 6 := (nI_ltI (by omega) (by decide)).mp h1
    have h0 : ec = 0 := he.elim (fun h => h.1) (fun h => absurd hk' h.2)
    refine vs_aload_n C rfl d_X_flush_23 ?_
    refine vs_get C fl_X_47 d_X_flush_24 rfl rfl ?_
    refine vs_cS C (k_J_bitCount l b D aC S (S.2.2.2.2.2 0 6)) yk_J_bitCount ml_X_144 st_J_bitCount d_X_flush_27 rfl rfl (by exact Nat.le_of_ble_eq_true rfl) (by exact ⟨Nat.le_of_ble_eq_true rfl, Nat.le_of_ble_eq_true rfl⟩) (by exact ⟨Nat.le_of_ble_eq_true rfl, Nat.le_of_ble_eq_true rfl⟩) (fun h => by cases h) ?_
    refine vs_istore_n C d_X_flush_30 (by decide) ?_
    refine vs_aload_n C rfl d_X_flush_31 ?_
    refine vs_aload_n C rfl d_X_flush_32 ?_
    refine vs_get C fl_X_47 d_X_flush_33 rfl rfl ?_
    unfold flS at hQ
    by_cases hb : (S.2.2.2.2.2 0 6) = 0
    · rw [show flT S k = S from if_pos hb] at hQ
      refine vs_st_eq (st2 := [.long 0, .ref 0]) (by rw [← hb] <;> rfl) ?_
      refine vs_cV C (k_X_appendSegment_0 l b D aC S) yk_X_appendSegment ml_X_150 im_X_appendSegment se_X_appendSegment d_X_flush_36 rfl rfl rfl rfl (by exact Nat.le_of_ble_eq_true rfl) (by exact ⟨Nat.le_of_ble_eq_true rfl, Nat.le_of_ble_eq_true rfl⟩) (by exact ⟨Nat.le_of_ble_eq_true rfl, Nat.le_of_ble_eq_true rfl⟩) (fun h => by cases h) ?_
      refine vs_aload_n C rfl d_X_flush_39 ?_
      refine vs_lconst (v := 0) C (by decide) d_X_flush_40 ?_
      refine vs_put C fl_X_47 d_X_flush_41 rfl rfl rfl (Nat.le_of_ble_eq_true rfl) ?_
      refine vs_iload_n C rfl d_X_flush_44 ?_
      subst hQ
      exact vs_iret C hr d_X_flush_45 ⟨Nat.le_of_ble_eq_true rfl, Nat.le_of_ble_eq_true rfl⟩ (fun h => by cases h) (by first | exact (fun _ => rfl) | exact (fun h => by cases h)) (pc_ok h0 rfl rfl)
    · rw [show flT S k = xApp S k (S.2.2.2.2.2 0 6) from if_neg hb] at hQ
      refine vs_cV C (k_X_appendSegment_1 l b D aC S k (S.2.2.2.2.2 0 6) hk hk' hb) yk_X_appendSegment ml_X_150 im_X_appendSegment se_X_appendSegment d_X_flush_36 rfl rfl rfl rfl (by exact Nat.le_of_ble_eq_true rfl) (by exact ⟨Nat.le_of_ble_eq_true rfl, Nat.le_of_ble_eq_true rfl⟩) (by exact ⟨Nat.le_of_ble_eq_true rfl, Nat.le_of_ble_eq_true rfl⟩) (fun h => by cases h) ?_
      refine vs_aload_n C rfl d_X_flush_39 ?_
      refine vs_lconst (v := 0) C (by decide) d_X_flush_40 ?_
      refine vs_put C fl_X_47 d_X_flush_41 rfl rfl rfl (Nat.le_of_ble_eq_true rfl) ?_
      refine vs_iload_n C rfl d_X_flush_44 ?_
      subst hQ
      exact vs_iret C hr d_X_flush_45 ⟨Nat.le_of_ble_eq_true rfl, Nat.le_of_ble_eq_true rfl⟩ (fun h => by cases h) (by first | exact (fun _ => rfl) | exact (fun h => by cases h)) (pc_ok h0 rfl rfl)
  · rw [hk] at h1
    have h2 : ec = 1 := he.elim (fun h => absurd (nI_lt h.2 (by decide)) h1) (fun h => h.1)
    subst hQ
    exact vs_throw0 C hfl hx tx_1 d_X_flush_15 d_X_flush_18 d_X_flush_19 d_X_flush_22 rfl (by exact ⟨Nat.le_of_ble_eq_true rfl, Nat.le_of_ble_eq_true rfl⟩) (by exact ⟨Nat.le_of_ble_eq_true rfl, Nat.le_of_ble_eq_true rfl, Nat.le_of_ble_eq_true rfl, Nat.le_of_ble_eq_true rfl⟩) (pc_no (by rw [h2]; decide) rfl)
def mgA (S : vs_S) (k : Nat) : Int64 := or_l (S.2.1 26) k
def mgG (S : vs_S) (k : Nat) : Int64 := mgA S k &&& (S.2.2.2.2.2 19 2)
def mgT (S : vs_S) (ids : Int64) : vs_S := if ids = 0 then vs_ui S 24 2 0 else xApp (vs_ui S 24 2 0) 0 ids
set_option maxRecDepth 100000 in
set_option maxHeartbeats 4000000 in
theorem k_X_merge_0 (l : Launch) (b : Nat) (D : va_G) (aC : Nat → ClassId) (S : vs_S) (k : Nat) (hk : (S.2.2.2.2.1 24 2) = nI k) (hk6 : k ≤ 6) (hc : k < 2 ∧ mgG S k = 0) : vs_M l b D aC false false y_X_merge (.code y_X_merge c_X_merge 5 (Option.some Jvm.ClassFile.FieldType.int)) { frames := 2, cells := 0, slots := 0, locals := 45 } [.ref 0] (vs_mem S) (vs_ret (some (.int 0)) (vs_mem S)) := by
  refine vs_M.of (by decide) (Nat.le_of_ble_eq_true rfl) ?_
  intro p e s m args below meth c C hmn hr hx htg
  generalize hQ : vs_E below args s b D aC false false (vs_ret (some (.int 0)) (vs_mem S)) { frames := 2, cells := 0, slots := 0, locals := 45 } = Q
  refine vs_aload_n C rfl d_X_merge_0 ?_
  refine vs_get C fl_X_40 d_X_merge_1 rfl rfl ?_
  refine vs_get C fl_X_135 d_X_merge_4 rfl rfl ?_
  refine vs_cV C (k_S_allIds_Now l b D aC S k hk hk6) yk_S_allIds ml_X_154 im_S_allIds se_S_allIds d_X_merge_7 rfl rfl rfl rfl (by exact Nat.le_of_ble_eq_true rfl) (by exact ⟨Nat.le_of_ble_eq_true rfl, Nat.le_of_ble_eq_true rfl⟩) (by exact ⟨Nat.le_of_ble_eq_true rfl, Nat.le_of_ble_eq_true rfl⟩) (fun h => by cases h) ?_
  refine vs_lstore_n C d_X_merge_10 (by decide) ?_
  refine vs_lload_n C rfl d_X_merge_11 ?_
  refine vs_aload_n C rfl d_X_merge_12 ?_
  refine vs_get C fl_X_40 d_X_merge_13 rfl rfl ?_
  refine vs_get C fl_X_123 d_X_merge_16 rfl rfl ?_
  refine vs_land C d_X_merge_19 ?_
  refine vs_lstore_n C d_X_merge_20 (by decide) ?_
  refine vs_aload_n C rfl d_X_merge_21 ?_
  refine vs_get C fl_X_40 d_X_merge_22 rfl rfl ?_
  refine vs_get C fl_X_135 d_X_merge_25 rfl rfl ?_
  refine vs_get C fl_X_139 d_X_merge_28 rfl rfl ?_
  refine vs_iconst (v := 2) C (by decide) d_X_merge_31 ?_
  refine vs_icmp_ge (tgt := 43) C d_X_merge_32 (by decide) (fun h1 => ?_) (fun h1 => ?_)
  · rw [hk] at h1
    exact absurd (n_ge (N := 2) (i := k) h1 rfl rfl (by decide) (by omega)) (by omega)
  · refine vs_lload_n C rfl d_X_merge_35 ?_
    refine vs_lconst (v := 0) C (by decide) d_X_merge_36 ?_
    refine vs_lcmp C d_X_merge_37 ?_
    refine vs_if_ne (tgt := 43) C d_X_merge_38 (by decide) (fun h2 => ?_) (fun h2 => ?_)
    · exact absurd (lg0.mpr hc.2) h2
    · refine vs_iconst (v := 0) C (by decide) d_X_merge_41 ?_
      subst hQ
      exact vs_iret C hr d_X_merge_42 ⟨Nat.le_of_ble_eq_true rfl, Nat.le_of_ble_eq_true rfl⟩ (fun h => by cases h) (by first | exact (fun _ => rfl) | exact (fun h => by cases h)) (⟨rfl, rfl⟩)
set_option maxRecDepth 100000 in
set_option maxHeartbeats 4000000 in
theorem k_X_merge_1 (l : Launch) (b : Nat) (D : va_G) (aC : Nat → ClassId) (S : vs_S) (k : Nat) (hk : (S.2.2.2.2.1 24 2) = nI k) (hk6 : k ≤ 6) (hc : ¬ (k < 2 ∧ mgG S k = 0)) : vs_M l b D aC false false y_X_merge (.code y_X_merge c_X_merge 5 (Option.some Jvm.ClassFile.FieldType.int)) { frames := 2, cells := 0, slots := 0, locals := 45 } [.ref 0] (vs_mem S) (vs_ret (some (.int (bcR (mgG S k)))) (vs_mem (mgT S (mgA S k &&& (mgG S k ^^^ (-1)))))) := by
  refine vs_M.of (by decide) (Nat.le_of_ble_eq_true rfl) ?_
  intro p e s m args below meth c C hmn hr hx htg
  generalize hQ : vs_E below args s b D aC false false (vs_ret (some (.int (bcR (mgG S k)))) (vs_mem (mgT S (mgA S k &&& (mgG S k ^^^ (-1)))))) { frames := 2, cells := 0, slots := 0, locals := 45 } = Q
  have h43 : vs_G p l e { frames := 2, cells := 0, slots := 0, locals := 45 } s m args below meth c b D aC 5 Q 0 0 true (vs_mem S) 43 [some (.ref 0), some (.long (mgA S k)), none, some (.long (mgG S k)), none] [] := by
    generalize mgA S k = A at hQ ⊢
    generalize mgG S k = G at hQ ⊢
    refine vs_aload_n C rfl d_X_merge_43 ?_
    refine vs_get C fl_X_40 d_X_merge_44 rfl rfl ?_
    refine vs_get C fl_X_135 d_X_merge_47 rfl rfl ?_
    refine vs_iconst (v := 0) C (by decide) d_X_merge_50 ?_
    refine vs_put C fl_X_139 d_X_merge_51 rfl rfl rfl (Nat.le_of_ble_eq_true rfl) ?_
    refine vs_aload_n C rfl d_X_merge_54 ?_
    refine vs_lload_n C rfl d_X_merge_55 ?_
    refine vs_lload_n C rfl d_X_merge_56 ?_
    refine vs_ldc2 C w_236 d_X_merge_57 ?_
    refine vs_lxor C d_X_merge_60 ?_
    refine vs_land C d_X_merge_61 ?_
    by_cases hb : A &&& (G ^^^ (-1)) = 0
    · rw [show mgT S (A &&& (G ^^^ (-1))) = vs_ui S 24 2 0 from if_pos hb] at hQ
      refine vs_st_eq (st2 := [.long 0, .ref 0]) (by rw [← hb] <;> rfl) ?_
      refine vs_mem_eq (mem2 := vs_mem (vs_ui S 24 2 0)) rfl ?_
      refine vs_cV C (k_X_appendSegment_0 l b D aC (vs_ui S 24 2 0)) yk_X_appendSegment ml_X_150 im_X_appendSegment se_X_appendSegment d_X_merge_62 rfl rfl rfl rfl (by exact Nat.le_of_ble_eq_true rfl) (by exact ⟨Nat.le_of_ble_eq_true rfl, Nat.le_of_ble_eq_true rfl⟩) (by exact ⟨Nat.le_of_ble_eq_true rfl, Nat.le_of_ble_eq_true rfl⟩) (fun h => by cases h) ?_
      refine vs_lload_n C rfl d_X_merge_65 ?_
      refine vs_cS C (k_J_bitCount l b D aC (vs_ui S 24 2 0) G) yk_J_bitCount ml_X_144 st_J_bitCount d_X_merge_66 rfl rfl (by exact Nat.le_of_ble_eq_true rfl) (by exact ⟨Nat.le_of_ble_eq_true rfl, Nat.le_of_ble_eq_true rfl⟩) (by exact ⟨Nat.le_of_ble_eq_true rfl, Nat.le_of_ble_eq_true rfl⟩) (fun h => by cases h) ?_
      subst hQ
      exact vs_iret C hr d_X_merge_69 ⟨Nat.le_of_ble_eq_true rfl, Nat.le_of_ble_eq_true rfl⟩ (fun h => by cases h) (by first | exact (fun _ => rfl) | exact (fun h => by cases h)) (⟨rfl, rfl⟩)
    · rw [show mgT S (A &&& (G ^^^ (-1))) = xApp (vs_ui S 24 2 0) 0 (A &&& (G ^^^ (-1))) from if_neg hb] at hQ
      refine vs_mem_eq (mem2 := vs_mem (vs_ui S 24 2 0)) rfl ?_
      refine vs_cV C (k_X_appendSegment_1 l b D aC (vs_ui S 24 2 0) 0 (A &&& (G ^^^ (-1))) rfl (by decide) hb) yk_X_appendSegment ml_X_150 im_X_appendSegment se_X_appendSegment d_X_merge_62 rfl rfl rfl rfl (by exact Nat.le_of_ble_eq_true rfl) (by exact ⟨Nat.le_of_ble_eq_true rfl, Nat.le_of_ble_eq_true rfl⟩) (by exact ⟨Nat.le_of_ble_eq_true rfl, Nat.le_of_ble_eq_true rfl⟩) (fun h => by cases h) ?_
      refine vs_lload_n C rfl d_X_merge_65 ?_
      refine vs_cS C (k_J_bitCount l b D aC (xApp (vs_ui S 24 2 0) 0 (A &&& (G ^^^ (-1)))) G) yk_J_bitCount ml_X_144 st_J_bitCount d_X_merge_66 rfl rfl (by exact Nat.le_of_ble_eq_true rfl) (by exact ⟨Nat.le_of_ble_eq_true rfl, Nat.le_of_ble_eq_true rfl⟩) (by exact ⟨Nat.le_of_ble_eq_true rfl, Nat.le_of_ble_eq_true rfl⟩) (fun h => by cases h) ?_
      subst hQ
      exact vs_iret C hr d_X_merge_69 ⟨Nat.le_of_ble_eq_true rfl, Nat.le_of_ble_eq_true rfl⟩ (fun h => by cases h) (by first | exact (fun _ => rfl) | exact (fun h => by cases h)) (⟨rfl, rfl⟩)
  refine vs_aload_n C rfl d_X_merge_0 ?_
  refine vs_get C fl_X_40 d_X_merge_1 rfl rfl ?_
  refine vs_get C fl_X_135 d_X_merge_4 rfl rfl ?_
  refine vs_cV C (k_S_allIds_Now l b D aC S k hk hk6) yk_S_allIds ml_X_154 im_S_allIds se_S_allIds d_X_merge_7 rfl rfl rfl rfl (by exact Nat.le_of_ble_eq_true rfl) (by exact ⟨Nat.le_of_ble_eq_true rfl, Nat.le_of_ble_eq_true rfl⟩) (by exact ⟨Nat.le_of_ble_eq_true rfl, Nat.le_of_ble_eq_true rfl⟩) (fun h => by cases h) ?_
  refine vs_lstore_n C d_X_merge_10 (by decide) ?_
  refine vs_lload_n C rfl d_X_merge_11 ?_
  refine vs_aload_n C rfl d_X_merge_12 ?_
  refine vs_get C fl_X_40 d_X_merge_13 rfl rfl ?_
  refine vs_get C fl_X_123 d_X_merge_16 rfl rfl ?_
  refine vs_land C d_X_merge_19 ?_
  refine vs_lstore_n C d_X_merge_20 (by decide) ?_
  refine vs_aload_n C rfl d_X_merge_21 ?_
  refine vs_get C fl_X_40 d_X_merge_22 rfl rfl ?_
  refine vs_get C fl_X_135 d_X_merge_25 rfl rfl ?_
  refine vs_get C fl_X_139 d_X_merge_28 rfl rfl ?_
  refine vs_iconst (v := 2) C (by decide) d_X_merge_31 ?_
  refine vs_icmp_ge (tgt := 43) C d_X_merge_32 (by decide) (fun h1 => ?_) (fun h1 => ?_)
  · exact h43
  · refine vs_lload_n C rfl d_X_merge_35 ?_
    refine vs_lconst (v := 0) C (by decide) d_X_merge_36 ?_
    refine vs_lcmp C d_X_merge_37 ?_
    refine vs_if_ne (tgt := 43) C d_X_merge_38 (by decide) (fun h2 => ?_) (fun h2 => ?_)
    · exact h43
    · rw [hk] at h1
      exact absurd ⟨n_lt (N := 2) (i := k) h1 rfl rfl (by decide) (by omega), lg0.mp h2⟩ hc
theorem fAll_keep (n : Nat) : ∀ (i : Nat) (S : vs_S), (fAll n i S).1 33 = S.1 33 ∧ (fAll n i S).2.1 34 = S.2.1 34 ∧ (fAll n i S).2.2.2.2.1 32 = S.2.2.2.2.1 32 ∧ (fAll n i S).2.2.2.2.2 = S.2.2.2.2.2
  | 0, S => ⟨rfl, rfl, rfl, rfl⟩
  | i + 1, S => by
    simp only [fAll]
    by_cases h : has_i (S.1 33) (S.1 7 i) n = true
    · rw [if_pos h]; exact fAll_keep n i S
    · rw [if_neg h]; exact fAll_keep n i (fDrop S i _)
def rfV (S : vs_S) (k : Nat) : Int32 := bcR (or_l ((cpV S).2.1 34) k &&& ((cpV S).2.2.2.2.2 27 2 ^^^ (-1)))
set_option maxRecDepth 100000 in
set_option maxHeartbeats 4000000 in
theorem k_X_refresh_0 (l : Launch) (b : Nat) (D : va_G) (aC : Nat → ClassId) (S : vs_S) (k kf : Nat) (hk : (S.2.2.2.2.1 24 2) = nI k) (hk6 : k ≤ 6) (hkf : (S.2.2.2.2.1 6 3) = nI kf) (hkf5 : kf ≤ 5) (hs : sameX S = true) : vs_M l b D aC false false y_X_refresh (.code y_X_refresh c_X_refresh 2 (Option.some Jvm.ClassFile.FieldType.int)) { frames := 3, cells := 0, slots := 0, locals := 102 } [.ref 0] (vs_mem S) (vs_ret (some (.int (rfV S k))) (vs_mem (fAll k kf (cpV S)))) := by
  refine vs_M.of (by decide) (Nat.le_of_ble_eq_true rfl) ?_
  intro p e s m args below meth c C hmn hr hx htg
  generalize hQ : vs_E below args s b D aC false false (vs_ret (some (.int (rfV S k))) (vs_mem (fAll k kf (cpV S)))) { frames := 3, cells := 0, slots := 0, locals := 102 } = Q
  refine vs_aload_n C rfl d_X_refresh_0 ?_
  refine vs_get C fl_X_40 d_X_refresh_1 rfl rfl ?_
  refine vs_get C fl_X_68 d_X_refresh_4 rfl rfl ?_
  refine vs_aload_n C rfl d_X_refresh_7 ?_
  refine vs_get C fl_X_44 d_X_refresh_8 rfl rfl ?_
  refine vs_get C fl_X_68 d_X_refresh_11 rfl rfl ?_
  refine vs_cV C (k_R_sameAs l b D aC S) yk_R_sameAs ml_X_158 im_R_sameAs se_R_sameAs d_X_refresh_14 rfl rfl rfl rfl (by exact Nat.le_of_ble_eq_true rfl) (by exact ⟨Nat.le_of_ble_eq_true rfl, Nat.le_of_ble_eq_true rfl⟩) (by exact ⟨Nat.le_of_ble_eq_true rfl, Nat.le_of_ble_eq_true rfl⟩) (fun h => by cases h) ?_
  refine vs_istore_n C d_X_refresh_17 (by decide) ?_
  refine vs_aload_n C rfl d_X_refresh_18 ?_
  refine vs_get C fl_X_44 d_X_refresh_19 rfl rfl ?_
  refine vs_aload_n C rfl d_X_refresh_22 ?_
  refine vs_get C fl_X_40 d_X_refresh_23 rfl rfl ?_
  refine vs_cV C (k_V_takeOver l b D aC S) yk_V_takeOver ml_X_162 im_V_takeOver se_V_takeOver d_X_refresh_26 rfl rfl rfl rfl (by exact Nat.le_of_ble_eq_true rfl) (by exact ⟨Nat.le_of_ble_eq_true rfl, Nat.le_of_ble_eq_true rfl⟩) (by exact ⟨Nat.le_of_ble_eq_true rfl, Nat.le_of_ble_eq_true rfl⟩) (fun h => by cases h) ?_
  refine vs_iload_n C rfl d_X_refresh_29 ?_
  refine vs_if_eq (tgt := 50) C d_X_refresh_30 (by decide) (fun h1 => ?_) (fun h1 => ?_)
  · exact absurd hs (b01_0.mp h1)
  · refine vs_aload_n C rfl d_X_refresh_33 ?_
    refine vs_get C fl_X_19 d_X_refresh_34 rfl rfl ?_
    refine vs_aload_n C rfl d_X_refresh_37 ?_
    refine vs_get C fl_X_44 d_X_refresh_38 rfl rfl ?_
    refine vs_get C fl_X_135 d_X_refresh_41 rfl rfl ?_
    refine vs_cV C (k_F_dropAllBut l b D aC (cpV S) k kf hk hk6 hkf hkf5) yk_F_dropAllBut ml_X_166 im_F_dropAllBut se_F_dropAllBut d_X_refresh_44 rfl rfl rfl rfl (by exact Nat.le_of_ble_eq_true rfl) (by exact ⟨Nat.le_of_ble_eq_true rfl, Nat.le_of_ble_eq_true rfl⟩) (by exact ⟨Nat.le_of_ble_eq_true rfl, Nat.le_of_ble_eq_true rfl⟩) (fun h => by cases h) ?_
    obtain ⟨q1, q2, q3, q4⟩ := fAll_keep k kf (cpV S)
    have hT : ∀ T : vs_S, T = fAll k kf (cpV S) → T.2.1 34 = (cpV S).2.1 34 → T.2.2.2.2.1 32 2 = nI k → T.2.2.2.2.2 27 2 = (cpV S).2.2.2.2.2 27 2 → vs_G p l e { frames := 3, cells := 0, slots := 0, locals := 102 } s m args below meth c b D aC 2 Q 0 0 false (vs_mem T) 47 [some (.ref 0), some (.int (b01 (sameX S = true)))] [] := by
      intro T hT e2 e3 e4
      rw [← hT] at hQ
      refine vs_goto (tgt := 58) C d_X_refresh_47 (by decide) ?_
      refine vs_aload_n C rfl d_X_refresh_58 ?_
      refine vs_get C fl_X_44 d_X_refresh_59 rfl rfl ?_
      refine vs_cV C (k_V_livingIds l b D aC T k e3 hk6) yk_V_livingIds ml_X_173 im_V_livingIds se_V_livingIds d_X_refresh_62 rfl rfl rfl rfl (by exact Nat.le_of_ble_eq_true rfl) (by exact ⟨Nat.le_of_ble_eq_true rfl, Nat.le_of_ble_eq_true rfl⟩) (by exact ⟨Nat.le_of_ble_eq_true rfl, Nat.le_of_ble_eq_true rfl⟩) (fun h => by cases h) ?_
      rw [e2, e4]
      refine vs_cS C (k_J_bitCount l b D aC T (or_l ((cpV S).2.1 34) k &&& ((cpV S).2.2.2.2.2 27 2 ^^^ (-1)))) yk_J_bitCount ml_X_144 st_J_bitCount d_X_refresh_65 rfl rfl (by exact Nat.le_of_ble_eq_true rfl) (by exact ⟨Nat.le_of_ble_eq_true rfl, Nat.le_of_ble_eq_true rfl⟩) (by exact ⟨Nat.le_of_ble_eq_true rfl, Nat.le_of_ble_eq_true rfl⟩) (fun h => by cases h) ?_
      subst hQ
      exact vs_iret C hr d_X_refresh_68 ⟨Nat.le_of_ble_eq_true rfl, Nat.le_of_ble_eq_true rfl⟩ (fun h => by cases h) (by first | exact (fun _ => rfl) | exact (fun h => by cases h)) (⟨rfl, rfl⟩)
    exact hT _ rfl q2 (by rw [q3]; exact hk) (by rw [q4])
set_option maxRecDepth 100000 in
set_option maxHeartbeats 4000000 in
theorem k_X_refresh_1 (l : Launch) (b : Nat) (D : va_G) (aC : Nat → ClassId) (S : vs_S) (k : Nat) (hk : (S.2.2.2.2.1 24 2) = nI k) (hk6 : k ≤ 6) (hs : ¬ sameX S = true) : vs_M l b D aC false false y_X_refresh (.code y_X_refresh c_X_refresh 2 (Option.some Jvm.ClassFile.FieldType.int)) { frames := 3, cells := 0, slots := 0, locals := 102 } [.ref 0] (vs_mem S) (vs_ret (some (.int (rfV S k))) (vs_mem (vs_ui (cpV S) 6 3 0))) := by
  refine vs_M.of (by decide) (Nat.le_of_ble_eq_true rfl) ?_
  intro p e s m args below meth c C hmn hr hx htg
  generalize hQ : vs_E below args s b D aC false false (vs_ret (some (.int (rfV S k))) (vs_mem (vs_ui (cpV S) 6 3 0))) { frames := 3, cells := 0, slots := 0, locals := 102 } = Q
  refine vs_aload_n C rfl d_X_refresh_0 ?_
  refine vs_get C fl_X_40 d_X_refresh_1 rfl rfl ?_
  refine vs_get C fl_X_68 d_X_refresh_4 rfl rfl ?_
  refine vs_aload_n C rfl d_X_refresh_7 ?_
  refine vs_get C fl_X_44 d_X_refresh_8 rfl rfl ?_
  refine vs_get C fl_X_68 d_X_refresh_11 rfl rfl ?_
  refine vs_cV C (k_R_sameAs l b D aC S) yk_R_sameAs ml_X_158 im_R_sameAs se_R_sameAs d_X_refresh_14 rfl rfl rfl rfl (by exact Nat.le_of_ble_eq_true rfl) (by exact ⟨Nat.le_of_ble_eq_true rfl, Nat.le_of_ble_eq_true rfl⟩) (by exact ⟨Nat.le_of_ble_eq_true rfl, Nat.le_of_ble_eq_true rfl⟩) (fun h => by cases h) ?_
  refine vs_istore_n C d_X_refresh_17 (by decide) ?_
  refine vs_aload_n C rfl d_X_refresh_18 ?_
  refine vs_get C fl_X_44 d_X_refresh_19 rfl rfl ?_
  refine vs_aload_n C rfl d_X_refresh_22 ?_
  refine vs_get C fl_X_40 d_X_refresh_23 rfl rfl ?_
  refine vs_cV C (k_V_takeOver l b D aC S) yk_V_takeOver ml_X_162 im_V_takeOver se_V_takeOver d_X_refresh_26 rfl rfl rfl rfl (by exact Nat.le_of_ble_eq_true rfl) (by exact ⟨Nat.le_of_ble_eq_true rfl, Nat.le_of_ble_eq_true rfl⟩) (by exact ⟨Nat.le_of_ble_eq_true rfl, Nat.le_of_ble_eq_true rfl⟩) (fun h => by cases h) ?_
  refine vs_iload_n C rfl d_X_refresh_29 ?_
  refine vs_if_eq (tgt := 50) C d_X_refresh_30 (by decide) (fun h1 => ?_) (fun h1 => ?_)
  · refine vs_aload_n C rfl d_X_refresh_50 ?_
    refine vs_get C fl_X_19 d_X_refresh_51 rfl rfl ?_
    refine vs_iconst (v := 0) C (by decide) d_X_refresh_54 ?_
    refine vs_put C fl_X_170 d_X_refresh_55 rfl rfl rfl (Nat.le_of_ble_eq_true rfl) ?_
    refine vs_aload_n C rfl d_X_refresh_58 ?_
    refine vs_get C fl_X_44 d_X_refresh_59 rfl rfl ?_
    refine vs_mem_eq (mem2 := vs_mem (vs_ui (cpV S) 6 3 0)) rfl ?_
    refine vs_cV C (k_V_livingIds l b D aC (vs_ui (cpV S) 6 3 0) k hk hk6) yk_V_livingIds ml_X_173 im_V_livingIds se_V_livingIds d_X_refresh_62 rfl rfl rfl rfl (by exact Nat.le_of_ble_eq_true rfl) (by exact ⟨Nat.le_of_ble_eq_true rfl, Nat.le_of_ble_eq_true rfl⟩) (by exact ⟨Nat.le_of_ble_eq_true rfl, Nat.le_of_ble_eq_true rfl⟩) (fun h => by cases h) ?_
    refine vs_cS C (k_J_bitCount l b D aC (vs_ui (cpV S) 6 3 0) (or_l ((cpV S).2.1 34) k &&& ((cpV S).2.2.2.2.2 27 2 ^^^ (-1)))) yk_J_bitCount ml_X_144 st_J_bitCount d_X_refresh_65 rfl rfl (by exact Nat.le_of_ble_eq_true rfl) (by exact ⟨Nat.le_of_ble_eq_true rfl, Nat.le_of_ble_eq_true rfl⟩) (by exact ⟨Nat.le_of_ble_eq_true rfl, Nat.le_of_ble_eq_true rfl⟩) (fun h => by cases h) ?_
    subst hQ
    exact vs_iret C hr d_X_refresh_68 ⟨Nat.le_of_ble_eq_true rfl, Nat.le_of_ble_eq_true rfl⟩ (fun h => by cases h) (by first | exact (fun _ => rfl) | exact (fun h => by cases h)) (⟨rfl, rfl⟩)
  · exact absurd (b01_n h1) hs

