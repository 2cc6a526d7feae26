def dL (x y : UInt64) : Int32 := Op.cmpValue (FP.dcmp x y) .l
def dG (x y : UInt64) : Int32 := Op.cmpValue (FP.dcmp x y) .g
def isWX (w : UInt64) : Bool := decide (dL w FP.dconst0 = 0) || (decide (¬ dL w 4158027847206421152 < 0) && decide (¬ 0 < dG w 4652007308841189376))
set_option maxRecDepth 100000 in
set_option maxHeartbeats 4000000 in
theorem k_X_isWeight (l : Launch) (b : Nat) (D : va_G) (aC : Nat → ClassId) (S : vs_S) (w : UInt64) : vs_M l b D aC false true y_X_isWeight (.code y_X_isWeight c_X_isWeight 2 (Option.some Jvm.ClassFile.FieldType.boolean)) { frames := 0, cells := 0, slots := 0, locals := 0 } [.double w] (vs_mem S) (vs_ret (some (.int (b01 (isWX w = true)))) (vs_mem S)) := by
  refine vs_M.of (by decide) (Nat.le_of_ble_eq_true rfl) ?_
  intro p e s m args below meth c C hmn hr hx htg
  generalize hQ : vs_E below args s b D aC false true (vs_ret (some (.int (b01 (isWX w = true)))) (vs_mem S)) { frames := 0, cells := 0, slots := 0, locals := 0 } = Q
  refine vs_dload_n C rfl d_X_isWeight_0 ?_
  refine vs_dconst0 C d_X_isWeight_1 ?_
  refine vs_dcmp C d_X_isWeight_2 ?_
  refine vs_if_eq (tgt := 22) C d_X_isWeight_3 (by decide) (fun h1 => ?_) (fun h1 => ?_)
  · refine vs_iconst (v := 1) C (by decide) d_X_isWeight_22 ?_
    refine vs_goto (tgt := 27) C d_X_isWeight_23 (by decide) ?_
    subst hQ
    exact vs_zret C hr (by first | rfl | exact nr01) d_X_isWeight_27 ⟨Nat.le_of_ble_eq_true rfl, Nat.le_of_ble_eq_true rfl⟩ (fun h => by cases h) (by first | exact (fun _ => rfl) | exact (fun h => by cases h)) (vs_rti (b01_t (by simp only [isWX, Bool.or_eq_true, Bool.and_eq_true, decide_eq_true_eq]; exact Or.inl h1)).symm)
  · refine vs_dload_n C rfl d_X_isWeight_6 ?_
    refine vs_ldc2d C w_397 d_X_isWeight_7 ?_
    refine vs_dcmp C d_X_isWeight_10 ?_
    refine vs_if_lt (tgt := 26) C d_X_isWeight_11 (by decide) (fun h2 => ?_) (fun h2 => ?_)
    · refine vs_iconst (v := 0) C (by decide) d_X_isWeight_26 ?_
      subst hQ
      exact vs_zret C hr (by first | rfl | exact nr01) d_X_isWeight_27 ⟨Nat.le_of_ble_eq_true rfl, Nat.le_of_ble_eq_true rfl⟩ (fun h => by cases h) (by first | exact (fun _ => rfl) | exact (fun h => by cases h)) (vs_rti (b01_f (by simp only [isWX, Bool.or_eq_true, Bool.and_eq_true, decide_eq_true_eq]; rintro (h | h); exact h1 h; exact h.1 h2)).symm)
    · refine vs_dload_n C rfl d_X_isWeight_14 ?_
      refine vs_ldc2d C w_398 d_X_isWeight_15 ?_
      refine vs_dcmp C d_X_isWeight_18 ?_
      refine vs_if_gt (tgt := 26) C d_X_isWeight_19 (by decide) (fun h3 => ?_) (fun h3 => ?_)
      · refine vs_iconst (v := 0) C (by decide) d_X_isWeight_26 ?_
        subst hQ
        exact vs_zret C hr (by first | rfl | exact nr01) d_X_isWeight_27 ⟨Nat.le_of_ble_eq_true rfl, Nat.le_of_ble_eq_true rfl⟩ (fun h => by cases h) (by first | exact (fun _ => rfl) | exact (fun h => by cases h)) (vs_rti (b01_f (by simp only [isWX, Bool.or_eq_true, Bool.and_eq_true, decide_eq_true_eq]; rintro (h | h); exact h1 h; exact h.2 h3)).symm)
      · refine vs_iconst (v := 1) C (by decide) d_X_isWeight_22 ?_
        refine vs_goto (tgt := 27) C d_X_isWeight_23 (by decide) ?_
        subst hQ
        exact vs_zret C hr (by first | rfl | exact nr01) d_X_isWeight_27 ⟨Nat.le_of_ble_eq_true rfl, Nat.le_of_ble_eq_true rfl⟩ (fun h => by cases h) (by first | exact (fun _ => rfl) | exact (fun h => by cases h)) (vs_rti (b01_t (by simp only [isWX, Bool.or_eq_true, Bool.and_eq_true, decide_eq_true_eq]; exact Or.inr ⟨h2, h3⟩)).symm)
def cdF (w : UInt64) : UInt32 := FP.fadd (FP.fmul (FP.d2f w) 1098907648) 1056964608
def cdV (w : UInt64) : Int32 := if FP.f2i (cdF w) ≤ 255 then FP.f2i (cdF w) else 255
def cdOK (w : UInt64) : Prop := vf_n32 (FP.d2f w) ∧ vf_n32 (FP.fmul (FP.d2f w) 1098907648) ∧ vf_n32 (cdF w)
set_option maxRecDepth 100000 in
set_option maxHeartbeats 4000000 in
theorem k_X_codeOf (l : Launch) (b : Nat) (D : va_G) (aC : Nat → ClassId) (S : vs_S) (w : UInt64) (hw : cdOK w) : vs_M l b D aC false true y_X_codeOf (.code y_X_codeOf c_X_codeOf 3 (Option.some Jvm.ClassFile.FieldType.int)) { frames := 0, cells := 0, slots := 0, locals := 0 } [.double w] (vs_mem S) (vs_ret (some (.int (cdV w))) (vs_mem S)) := by
  refine vs_M.of (by decide) (Nat.le_of_ble_eq_true rfl) ?_
  intro p e s m args below meth c C hmn hr hx htg
  generalize hQ : vs_E below args s b D aC false true (vs_ret (some (.int (cdV w))) (vs_mem S)) { frames := 0, cells := 0, slots := 0, locals := 0 } = Q
  refine vs_dload_n C rfl d_X_codeOf_0 ?_
  refine vs_d2f C (hw.1) d_X_codeOf_1 ?_
  refine vs_ldcf C w_402 d_X_codeOf_2 ?_
  refine vs_fmul C (hw.2.1) d_X_codeOf_4 ?_
  refine vs_ldcf C w_403 d_X_codeOf_5 ?_
  refine vs_fadd C (hw.2.2) d_X_codeOf_7 ?_
  refine vs_f2i C d_X_codeOf_8 ?_
  refine vs_istore_n C d_X_codeOf_9 (by decide) ?_
  refine vs_iload_n C rfl d_X_codeOf_10 ?_
  refine vs_sipush (v := 255) C (by decide) d_X_codeOf_11 ?_
  refine vs_icmp_le (tgt := 23) C d_X_codeOf_14 (by decide) (fun h1 => ?_) (fun h1 => ?_)
  · refine vs_iload_n C rfl d_X_codeOf_23 ?_
    subst hQ
    exact vs_iret C hr d_X_codeOf_24 ⟨Nat.le_of_ble_eq_true rfl, Nat.le_of_ble_eq_true rfl⟩ (fun h => by cases h) (by first | exact (fun _ => rfl) | exact (fun h => by cases h)) (vs_rti (show FP.f2i (cdF w) = cdV w from (if_pos h1).symm))
  · refine vs_sipush (v := 255) C (by decide) d_X_codeOf_17 ?_
    refine vs_goto (tgt := 24) C d_X_codeOf_20 (by decide) ?_
    subst hQ
    exact vs_iret C hr d_X_codeOf_24 ⟨Nat.le_of_ble_eq_true rfl, Nat.le_of_ble_eq_true rfl⟩ (fun h => by cases h) (by first | exact (fun _ => rfl) | exact (fun h => by cases h)) (vs_rti (show (255 : Int32) = cdV w from (if_neg h1).symm))
def weiOK (f t : Int32) (w : UInt64) : Prop := (0 ≤ f ∧ f < 3) ∧ (0 ≤ t ∧ t < 8) ∧ isWX w = true
set_option maxRecDepth 100000 in
set_option maxHeartbeats 4000000 in
theorem k_X_weigh (l : Launch) (b : Nat) (D : va_G) (aC : Nat → ClassId) (S : vs_S) (hfl : l.flags = flags0) (f t : Int32) (w : UInt64) (d ec : Nat) (hd : (S.2.2.2.2.1 1 4) = nI d) (hd40 : d ≤ 40) (hw : isWX w = true → cdOK w) (he : (ec = 0 ∧ weiOK f t w) ∨ (ec = 1 ∧ ¬ weiOK f t w)) : vs_M l b D aC false false y_X_weigh (.code y_X_weigh c_X_weigh 6 (Option.some Jvm.ClassFile.FieldType.int)) { frames := 6, cells := 1, slots := 6, locals := 100 } [.ref 0, .int f, .int t, .double w] (vs_mem S) (vs_pc ec (fun _ => 0) (some (.int (cdV w))) (vs_mem S) (vs_mem (vs_uI S 2 (upd (S.1 2) ((d * 3 + f.toNatClampNeg) * 8 + t.toNatClampNeg) (cdV w))))) := by
  refine vs_M.of (by decide) (Nat.le_of_ble_eq_true rfl) ?_
  intro p e s m args below meth c C hmn hr hx htg
  generalize hQ : vs_E below args s b D aC false false (vs_pc ec (fun _ => 0) (some (.int (cdV w))) (vs_mem S) (vs_mem (vs_uI S 2 (upd (S.1 2) ((d * 3 + f.toNatClampNeg) * 8 + t.toNatClampNeg) (cdV w))))) { frames := 6, cells := 1, slots := 6, locals := 100 } = Q
  have hth : ∀ lv, ¬ weiOK f t w → vs_G p l e { frames := 6, cells := 1, slots := 6, locals := 100 } s m args below meth c b D aC 6 Q 0 0 true (vs_mem S) 24 lv [] := by
    intro lv hn
    have h1 : ec = 1 := he.elim (fun h => absurd h.2 hn) (fun h => h.1)
    subst hQ
    exact vs_throw0 C hfl hx tx_0 d_X_weigh_24 d_X_weigh_27 d_X_weigh_28 d_X_weigh_31 rfl (by exact ⟨Nat.le_of_ble_eq_true rfl, Nat.le_of_ble_eq_true rfl⟩) (by exact ⟨Nat.le_of_ble_eq_true rfl, Nat.le_of_ble_eq_true rfl, Nat.le_of_ble_eq_true rfl, Nat.le_of_ble_eq_true rfl⟩) (pc_no (by rw [h1]; decide) rfl)
  refine vs_iload_n C rfl d_X_weigh_0 ?_
  refine vs_iconst (v := 3) C (by decide) d_X_weigh_1 ?_
  refine vs_cS C (k_X_isBelow l b D aC S f 3) yk_X_isBelow ml_X_61 st_X_isBelow d_X_weigh_2 rfl rfl (by exact Nat.le_of_ble_eq_true rfl) (by exact ⟨Nat.le_of_ble_eq_true rfl, Nat.le_of_ble_eq_true rfl⟩) (by exact ⟨Nat.le_of_ble_eq_true rfl, Nat.le_of_ble_eq_true rfl⟩) (fun h => by cases h) ?_
  refine vs_if_eq (tgt := 24) C d_X_weigh_5 (by decide) (fun h1 => ?_) (fun h1 => ?_)
  · exact hth _ (fun h => b01_0.mp h1 h.1)
  · refine vs_iload_n C rfl d_X_weigh_8 ?_
    refine vs_bipush (v := 8) C (by decide) d_X_weigh_9 ?_
    refine vs_cS C (k_X_isBelow l b D aC S t 8) yk_X_isBelow ml_X_61 st_X_isBelow d_X_weigh_11 rfl rfl (by exact Nat.le_of_ble_eq_true rfl) (by exact ⟨Nat.le_of_ble_eq_true rfl, Nat.le_of_ble_eq_true rfl⟩) (by exact ⟨Nat.le_of_ble_eq_true rfl, Nat.le_of_ble_eq_true rfl⟩) (fun h => by cases h) ?_
    refine vs_if_eq (tgt := 24) C d_X_weigh_14 (by decide) (fun h2 => ?_) (fun h2 => ?_)
    · exact hth _ (fun h => b01_0.mp h2 h.2.1)
    · refine vs_dload_n C rfl d_X_weigh_17 ?_
      refine vs_cS C (k_X_isWeight l b D aC S w) yk_X_isWeight ml_X_85 st_X_isWeight d_X_weigh_18 rfl rfl (by exact Nat.le_of_ble_eq_true rfl) (by exact ⟨Nat.le_of_ble_eq_true rfl, Nat.le_of_ble_eq_true rfl⟩) (by exact ⟨Nat.le_of_ble_eq_true rfl, Nat.le_of_ble_eq_true rfl⟩) (fun h => by cases h) ?_
      refine vs_if_ne (tgt := 32) C d_X_weigh_21 (by decide) (fun h3 => ?_) (fun h3 => ?_)
      · have hok : weiOK f t w := ⟨b01_n h1, b01_n h2, b01_n h3⟩
        have h0 : ec = 0 := he.elim (fun h => h.1) (fun h => absurd hok h.2)
        obtain ⟨hlt1, hff⟩ := nI_rng (n := 3) hok.1.1 hok.1.2 (by decide)
        obtain ⟨hlt2, htt⟩ := nI_rng (n := 8) hok.2.1.1 hok.2.1.2 (by decide)
        have hwok := hw hok.2.2
        clear hok hth he
        generalize f.toNatClampNeg = q at hlt1 hff hQ
        generalize t.toNatClampNeg = r at hlt2 htt hQ
        subst hff
        subst htt
        refine vs_dload_n C rfl d_X_weigh_32 ?_
        refine vs_cS C (k_X_codeOf l b D aC S w hwok) yk_X_codeOf ml_X_89 st_X_codeOf d_X_weigh_33 rfl rfl (by exact Nat.le_of_ble_eq_true rfl) (by exact ⟨Nat.le_of_ble_eq_true rfl, Nat.le_of_ble_eq_true rfl⟩) (by exact ⟨Nat.le_of_ble_eq_true rfl, Nat.le_of_ble_eq_true rfl⟩) (fun h => by cases h) ?_
        refine vs_istore C d_X_weigh_36 (by decide) ?_
        refine vs_aload_n C rfl d_X_weigh_38 ?_
        refine vs_get C fl_X_12 d_X_weigh_39 rfl rfl ?_
        refine vs_get C fl_X_93 d_X_weigh_42 rfl rfl ?_
        refine vs_aload_n C rfl d_X_weigh_45 ?_
        refine vs_get C fl_X_12 d_X_weigh_46 rfl rfl ?_
        refine vs_get C fl_X_96 d_X_weigh_49 rfl rfl ?_
        refine vs_iload_n C rfl d_X_weigh_52 ?_
        refine vs_iload_n C rfl d_X_weigh_53 ?_
        refine vs_cS C (k_D_codePlace l b D aC S (S.2.2.2.2.1 1 4) (nI q) (nI r)) yk_D_codePlace ml_X_99 st_D_codePlace d_X_weigh_54 rfl rfl (by exact Nat.le_of_ble_eq_true rfl) (by exact ⟨Nat.le_of_ble_eq_true rfl, Nat.le_of_ble_eq_true rfl⟩) (by exact ⟨Nat.le_of_ble_eq_true rfl, Nat.le_of_ble_eq_true rfl⟩) (fun h => by cases h) ?_
        rw [hd, cpl]
        refine vs_iload C rfl d_X_weigh_57 ?_
        refine vs_iastN C d_X_weigh_59 rfl (rfl) ((by omega)) (by decide) ?_
        refine vs_iload C rfl d_X_weigh_60 ?_
        subst hQ
        exact vs_iret C hr d_X_weigh_62 ⟨Nat.le_of_ble_eq_true rfl, Nat.le_of_ble_eq_true rfl⟩ (fun h => by cases h) (by first | exact (fun _ => rfl) | exact (fun h => by cases h)) (pc_ok h0 rfl rfl)
      · exact hth _ (fun h => b01_0.mp h3 h.2.2)
def claOK (s t f : Int32) (w : UInt64) : Prop := (0 ≤ s ∧ s < 3) ∧ (0 ≤ t ∧ t < 8) ∧ (0 ≤ f ∧ f < 3) ∧ isWX w = true
def claS (S : vs_S) (k : Nat) (s t f : Int32) (w : UInt32) : vs_S := qSet (qI t f k S).2 (qI t f k S).1 s t f w
theorem qI_size (t f : Int32) : ∀ (i : Nat) (S : vs_S), (qI t f i S).2.2.2.2.2.1 = S.2.2.2.2.1
  | 0, S => rfl
  | i + 1, S => by
    simp only [qI]
    by_cases h : later (S.1 12) (S.1 13) i t f = true
    · rw [if_pos h]; exact qI_size t f i _
    · rw [if_neg h]
set_option maxRecDepth 100000 in
set_option maxHeartbeats 4000000 in
theorem k_X_clause (l : Launch) (b : Nat) (D : va_G) (aC : Nat → ClassId) (S : vs_S) (hfl : l.flags = flags0) (s0 t f : Int32) (w : UInt64) (k ec : Nat) (hk : (S.2.2.2.2.1 10 6) = nI k) (hk6 : k ≤ 6) (hw : isWX w = true → vf_n32 (FP.d2f w)) (he : (ec = 0 ∧ claOK s0 t f w ∧ k < 6) ∨ (ec = 1 ∧ ¬ claOK s0 t f w) ∨ (ec = 2 ∧ claOK s0 t f w ∧ ¬ k < 6)) : vs_M l b D aC false false y_X_clause (.code y_X_clause c_X_clause 6 (Option.some Jvm.ClassFile.FieldType.int)) { frames := 6, cells := 1, slots := 6, locals := 100 } [.ref 0, .int s0, .int t, .int f, .double w] (vs_mem S) (vs_pc ec (fun e => if e = 1 then 0 else 1) (some (.int (nI (k + 1)))) (vs_mem S) (vs_mem (claS S k s0 t f (FP.d2f w)))) := by
  refine vs_M.of (by decide) (Nat.le_of_ble_eq_true rfl) ?_
  intro p e s m args below meth c C hmn hr hx htg
  generalize hQ : vs_E below args s b D aC false false (vs_pc ec (fun e => if e = 1 then 0 else 1) (some (.int (nI (k + 1)))) (vs_mem S) (vs_mem (claS S k s0 t f (FP.d2f w)))) { frames := 6, cells := 1, slots := 6, locals := 100 } = Q
  have hth : ∀ lv, ¬ claOK s0 t f w → vs_G p l e { frames := 6, cells := 1, slots := 6, locals := 100 } s m args below meth c b D aC 6 Q 0 0 true (vs_mem S) 33 lv [] := by
    intro lv hn
    have h1 : ec = 1 := by
      rcases he with h | h | h
      · exact absurd h.2.1 hn
      · exact h.1
      · exact absurd h.2.1 hn
    subst hQ
    exact vs_throw0 C hfl hx tx_0 d_X_clause_33 d_X_clause_36 d_X_clause_37 d_X_clause_40 rfl (by exact ⟨Nat.le_of_ble_eq_true rfl, Nat.le_of_ble_eq_true rfl⟩) (by exact ⟨Nat.le_of_ble_eq_true rfl, Nat.le_of_ble_eq_true rfl, Nat.le_of_ble_eq_true rfl, Nat.le_of_ble_eq_true rfl⟩) (pc_no (by rw [h1]; decide) (by rw [h1]; rfl))
  refine vs_iload_n C rfl d_X_clause_0 ?_
  refine vs_iconst (v := 3) C (by decide) d_X_clause_1 ?_
  refine vs_cS C (k_X_isBelow l b D aC S s0 3) yk_X_isBelow ml_X_61 st_X_isBelow d_X_clause_2 rfl rfl (by exact Nat.le_of_ble_eq_true rfl) (by exact ⟨Nat.le_of_ble_eq_true rfl, Nat.le_of_ble_eq_true rfl⟩) (by exact ⟨Nat.le_of_ble_eq_true rfl, Nat.le_of_ble_eq_true rfl⟩) (fun h => by cases h) ?_
  refine vs_if_eq (tgt := 33) C d_X_clause_5 (by decide) (fun h1 => ?_) (fun h1 => ?_)
  · exact hth _ (fun h => b01_0.mp h1 h.1)
  · refine vs_iload_n C rfl d_X_clause_8 ?_
    refine vs_bipush (v := 8) C (by decide) d_X_clause_9 ?_
    refine vs_cS C (k_X_isBelow l b D aC S t 8) yk_X_isBelow ml_X_61 st_X_isBelow d_X_clause_11 rfl rfl (by exact Nat.le_of_ble_eq_true rfl) (by exact ⟨Nat.le_of_ble_eq_true rfl, Nat.le_of_ble_eq_true rfl⟩) (by exact ⟨Nat.le_of_ble_eq_true rfl, Nat.le_of_ble_eq_true rfl⟩) (fun h => by cases h) ?_
    refine vs_if_eq (tgt := 33) C d_X_clause_14 (by decide) (fun h2 => ?_) (fun h2 => ?_)
    · exact hth _ (fun h => b01_0.mp h2 h.2.1)
    · refine vs_iload_n C rfl d_X_clause_17 ?_
      refine vs_iconst (v := 3) C (by decide) d_X_clause_18 ?_
      refine vs_cS C (k_X_isBelow l b D aC S f 3) yk_X_isBelow ml_X_61 st_X_isBelow d_X_clause_19 rfl rfl (by exact Nat.le_of_ble_eq_true rfl) (by exact ⟨Nat.le_of_ble_eq_true rfl, Nat.le_of_ble_eq_true rfl⟩) (by exact ⟨Nat.le_of_ble_eq_true rfl, Nat.le_of_ble_eq_true rfl⟩) (fun h => by cases h) ?_
      refine vs_if_eq (tgt := 33) C d_X_clause_22 (by decide) (fun h3 => ?_) (fun h3 => ?_)
      · exact hth _ (fun h => b01_0.mp h3 h.2.2.1)
      · refine vs_dload C rfl d_X_clause_25 ?_
        refine vs_cS C (k_X_isWeight l b D aC S w) yk_X_isWeight ml_X_85 st_X_isWeight d_X_clause_27 rfl rfl (by exact Nat.le_of_ble_eq_true rfl) (by exact ⟨Nat.le_of_ble_eq_true rfl, Nat.le_of_ble_eq_true rfl⟩) (by exact ⟨Nat.le_of_ble_eq_true rfl, Nat.le_of_ble_eq_true rfl⟩) (fun h => by cases h) ?_
        refine vs_if_ne (tgt := 41) C d_X_clause_30 (by decide) (fun h4 => ?_) (fun h4 => ?_)
        · have hok : claOK s0 t f w := ⟨b01_n h1, b01_n h2, b01_n h3, b01_n h4⟩
          refine vs_aload_n C rfl d_X_clause_41 ?_
          refine vs_get C fl_X_26 d_X_clause_42 rfl rfl ?_
          refine vs_get C fl_X_176 d_X_clause_45 rfl rfl ?_
          refine vs_bipush (v := 6) C (by decide) d_X_clause_48 ?_
          refine vs_icmp_lt (tgt := 61) C d_X_clause_50 (by decide) (fun h5 => ?_) (fun h5 => ?_)
          · rw [hk] at h5
            have hk' : k < 6 := (nI_ltI (by omega) (by decide)).mp h5
            have h0 : ec = 0 := by
              rcases he with h | h | h
              · exact h.1
              · exact absurd hok h.2
              · exact absurd hk' h.2.2
            refine vs_aload_n C rfl d_X_clause_61 ?_
            refine vs_get C fl_X_26 d_X_clause_62 rfl rfl ?_
            refine vs_iload_n C rfl d_X_clause_65 ?_
            refine vs_iload_n C rfl d_X_clause_66 ?_
            refine vs_iload_n C rfl d_X_clause_67 ?_
            refine vs_dload C rfl d_X_clause_68 ?_
            refine vs_d2f C (hw hok.2.2.2) d_X_clause_70 ?_
            refine vs_cV C (k_Q_insert l b D aC S k s0 t f (FP.d2f w) hk hk') yk_Q_insert ml_X_177 im_Q_insert se_Q_insert d_X_clause_71 rfl rfl rfl rfl (by exact Nat.le_of_ble_eq_true rfl) (by exact ⟨Nat.le_of_ble_eq_true rfl, Nat.le_of_ble_eq_true rfl⟩) (by exact ⟨Nat.le_of_ble_eq_true rfl, Nat.le_of_ble_eq_true rfl⟩) (fun h => by cases h) ?_
            refine vs_aload_n C rfl d_X_clause_74 ?_
            refine vs_get C fl_X_26 d_X_clause_75 rfl rfl ?_
            refine vs_get C fl_X_176 d_X_clause_78 rfl rfl ?_
            have hsz := qI_size t f k S
            subst hQ
            exact vs_iret C hr d_X_clause_81 ⟨Nat.le_of_ble_eq_true rfl, Nat.le_of_ble_eq_true rfl⟩ (fun h => by cases h) (by first | exact (fun _ => rfl) | exact (fun h => by cases h)) (pc_ok h0 (by show some (Value.int ((qI t f k S).2.2.2.2.2.1 10 6 + 1)) = _; rw [hsz, hk, nI_1]) rfl)
          · rw [hk] at h5
            have h6 : ec = 2 := by
              rcases he with h | h | h
              · exact absurd (nI_lt h.2.2 (by decide)) h5
              · exact absurd hok h.2
              · exact h.1
            subst hQ
            exact vs_throw0 C hfl hx tx_1 d_X_clause_53 d_X_clause_56 d_X_clause_57 d_X_clause_60 rfl (by exact ⟨Nat.le_of_ble_eq_true rfl, Nat.le_of_ble_eq_true rfl⟩) (by exact ⟨Nat.le_of_ble_eq_true rfl, Nat.le_of_ble_eq_true rfl, Nat.le_of_ble_eq_true rfl, Nat.le_of_ble_eq_true rfl⟩) (pc_no (by rw [h6]; decide) (by rw [h6]; rfl))
        · exact hth _ (fun h => b01_0.mp h4 h.2.2.2)
def valA (u f : Int32) : Prop := (0 ≤ u ∧ u < 8) ∧ (0 ≤ f ∧ f < 3)
def livX (S : vs_S) (k : Nat) : Int64 := or_l (S.2.1 34) k &&& ((S.2.2.2.2.2 27 2) ^^^ (-1))
def valB (S : vs_S) (k : Nat) (u i : Int32) : Prop := (0 ≤ i ∧ i < 40) ∧ (¬ sr (livX S k) i &&& 1 = 0) ∧ mr S i.toNatClampNeg (xTok S u) = true
def valC (S : vs_S) (u f : Int32) : Prop := ¬ S.1 31 u.toNatClampNeg < S.1 30 f.toNatClampNeg
def kdV (e : Nat) : Nat := if e = 1 then 0 else if e = 2 then 2 else 4
set_option maxRecDepth 100000 in
set_option maxHeartbeats 4000000 in
theorem k_X_value (l : Launch) (b : Nat) (D : va_G) (aC : Nat → ClassId) (S : vs_S) (hfl : l.flags = flags0) (u i f : Int32) (k ec : Nat) (hk : (S.2.2.2.2.1 32 2) = nI k) (hk6 : k ≤ 6) (he : (ec = 0 ∧ valA u f ∧ valB S k u i ∧ valC S u f) ∨ (ec = 1 ∧ ¬ valA u f) ∨ (ec = 2 ∧ valA u f ∧ ¬ valB S k u i) ∨ (ec = 3 ∧ valA u f ∧ valB S k u i ∧ ¬ valC S u f)) : vs_M l b D aC false false y_X_value (.code y_X_value c_X_value 4 (Option.some Jvm.ClassFile.FieldType.int)) { frames := 6, cells := 1, slots := 6, locals := 100 } [.ref 0, .int u, .int i, .int f] (vs_mem S) (vs_pc ec kdV (some (.int (S.1 3 (i.toNatClampNeg * 3 + f.toNatClampNeg)))) (vs_mem S) (vs_mem S)) := by
  refine vs_M.of (by decide) (Nat.le_of_ble_eq_true rfl) ?_
  intro p e s m args below meth c C hmn hr hx htg
  generalize hQ : vs_E below args s b D aC false false (vs_pc ec kdV (some (.int (S.1 3 (i.toNatClampNeg * 3 + f.toNatClampNeg)))) (vs_mem S) (vs_mem S)) { frames := 6, cells := 1, slots := 6, locals := 100 } = Q
  have hth : ∀ lv, ¬ valA u f → vs_G p l e { frames := 6, cells := 1, slots := 6, locals := 100 } s m args below meth c b D aC 4 Q 0 0 true (vs_mem S) 17 lv [] := by
    intro lv hn
    have h1 : ec = 1 := by
      rcases he with h | h | h | h
      · exact absurd h.2.1 hn
      · exact h.1
      · exact absurd h.2.1 hn
      · exact absurd h.2.1 hn
    subst hQ
    exact vs_throw0 C hfl hx tx_0 d_X_value_17 d_X_value_20 d_X_value_21 d_X_value_24 rfl (by exact ⟨Nat.le_of_ble_eq_true rfl, Nat.le_of_ble_eq_true rfl⟩) (by exact ⟨Nat.le_of_ble_eq_true rfl, Nat.le_of_ble_eq_true rfl, Nat.le_of_ble_eq_true rfl, Nat.le_of_ble_eq_true rfl⟩) (pc_no (by rw [h1]; decide) (by rw [h1]; rfl))
  have hth2 : ∀ lv, valA u f → ¬ valB S k u i → vs_G p l e { frames := 6, cells := 1, slots := 6, locals := 100 } s m args below meth c b D aC 4 Q 0 0 true (vs_mem S) 70 lv [] := by
    intro lv hA hn
    have h1 : ec = 2 := by
      rcases he with h | h | h | h
      · exact absurd h.2.2.1 hn
      · exact absurd hA h.2
      · exact h.1
      · exact absurd h.2.2.1 hn
    subst hQ
    exact vs_throw0 C hfl hx tx_2 d_X_value_70 d_X_value_73 d_X_value_74 d_X_value_77 rfl (by exact ⟨Nat.le_of_ble_eq_true rfl, Nat.le_of_ble_eq_true rfl⟩) (by exact ⟨Nat.le_of_ble_eq_true rfl, Nat.le_of_ble_eq_true rfl, Nat.le_of_ble_eq_true rfl, Nat.le_of_ble_eq_true rfl⟩) (pc_no (by rw [h1]; decide) (by rw [h1]; rfl))
  refine vs_iload_n C rfl d_X_value_0 ?_
  refine vs_bipush (v := 8) C (by decide) d_X_value_1 ?_
  refine vs_cS C (k_X_isBelow l b D aC S u 8) yk_X_isBelow ml_X_61 st_X_isBelow d_X_value_3 rfl rfl (by exact Nat.le_of_ble_eq_true rfl) (by exact ⟨Nat.le_of_ble_eq_true rfl, Nat.le_of_ble_eq_true rfl⟩) (by exact ⟨Nat.le_of_ble_eq_true rfl, Nat.le_of_ble_eq_true rfl⟩) (fun h => by cases h) ?_
  refine vs_if_eq (tgt := 17) C d_X_value_6 (by decide) (fun h1 => ?_) (fun h1 => ?_)
  · exact hth _ (fun h => b01_0.mp h1 h.1)
  · refine vs_iload_n C rfl d_X_value_9 ?_
    refine vs_iconst (v := 3) C (by decide) d_X_value_10 ?_
    refine vs_cS C (k_X_isBelow l b D aC S f 3) yk_X_isBelow ml_X_61 st_X_isBelow d_X_value_11 rfl rfl (by exact Nat.le_of_ble_eq_true rfl) (by exact ⟨Nat.le_of_ble_eq_true rfl, Nat.le_of_ble_eq_true rfl⟩) (by exact ⟨Nat.le_of_ble_eq_true rfl, Nat.le_of_ble_eq_true rfl⟩) (fun h => by cases h) ?_
    refine vs_if_ne (tgt := 25) C d_X_value_14 (by decide) (fun h2 => ?_) (fun h2 => ?_)
    · have hA : valA u f := ⟨b01_n h1, b01_n h2⟩
      refine vs_iload_n C rfl d_X_value_25 ?_
      refine vs_bipush (v := 40) C (by decide) d_X_value_26 ?_
      refine vs_cS C (k_X_isBelow l b D aC S i 40) yk_X_isBelow ml_X_61 st_X_isBelow d_X_value_28 rfl rfl (by exact Nat.le_of_ble_eq_true rfl) (by exact ⟨Nat.le_of_ble_eq_true rfl, Nat.le_of_ble_eq_true rfl⟩) (by exact ⟨Nat.le_of_ble_eq_true rfl, Nat.le_of_ble_eq_true rfl⟩) (fun h => by cases h) ?_
      refine vs_if_eq (tgt := 70) C d_X_value_31 (by decide) (fun h3 => ?_) (fun h3 => ?_)
      · exact hth2 _ hA (fun h => b01_0.mp h3 h.1)
      · refine vs_aload_n C rfl d_X_value_34 ?_
        refine vs_get C fl_X_44 d_X_value_35 rfl rfl ?_
        refine vs_cV C (k_V_livingIds l b D aC S k hk hk6) yk_V_livingIds ml_X_173 im_V_livingIds se_V_livingIds d_X_value_38 rfl rfl rfl rfl (by exact Nat.le_of_ble_eq_true rfl) (by exact ⟨Nat.le_of_ble_eq_true rfl, Nat.le_of_ble_eq_true rfl⟩) (by exact ⟨Nat.le_of_ble_eq_true rfl, Nat.le_of_ble_eq_true rfl⟩) (fun h => by cases h) ?_
        refine vs_iload_n C rfl d_X_value_41 ?_
        refine vs_cS C (k_X_holds l b D aC S (livX S k) i) yk_X_holds ml_X_126 st_X_holds d_X_value_42 rfl rfl (by exact Nat.le_of_ble_eq_true rfl) (by exact ⟨Nat.le_of_ble_eq_true rfl, Nat.le_of_ble_eq_true rfl⟩) (by exact ⟨Nat.le_of_ble_eq_true rfl, Nat.le_of_ble_eq_true rfl⟩) (fun h => by cases h) ?_
        refine vs_if_eq (tgt := 70) C d_X_value_45 (by decide) (fun h4 => ?_) (fun h4 => ?_)
        · exact hth2 _ hA (fun h => b01_0.mp h4 h.2.1)
        · have hi := b01_n h3
          obtain ⟨hlt, hii⟩ := nI_rng (n := 40) hi.1 hi.2 (by decide)
          refine vs_aload_n C rfl d_X_value_48 ?_
          refine vs_get C fl_X_12 d_X_value_49 rfl rfl ?_
          refine vs_iload_n C rfl d_X_value_52 ?_
          refine vs_aload_n C rfl d_X_value_53 ?_
          refine vs_get C fl_X_44 d_X_value_54 rfl rfl ?_
          refine vs_get C fl_X_68 d_X_value_57 rfl rfl ?_
          refine vs_iload_n C rfl d_X_value_60 ?_
          refine vs_cV C (k_R_tokensOf_Seen l b D aC S u) yk_R_tokensOf ml_X_213 im_R_tokensOf se_R_tokensOf d_X_value_61 rfl rfl rfl rfl (by exact Nat.le_of_ble_eq_true rfl) (by exact ⟨Nat.le_of_ble_eq_true rfl, Nat.le_of_ble_eq_true rfl⟩) (by exact ⟨Nat.le_of_ble_eq_true rfl, Nat.le_of_ble_eq_true rfl⟩) (fun h => by cases h) ?_
          refine vs_st_eq (st2 := [.int (xTok S u), .int (nI i.toNatClampNeg), .ref 1]) (by rw [← hii] <;> rfl) ?_
          refine vs_cV C (k_D_mayRead l b D aC S i.toNatClampNeg (xTok S u) (by omega)) yk_D_mayRead ml_X_216 im_D_mayRead se_D_mayRead d_X_value_64 rfl rfl rfl rfl (by exact Nat.le_of_ble_eq_true rfl) (by exact ⟨Nat.le_of_ble_eq_true rfl, Nat.le_of_ble_eq_true rfl⟩) (by exact ⟨Nat.le_of_ble_eq_true rfl, Nat.le_of_ble_eq_true rfl⟩) (fun h => by cases h) ?_
          refine vs_if_ne (tgt := 78) C d_X_value_67 (by decide) (fun h5 => ?_) (fun h5 => ?_)
          · have hB : valB S k u i := ⟨hi, b01_n h4, b01_n h5⟩
            obtain ⟨hlu, huu⟩ := nI_rng (n := 8) hA.1.1 hA.1.2 (by decide)
            obtain ⟨hlf, hff⟩ := nI_rng (n := 3) hA.2.1 hA.2.2 (by decide)
            refine vs_aload_n C rfl d_X_value_78 ?_
            refine vs_get C fl_X_44 d_X_value_79 rfl rfl ?_
            refine vs_get C fl_X_68 d_X_value_82 rfl rfl ?_
            refine vs_iload_n C rfl d_X_value_85 ?_
            refine vs_iload_n C rfl d_X_value_86 ?_
            refine vs_st_eq (st2 := [.int (nI u.toNatClampNeg), .int (nI f.toNatClampNeg), .ref 28]) (by rw [← huu, ← hff] <;> rfl) ?_
            refine vs_cV C (k_R_isOpen l b D aC S f.toNatClampNeg u.toNatClampNeg hlf hlu) yk_R_isOpen ml_X_219 im_R_isOpen se_R_isOpen d_X_value_87 rfl rfl rfl rfl (by exact Nat.le_of_ble_eq_true rfl) (by exact ⟨Nat.le_of_ble_eq_true rfl, Nat.le_of_ble_eq_true rfl⟩) (by exact ⟨Nat.le_of_ble_eq_true rfl, Nat.le_of_ble_eq_true rfl⟩) (fun h => by cases h) ?_
            refine vs_if_ne (tgt := 101) C d_X_value_90 (by decide) (fun h6 => ?_) (fun h6 => ?_)
            · have hC : valC S u f := (b01_n h6 : ¬ S.1 31 u.toNatClampNeg < S.1 30 f.toNatClampNeg)
              have h0 : ec = 0 := by
                rcases he with h | h | h | h
                · exact h.1
                · exact absurd hA h.2
                · exact absurd hB h.2.2
                · exact absurd hC h.2.2.2
              refine vs_aload_n C rfl d_X_value_101 ?_
              refine vs_get C fl_X_12 d_X_value_102 rfl rfl ?_
              refine vs_get C fl_X_107 d_X_value_105 rfl rfl ?_
              refine vs_iload_n C rfl d_X_value_108 ?_
              refine vs_iload_n C rfl d_X_value_109 ?_
              refine vs_st_eq (st2 := [.int (nI f.toNatClampNeg), .int (nI i.toNatClampNeg), .ref 3]) (by rw [← hff, ← hii] <;> rfl) ?_
              refine vs_cS C (k_D_valuePlace l b D aC S (nI i.toNatClampNeg) (nI f.toNatClampNeg)) yk_D_valuePlace ml_X_103 st_D_valuePlace d_X_value_110 rfl rfl (by exact Nat.le_of_ble_eq_true rfl) (by exact ⟨Nat.le_of_ble_eq_true rfl, Nat.le_of_ble_eq_true rfl⟩) (by exact ⟨Nat.le_of_ble_eq_true rfl, Nat.le_of_ble_eq_true rfl⟩) (fun h => by cases h) ?_
              refine vs_ialdN C d_X_value_113 rfl (vpl) ((by omega)) (by decide) ?_
              subst hQ
              exact vs_iret C hr d_X_value_114 ⟨Nat.le_of_ble_eq_true rfl, Nat.le_of_ble_eq_true rfl⟩ (fun h => by cases h) (by first | exact (fun _ => rfl) | exact (fun h => by cases h)) (pc_ok h0 rfl rfl)
            · have hC : ¬ valC S u f := (b01_0.mp h6 : ¬ ¬ S.1 31 u.toNatClampNeg < S.1 30 f.toNatClampNeg)
              have h7 : ec = 3 := by
                rcases he with h | h | h | h
                · exact absurd h.2.2.2 hC
                · exact absurd hA h.2
                · exact absurd hB h.2.2
                · exact h.1
              subst hQ
              exact vs_throw0 C hfl hx tx_4 d_X_value_93 d_X_value_96 d_X_value_97 d_X_value_100 rfl (by exact ⟨Nat.le_of_ble_eq_true rfl, Nat.le_of_ble_eq_true rfl⟩) (by exact ⟨Nat.le_of_ble_eq_true rfl, Nat.le_of_ble_eq_true rfl, Nat.le_of_ble_eq_true rfl, Nat.le_of_ble_eq_true rfl⟩) (pc_no (by rw [h7]; decide) (by rw [h7]; rfl))
          · exact hth2 _ hA (fun h => b01_0.mp h5 h.2.2)
    · exact hth _ (fun h => b01_0.mp h2 h.2)
def cnA (w : Int32) : Prop := ¬ w < 10 ∧ ¬ 18 ≤ w
def cnB (w : Int32) : Prop := ¬ w < 20 ∧ ¬ 28 ≤ w
def cnC (w : Int32) : Prop := 0 ≤ w ∧ w < 9
def cnF (S : vs_S) (j : Nat) : Int32 := match j with
  | 0 => (S.2.2.2.2.1 1 4)
  | 1 => bcR (S.2.2.2.2.2 0 6)
  | 2 => (S.2.2.2.2.1 24 2)
  | 3 => (S.2.2.2.2.1 32 2)
  | 4 => (S.2.2.2.2.1 0 8)
  | 5 => (S.2.2.2.2.1 0 9)
  | 6 => (S.2.2.2.2.1 6 4)
  | 7 => (S.2.2.2.2.1 6 5)
  | _ => (S.2.2.2.2.1 6 3)
section Cnt
variable {p : Program} {l : Launch} {e : Env} {R : Room} {s : State} {m : MethodId} {args : Array Value} {below : List Frame} {meth : Method} {c : Code} {b : Nat} {D : va_G} {aC : Nat → ClassId} {Q : State → Prop} {kc ks : Nat} {ck : Bool}
theorem i32_toInt_lt {x y : Int32} : x < y ↔ x.toInt < y.toInt := Int32.lt_iff_toInt_lt
end Cnt
set_option maxRecDepth 100000 in
set_option maxHeartbeats 4000000 in
theorem k_X_count_A (l : Launch) (b : Nat) (D : va_G) (aC : Nat → ClassId) (S : vs_S) (w : Int32) (h : cnA w) : vs_M l b D aC false true y_X_count (.code y_X_count c_X_count 2 (Option.some Jvm.ClassFile.FieldType.int)) { frames := 6, cells := 1, slots := 6, locals := 100 } [.ref 0, .int w] (vs_mem S) (vs_ret (some (.int (tk_o (S.1 21) 8 (1 <<< ((w - 10) &&& 31))))) (vs_mem S)) := by
  refine vs_M.of (by decide) (Nat.le_of_ble_eq_true rfl) ?_
  intro p e s m args below meth c C hmn hr hx htg
  generalize hQ : vs_E below args s b D aC false true (vs_ret (some (.int (tk_o (S.1 21) 8 (1 <<< ((w - 10) &&& 31))))) (vs_mem S)) { frames := 6, cells := 1, slots := 6, locals := 100 } = Q
  refine vs_iload_n C rfl d_X_count_0 ?_
  refine vs_bipush (v := 10) C (by decide) d_X_count_1 ?_
  refine vs_icmp_lt (tgt := 27) C d_X_count_3 (by decide) (fun h1 => ?_) (fun h1 => ?_)
  · exact absurd h1 h.1
  · refine vs_iload_n C rfl d_X_count_6 ?_
    refine vs_bipush (v := 18) C (by decide) d_X_count_7 ?_
    refine vs_icmp_ge (tgt := 27) C d_X_count_9 (by decide) (fun h2 => ?_) (fun h2 => ?_)
    · exact absurd h2 h.2
    · refine vs_aload_n C rfl d_X_count_12 ?_
      refine vs_get C fl_X_40 d_X_count_13 rfl rfl ?_
      refine vs_get C fl_X_68 d_X_count_16 rfl rfl ?_
      refine vs_iload_n C rfl d_X_count_19 ?_
      refine vs_bipush (v := 10) C (by decide) d_X_count_20 ?_
      refine vs_isub C d_X_count_22 ?_
      refine vs_cV C (k_R_tokensOf_Now l b D aC S (w - 10)) yk_R_tokensOf ml_X_213 im_R_tokensOf se_R_tokensOf d_X_count_23 rfl rfl rfl rfl (by exact Nat.le_of_ble_eq_true rfl) (by exact ⟨Nat.le_of_ble_eq_true rfl, Nat.le_of_ble_eq_true rfl⟩) (by exact ⟨Nat.le_of_ble_eq_true rfl, Nat.le_of_ble_eq_true rfl⟩) (fun h => by cases h) ?_
      subst hQ
      exact vs_iret C hr d_X_count_26 ⟨Nat.le_of_ble_eq_true rfl, Nat.le_of_ble_eq_true rfl⟩ (fun h => by cases h) (by first | exact (fun _ => rfl) | exact (fun h => by cases h)) (⟨rfl, rfl⟩)
section CntB
variable {p : Program} {l : Launch} {e : Env} {R : Room} {s : State} {m : MethodId} {args : Array Value} {below : List Frame} {meth : Method} {c : Code} {b : Nat} {D : va_G} {aC : Nat → ClassId} {Q : State → Prop} {kc ks : Nat} {ck : Bool}
theorem cnt_27 (C : vs_X p s m args meth c b D aC "VeilSearch" c_X_count 2) (S : vs_S) (w : Int32) (h : ¬ cnA w) (K : vs_G p l e R s m args below meth c b D aC 2 Q kc ks ck (vs_mem S) 27 [some (.ref 0), some (.int w)] []) : vs_G p l e R s m args below meth c b D aC 2 Q kc ks ck (vs_mem S) 0 [some (.ref 0), some (.int w)] [] := by
  refine vs_iload_n C rfl d_X_count_0 ?_
  refine vs_bipush (v := 10) C (by decide) d_X_count_1 ?_
  refine vs_icmp_lt (tgt := 27) C d_X_count_3 (by decide) (fun h1 => ?_) (fun h1 => ?_)
  · exact K
  · refine vs_iload_n C rfl d_X_count_6 ?_
    refine vs_bipush (v := 18) C (by decide) d_X_count_7 ?_
    refine vs_icmp_ge (tgt := 27) C d_X_count_9 (by decide) (fun h2 => ?_) (fun h2 => ?_)
    · exact K
    · exact absurd ⟨h1, h2⟩ h
theorem cnt_55 (C : vs_X p s m args meth c b D aC "VeilSearch" c_X_count 2) (S : vs_S) (w : Int32) (h : ¬ cnB w) (K : vs_G p l e R s m args below meth c b D aC 2 Q kc ks ck (vs_mem S) 55 [some (.ref 0), some (.int w)] [.int w]) : vs_G p l e R s m args below meth c b D aC 2 Q kc ks ck (vs_mem S) 27 [some (.ref 0), some (.int w)] [] := by
  refine vs_iload_n C rfl d_X_count_27 ?_
  refine vs_bipush (v := 20) C (by decide) d_X_count_28 ?_
  refine vs_icmp_lt (tgt := 54) C d_X_count_30 (by decide) (fun h1 => ?_) (fun h1 => ?_)
  · refine vs_iload_n C rfl d_X_count_54 ?_
    exact K
  · refine vs_iload_n C rfl d_X_count_33 ?_
    refine vs_bipush (v := 28) C (by decide) d_X_count_34 ?_
    refine vs_icmp_ge (tgt := 54) C d_X_count_36 (by decide) (fun h2 => ?_) (fun h2 => ?_)
    · refine vs_iload_n C rfl d_X_count_54 ?_
      exact K
    · exact absurd ⟨h1, h2⟩ h
end CntB
set_option maxRecDepth 100000 in
set_option maxHeartbeats 4000000 in
theorem k_X_count_B (l : Launch) (b : Nat) (D : va_G) (aC : Nat → ClassId) (S : vs_S) (w : Int32) (hA : ¬ cnA w) (h : cnB w) : vs_M l b D aC false true y_X_count (.code y_X_count c_X_count 2 (Option.some Jvm.ClassFile.FieldType.int)) { frames := 6, cells := 1, slots := 6, locals := 100 } [.ref 0, .int w] (vs_mem S) (vs_ret (some (.int (tk_o (S.1 29) 8 (1 <<< ((w - 20) &&& 31))))) (vs_mem S)) := by
  refine vs_M.of (by decide) (Nat.le_of_ble_eq_true rfl) ?_
  intro p e s m args below meth c C hmn hr hx htg
  generalize hQ : vs_E below args s b D aC false true (vs_ret (some (.int (tk_o (S.1 29) 8 (1 <<< ((w - 20) &&& 31))))) (vs_mem S)) { frames := 6, cells := 1, slots := 6, locals := 100 } = Q
  refine cnt_27 C S w hA ?_
  refine vs_iload_n C rfl d_X_count_27 ?_
  refine vs_bipush (v := 20) C (by decide) d_X_count_28 ?_
  refine vs_icmp_lt (tgt := 54) C d_X_count_30 (by decide) (fun h1 => ?_) (fun h1 => ?_)
  · exact absurd h1 h.1
  · refine vs_iload_n C rfl d_X_count_33 ?_
    refine vs_bipush (v := 28) C (by decide) d_X_count_34 ?_
    refine vs_icmp_ge (tgt := 54) C d_X_count_36 (by decide) (fun h2 => ?_) (fun h2 => ?_)
    · exact absurd h2 h.2
    · refine vs_aload_n C rfl d_X_count_39 ?_
      refine vs_get C fl_X_44 d_X_count_40 rfl rfl ?_
      refine vs_get C fl_X_68 d_X_count_43 rfl rfl ?_
      refine vs_iload_n C rfl d_X_count_46 ?_
      refine vs_bipush (v := 20) C (by decide) d_X_count_47 ?_
      refine vs_isub C d_X_count_49 ?_
      refine vs_cV C (k_R_tokensOf_Seen l b D aC S (w - 20)) yk_R_tokensOf ml_X_213 im_R_tokensOf se_R_tokensOf d_X_count_50 rfl rfl rfl rfl (by exact Nat.le_of_ble_eq_true rfl) (by exact ⟨Nat.le_of_ble_eq_true rfl, Nat.le_of_ble_eq_true rfl⟩) (by exact ⟨Nat.le_of_ble_eq_true rfl, Nat.le_of_ble_eq_true rfl⟩) (fun h => by cases h) ?_
      subst hQ
      exact vs_iret C hr d_X_count_53 ⟨Nat.le_of_ble_eq_true rfl, Nat.le_of_ble_eq_true rfl⟩ (fun h => by cases h) (by first | exact (fun _ => rfl) | exact (fun h => by cases h)) (⟨rfl, rfl⟩)
set_option maxRecDepth 100000 in
set_option maxHeartbeats 4000000 in
theorem k_X_count_C (l : Launch) (b : Nat) (D : va_G) (aC : Nat → ClassId) (S : vs_S) (j : Nat) (hj : j < 9) : vs_M l b D aC false true y_X_count (.code y_X_count c_X_count 2 (Option.some Jvm.ClassFile.FieldType.int)) { frames := 6, cells := 1, slots := 6, locals := 100 } [.ref 0, .int (nI j)] (vs_mem S) (vs_ret (some (.int (cnF S j))) (vs_mem S)) := by
  refine vs_M.of (by decide) (Nat.le_of_ble_eq_true rfl) ?_
  intro p e s m args below meth c C hmn hr hx htg
  generalize hQ : vs_E below args s b D aC false true (vs_ret (some (.int (cnF S j))) (vs_mem S)) { frames := 6, cells := 1, slots := 6, locals := 100 } = Q
  have hj' : j = 0 ∨ j = 1 ∨ j = 2 ∨ j = 3 ∨ j = 4 ∨ j = 5 ∨ j = 6 ∨ j = 7 ∨ j = 8 := by omega
  have hA : ¬ cnA (nI j) := fun h => h.1 (nI_lt (show j < 10 by omega) (by decide))
  have hB : ¬ cnB (nI j) := fun h => h.1 (nI_lt (show j < 20 by omega) (by decide))
  refine cnt_27 C S (nI j) hA (cnt_55 C S (nI j) hB ?_)
  clear hA hB
  rcases hj' with rfl | rfl | rfl | rfl | rfl | rfl | rfl | rfl | rfl
  · refine vs_tableIn (tgt := 104) C d_X_count_55 (by decide) (by decide) rfl (by decide) ?_
    refine vs_aload_n C rfl d_X_count_104 ?_
    refine vs_get C fl_X_12 d_X_count_105 rfl rfl ?_
    refine vs_get C fl_X_96 d_X_count_108 rfl rfl ?_
    subst hQ
    exact vs_iret C hr d_X_count_111 ⟨Nat.le_of_ble_eq_true rfl, Nat.le_of_ble_eq_true rfl⟩ (fun h => by cases h) (by first | exact (fun _ => rfl) | exact (fun h => by cases h)) (⟨rfl, rfl⟩)
  · refine vs_tableIn (tgt := 112) C d_X_count_55 (by decide) (by decide) rfl (by decide) ?_
    refine vs_aload_n C rfl d_X_count_112 ?_
    refine vs_get C fl_X_47 d_X_count_113 rfl rfl ?_
    refine vs_cS C (k_J_bitCount l b D aC S (S.2.2.2.2.2 0 6)) yk_J_bitCount ml_X_144 st_J_bitCount d_X_count_116 rfl rfl (by exact Nat.le_of_ble_eq_true rfl) (by exact ⟨Nat.le_of_ble_eq_true rfl, Nat.le_of_ble_eq_true rfl⟩) (by exact ⟨Nat.le_of_ble_eq_true rfl, Nat.le_of_ble_eq_true rfl⟩) (fun h => by cases h) ?_
    subst hQ
    exact vs_iret C hr d_X_count_119 ⟨Nat.le_of_ble_eq_true rfl, Nat.le_of_ble_eq_true rfl⟩ (fun h => by cases h) (by first | exact (fun _ => rfl) | exact (fun h => by cases h)) (⟨rfl, rfl⟩)
  · refine vs_tableIn (tgt := 120) C d_X_count_55 (by decide) (by decide) rfl (by decide) ?_
    refine vs_aload_n C rfl d_X_count_120 ?_
    refine vs_get C fl_X_40 d_X_count_121 rfl rfl ?_
    refine vs_get C fl_X_135 d_X_count_124 rfl rfl ?_
    refine vs_get C fl_X_139 d_X_count_127 rfl rfl ?_
    subst hQ
    exact vs_iret C hr d_X_count_130 ⟨Nat.le_of_ble_eq_true rfl, Nat.le_of_ble_eq_true rfl⟩ (fun h => by cases h) (by first | exact (fun _ => rfl) | exact (fun h => by cases h)) (⟨rfl, rfl⟩)
  · refine vs_tableIn (tgt := 131) C d_X_count_55 (by decide) (by decide) rfl (by decide) ?_
    refine vs_aload_n C rfl d_X_count_131 ?_
    refine vs_get C fl_X_44 d_X_count_132 rfl rfl ?_
    refine vs_get C fl_X_135 d_X_count_135 rfl rfl ?_
    refine vs_get C fl_X_139 d_X_count_138 rfl rfl ?_
    subst hQ
    exact vs_iret C hr d_X_count_141 ⟨Nat.le_of_ble_eq_true rfl, Nat.le_of_ble_eq_true rfl⟩ (fun h => by cases h) (by first | exact (fun _ => rfl) | exact (fun h => by cases h)) (⟨rfl, rfl⟩)
  · refine vs_tableIn (tgt := 142) C d_X_count_55 (by decide) (by decide) rfl (by decide) ?_
    refine vs_aload_n C rfl d_X_count_142 ?_
    refine vs_get C fl_X_55 d_X_count_143 rfl rfl ?_
    subst hQ
    exact vs_iret C hr d_X_count_146 ⟨Nat.le_of_ble_eq_true rfl, Nat.le_of_ble_eq_true rfl⟩ (fun h => by cases h) (by first | exact (fun _ => rfl) | exact (fun h => by cases h)) (⟨rfl, rfl⟩)
  · refine vs_tableIn (tgt := 147) C d_X_count_55 (by decide) (by decide) rfl (by decide) ?_
    refine vs_aload_n C rfl d_X_count_147 ?_
    refine vs_get C fl_X_58 d_X_count_148 rfl rfl ?_
    subst hQ
    exact vs_iret C hr d_X_count_151 ⟨Nat.le_of_ble_eq_true rfl, Nat.le_of_ble_eq_true rfl⟩ (fun h => by cases h) (by first | exact (fun _ => rfl) | exact (fun h => by cases h)) (⟨rfl, rfl⟩)
  · refine vs_tableIn (tgt := 152) C d_X_count_55 (by decide) (by decide) rfl (by decide) ?_
    refine vs_aload_n C rfl d_X_count_152 ?_
    refine vs_get C fl_X_19 d_X_count_153 rfl rfl ?_
    refine vs_get C fl_X_225 d_X_count_156 rfl rfl ?_
    subst hQ
    exact vs_iret C hr d_X_count_159 ⟨Nat.le_of_ble_eq_true rfl, Nat.le_of_ble_eq_true rfl⟩ (fun h => by cases h) (by first | exact (fun _ => rfl) | exact (fun h => by cases h)) (⟨rfl, rfl⟩)
  · refine vs_tableIn (tgt := 160) C d_X_count_55 (by decide) (by decide) rfl (by decide) ?_
    refine vs_aload_n C rfl d_X_count_160 ?_
    refine vs_get C fl_X_19 d_X_count_161 rfl rfl ?_
    refine vs_get C fl_X_228 d_X_count_164 rfl rfl ?_
    subst hQ
    exact vs_iret C hr d_X_count_167 ⟨Nat.le_of_ble_eq_true rfl, Nat.le_of_ble_eq_true rfl⟩ (fun h => by cases h) (by first | exact (fun _ => rfl) | exact (fun h => by cases h)) (⟨rfl, rfl⟩)
  · refine vs_tableIn (tgt := 168) C d_X_count_55 (by decide) (by decide) rfl (by decide) ?_
    refine vs_aload_n C rfl d_X_count_168 ?_
    refine vs_get C fl_X_19 d_X_count_169 rfl rfl ?_
    refine vs_get C fl_X_170 d_X_count_172 rfl rfl ?_
    subst hQ
    exact vs_iret C hr d_X_count_175 ⟨Nat.le_of_ble_eq_true rfl, Nat.le_of_ble_eq_true rfl⟩ (fun h => by cases h) (by first | exact (fun _ => rfl) | exact (fun h => by cases h)) (⟨rfl, rfl⟩)
set_option maxRecDepth 100000 in
set_option maxHeartbeats 4000000 in
theorem k_X_count_D (l : Launch) (b : Nat) (D : va_G) (aC : Nat → ClassId) (S : vs_S) (hfl : l.flags = flags0) (w : Int32) (hA : ¬ cnA w) (hB : ¬ cnB w) (hC : ¬ cnC w) : vs_M l b D aC false false y_X_count (.code y_X_count c_X_count 2 (Option.some Jvm.ClassFile.FieldType.int)) { frames := 6, cells := 1, slots := 6, locals := 100 } [.ref 0, .int w] (vs_mem S) (vs_pc 1 (fun _ => 0) none (vs_mem S) (vs_mem S)) := by
  refine vs_M.of (by decide) (Nat.le_of_ble_eq_true rfl) ?_
  intro p e s m args below meth c C hmn hr hx htg
  generalize hQ : vs_E below args s b D aC false false (vs_pc 1 (fun _ => 0) none (vs_mem S) (vs_mem S)) { frames := 6, cells := 1, slots := 6, locals := 100 } = Q
  refine cnt_27 C S w hA (cnt_55 C S w hB ?_)
  refine vs_tableOut (tgt := 176) C d_X_count_55 ?_ (by decide) ?_
  · by_cases h : w.toInt < 0
    · exact Or.inl h
    · refine Or.inr (Decidable.not_not.mp (fun h2 => hC ⟨?_, ?_⟩))
      · exact Int32.le_iff_toInt_le.mpr (by rw [show (0 : Int32).toInt = 0 from by decide]; omega)
      · exact Int32.lt_iff_toInt_lt.mpr (by rw [show (9 : Int32).toInt = 9 from by decide]; omega)
  · subst hQ
    exact vs_throw0 C hfl hx tx_0 d_X_count_176 d_X_count_179 d_X_count_180 d_X_count_183 rfl (by exact ⟨Nat.le_of_ble_eq_true rfl, Nat.le_of_ble_eq_true rfl⟩) (by exact ⟨Nat.le_of_ble_eq_true rfl, Nat.le_of_ble_eq_true rfl, Nat.le_of_ble_eq_true rfl, Nat.le_of_ble_eq_true rfl⟩) (pc_no (by decide) rfl)

