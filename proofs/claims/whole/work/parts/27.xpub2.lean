def T6 : Room := { frames := 6, cells := 1, slots := 6, locals := 100 }
def lvlN (what : Int32) : Nat := if what = 0 then 3 else 8
def lvlP (what : Int32) : Nat := if what = 0 then 22 else 23
def lvlOK (what i n : Int32) : Prop := (0 ≤ what ∧ what < 2) ∧ (0 ≤ i ∧ i < nI (lvlN what)) ∧ (0 ≤ n ∧ n < 4)
set_option maxRecDepth 100000 in
set_option maxHeartbeats 4000000 in
theorem k_X_level (l : Launch) (b : Nat) (D : va_G) (aC : Nat → ClassId) (S : vs_S) (hfl : l.flags = flags0) (what i n : Int32) (ec : Nat) (he : (ec = 0 ∧ lvlOK what i n) ∨ (ec = 1 ∧ ¬ lvlOK what i n)) : vs_M l b D aC false false y_X_level (.code y_X_level c_X_level 6 (Option.some Jvm.ClassFile.FieldType.int)) { frames := 6, cells := 1, slots := 6, locals := 100 } [.ref 0, .int what, .int i, .int n] (vs_mem S) (vs_pc ec (fun _ => 0) (some (.int (S.1 (lvlP what) i.toNatClampNeg))) (vs_mem S) (vs_mem (vs_uI S (lvlP what) (upd (S.1 (lvlP what)) i.toNatClampNeg n)))) := by
  refine vs_M.of (by decide) (Nat.le_of_ble_eq_true rfl) ?_
  intro p e s m args below meth c C hmn hr hx htg
  generalize hQ : vs_E below args s b D aC false false (vs_pc ec (fun _ => 0) (some (.int (S.1 (lvlP what) i.toNatClampNeg))) (vs_mem S) (vs_mem (vs_uI S (lvlP what) (upd (S.1 (lvlP what)) i.toNatClampNeg n)))) { frames := 6, cells := 1, slots := 6, locals := 100 } = Q
  have hth : ∀ lv, ¬ lvlOK what i n → vs_G p l e { frames := 6, cells := 1, slots := 6, locals := 100 } s m args below meth c b D aC 6 Q 0 0 true (vs_mem S) 33 lv [] := by
    intro lv hn
    have h1 : ec = 1 := he.elim (fun h => absurd h.2 hn) (fun h => h.1)
    subst hQ
    exact vs_throw0 C hfl hx tx_0 d_X_level_33 d_X_level_36 d_X_level_37 d_X_level_40 rfl (by exact ⟨Nat.le_of_ble_eq_true rfl, Nat.le_of_ble_eq_true rfl⟩) (by exact ⟨Nat.le_of_ble_eq_true rfl, Nat.le_of_ble_eq_true rfl, Nat.le_of_ble_eq_true rfl, Nat.le_of_ble_eq_true rfl⟩) (pc_no (by rw [h1]; decide) rfl)
  have hok0 : lvlOK what i n → ec = 0 := fun hok => he.elim (fun h => h.1) (fun h => absurd hok h.2)
  refine vs_iload_n C rfl d_X_level_0 ?_
  refine vs_iconst (v := 2) C (by decide) d_X_level_1 ?_
  refine vs_cS C (k_X_isBelow l b D aC S what 2) yk_X_isBelow ml_X_61 st_X_isBelow d_X_level_2 rfl rfl (by exact Nat.le_of_ble_eq_true rfl) (by exact ⟨Nat.le_of_ble_eq_true rfl, Nat.le_of_ble_eq_true rfl⟩) (by exact ⟨Nat.le_of_ble_eq_true rfl, Nat.le_of_ble_eq_true rfl⟩) (fun h => by cases h) ?_
  refine vs_if_eq (tgt := 33) C d_X_level_5 (by decide) (fun h1 => ?_) (fun h1 => ?_)
  · exact hth _ (fun h => b01_0.mp h1 h.1)
  · refine vs_iload_n C rfl d_X_level_8 ?_
    refine vs_iload_n C rfl d_X_level_9 ?_
    have h19 : vs_G p l e { frames := 6, cells := 1, slots := 6, locals := 100 } s m args below meth c b D aC 6 Q 0 0 true (vs_mem S) 19 [some (.ref 0), some (.int what), some (.int i), some (.int n), none, none] [.int (nI (lvlN what)), .int i] := by
      refine vs_cS C (k_X_isBelow l b D aC S i (nI (lvlN what))) yk_X_isBelow ml_X_61 st_X_isBelow d_X_level_19 rfl rfl (by exact Nat.le_of_ble_eq_true rfl) (by exact ⟨Nat.le_of_ble_eq_true rfl, Nat.le_of_ble_eq_true rfl⟩) (by exact ⟨Nat.le_of_ble_eq_true rfl, Nat.le_of_ble_eq_true rfl⟩) (fun h => by cases h) ?_
      refine vs_if_eq (tgt := 33) C d_X_level_22 (by decide) (fun h2 => ?_) (fun h2 => ?_)
      · exact hth _ (fun h => b01_0.mp h2 h.2.1)
      · refine vs_iload_n C rfl d_X_level_25 ?_
        refine vs_iconst (v := 4) C (by decide) d_X_level_26 ?_
        refine vs_cS C (k_X_isBelow l b D aC S n 4) yk_X_isBelow ml_X_61 st_X_isBelow d_X_level_27 rfl rfl (by exact Nat.le_of_ble_eq_true rfl) (by exact ⟨Nat.le_of_ble_eq_true rfl, Nat.le_of_ble_eq_true rfl⟩) (by exact ⟨Nat.le_of_ble_eq_true rfl, Nat.le_of_ble_eq_true rfl⟩) (fun h => by cases h) ?_
        refine vs_if_ne (tgt := 41) C d_X_level_30 (by decide) (fun h3 => ?_) (fun h3 => ?_)
        · have hok : lvlOK what i n := ⟨b01_n h1, b01_n h2, b01_n h3⟩
          have h0 := hok0 hok
          refine vs_iload_n C rfl d_X_level_41 ?_
          refine vs_if_ne (tgt := 58) C d_X_level_42 (by decide) (fun h4 => ?_) (fun h4 => ?_)
          · have e1 : lvlP what = 23 := if_neg h4
            have e2 : lvlN what = 8 := if_neg h4
            rw [e1] at hQ
            obtain ⟨hlt, hii⟩ := nI_rng (n := 8) hok.2.1.1 (by rw [← e2]; exact hok.2.1.2) (by decide)
            refine vs_aload_n C rfl d_X_level_58 ?_
            refine vs_get C fl_X_40 d_X_level_59 rfl rfl ?_
            refine vs_get C fl_X_68 d_X_level_62 rfl rfl ?_
            refine vs_get C fl_X_82 d_X_level_65 rfl rfl ?_
            refine vs_astore C d_X_level_68 (by decide) ?_
            refine vs_aload C rfl d_X_level_70 ?_
            refine vs_iload_n C rfl d_X_level_72 ?_
            refine vs_ialdN C d_X_level_73 rfl (hii) (hlt) (by decide) ?_
            refine vs_istore C d_X_level_74 (by decide) ?_
            refine vs_aload C rfl d_X_level_76 ?_
            refine vs_iload_n C rfl d_X_level_78 ?_
            refine vs_iload_n C rfl d_X_level_79 ?_
            refine vs_iastN C d_X_level_80 rfl (hii) (hlt) (by decide) ?_
            refine vs_iload C rfl d_X_level_81 ?_
            subst hQ
            exact vs_iret C hr d_X_level_83 ⟨Nat.le_of_ble_eq_true rfl, Nat.le_of_ble_eq_true rfl⟩ (fun h => by cases h) (by first | exact (fun _ => rfl) | exact (fun h => by cases h)) (pc_ok h0 rfl rfl)
          · have e1 : lvlP what = 22 := if_pos h4
            have e2 : lvlN what = 3 := if_pos h4
            rw [e1] at hQ
            obtain ⟨hlt, hii⟩ := nI_rng (n := 3) hok.2.1.1 (by rw [← e2]; exact hok.2.1.2) (by decide)
            refine vs_aload_n C rfl d_X_level_45 ?_
            refine vs_get C fl_X_40 d_X_level_46 rfl rfl ?_
            refine vs_get C fl_X_68 d_X_level_49 rfl rfl ?_
            refine vs_get C fl_X_78 d_X_level_52 rfl rfl ?_
            refine vs_goto (tgt := 68) C d_X_level_55 (by decide) ?_
            refine vs_astore C d_X_level_68 (by decide) ?_
            refine vs_aload C rfl d_X_level_70 ?_
            refine vs_iload_n C rfl d_X_level_72 ?_
            refine vs_ialdN C d_X_level_73 rfl (hii) (hlt) (by decide) ?_
            refine vs_istore C d_X_level_74 (by decide) ?_
            refine vs_aload C rfl d_X_level_76 ?_
            refine vs_iload_n C rfl d_X_level_78 ?_
            refine vs_iload_n C rfl d_X_level_79 ?_
            refine vs_iastN C d_X_level_80 rfl (hii) (hlt) (by decide) ?_
            refine vs_iload C rfl d_X_level_81 ?_
            subst hQ
            exact vs_iret C hr d_X_level_83 ⟨Nat.le_of_ble_eq_true rfl, Nat.le_of_ble_eq_true rfl⟩ (fun h => by cases h) (by first | exact (fun _ => rfl) | exact (fun h => by cases h)) (pc_ok h0 rfl rfl)
        · exact hth _ (fun h => b01_0.mp h3 h.2.2)
    refine vs_if_ne (tgt := 17) C d_X_level_10 (by decide) (fun h2 => ?_) (fun h2 => ?_)
    · refine vs_bipush (v := 8) C (by decide) d_X_level_17 ?_
      have e2 : lvlN what = 8 := if_neg h2
      rw [e2] at h19
      exact h19
    · refine vs_iconst (v := 3) C (by decide) d_X_level_13 ?_
      refine vs_goto (tgt := 19) C d_X_level_14 (by decide) ?_
      have e2 : lvlN what = 3 := if_pos h2
      rw [e2] at h19
      exact h19
set_option maxRecDepth 100000 in
set_option maxHeartbeats 4000000 in
theorem k_X_put (l : Launch) (b : Nat) (D : va_G) (aC : Nat → ClassId) (S : vs_S) (hfl : l.flags = flags0) (f v : Int32) (d ec : Nat) (hd : (S.2.2.2.2.1 1 4) = nI d) (hd40 : d ≤ 40) (he : (ec = 0 ∧ (0 ≤ f ∧ f < 3)) ∨ (ec = 1 ∧ ¬ (0 ≤ f ∧ f < 3))) : vs_M l b D aC false false y_X_put (.code y_X_put c_X_put 5 (Option.some Jvm.ClassFile.FieldType.int)) { frames := 6, cells := 1, slots := 6, locals := 100 } [.ref 0, .int f, .int v] (vs_mem S) (vs_pc ec (fun _ => 0) (some (.int (S.1 3 (d * 3 + f.toNatClampNeg)))) (vs_mem S) (vs_mem (vs_uI S 3 (upd (S.1 3) (d * 3 + f.toNatClampNeg) v)))) := by
  refine vs_M.of (by decide) (Nat.le_of_ble_eq_true rfl) ?_
  intro p e s m args below meth c C hmn hr hx htg
  generalize hQ : vs_E below args s b D aC false false (vs_pc ec (fun _ => 0) (some (.int (S.1 3 (d * 3 + f.toNatClampNeg)))) (vs_mem S) (vs_mem (vs_uI S 3 (upd (S.1 3) (d * 3 + f.toNatClampNeg) v)))) { frames := 6, cells := 1, slots := 6, locals := 100 } = Q
  refine vs_iload_n C rfl d_X_put_0 ?_
  refine vs_iconst (v := 3) C (by decide) d_X_put_1 ?_
  refine vs_cS C (k_X_isBelow l b D aC S f 3) yk_X_isBelow ml_X_61 st_X_isBelow d_X_put_2 rfl rfl (by exact Nat.le_of_ble_eq_true rfl) (by exact ⟨Nat.le_of_ble_eq_true rfl, Nat.le_of_ble_eq_true rfl⟩) (by exact ⟨Nat.le_of_ble_eq_true rfl, Nat.le_of_ble_eq_true rfl⟩) (fun h => by cases h) ?_
  refine vs_if_ne (tgt := 16) C d_X_put_5 (by decide) (fun h1 => ?_) (fun h1 => ?_)
  · have hok := b01_n h1
    have h0 : ec = 0 := he.elim (fun h => h.1) (fun h => absurd hok h.2)
    obtain ⟨hlt, hff⟩ := nI_rng (n := 3) hok.1 hok.2 (by decide)
    generalize f.toNatClampNeg = q at hlt hff hQ
    subst hff
    refine vs_aload_n C rfl d_X_put_16 ?_
    refine vs_get C fl_X_12 d_X_put_17 rfl rfl ?_
    refine vs_get C fl_X_96 d_X_put_20 rfl rfl ?_
    refine vs_iload_n C rfl d_X_put_23 ?_
    refine vs_cS C (k_D_valuePlace l b D aC S (S.2.2.2.2.1 1 4) (nI q)) yk_D_valuePlace ml_X_103 st_D_valuePlace d_X_put_24 rfl rfl (by exact Nat.le_of_ble_eq_true rfl) (by exact ⟨Nat.le_of_ble_eq_true rfl, Nat.le_of_ble_eq_true rfl⟩) (by exact ⟨Nat.le_of_ble_eq_true rfl, Nat.le_of_ble_eq_true rfl⟩) (fun h => by cases h) ?_
    rw [hd, vpl]
    refine vs_istore_n C d_X_put_27 (by decide) ?_
    refine vs_aload_n C rfl d_X_put_28 ?_
    refine vs_get C fl_X_12 d_X_put_29 rfl rfl ?_
    refine vs_get C fl_X_107 d_X_put_32 rfl rfl ?_
    refine vs_iload_n C rfl d_X_put_35 ?_
    refine vs_ialdN C d_X_put_36 rfl (rfl) ((by omega)) (by decide) ?_
    refine vs_istore C d_X_put_37 (by decide) ?_
    refine vs_aload_n C rfl d_X_put_39 ?_
    refine vs_get C fl_X_12 d_X_put_40 rfl rfl ?_
    refine vs_get C fl_X_107 d_X_put_43 rfl rfl ?_
    refine vs_iload_n C rfl d_X_put_46 ?_
    refine vs_iload_n C rfl d_X_put_47 ?_
    refine vs_iastN C d_X_put_48 rfl (rfl) ((by omega)) (by decide) ?_
    refine vs_iload C rfl d_X_put_49 ?_
    subst hQ
    exact vs_iret C hr d_X_put_51 ⟨Nat.le_of_ble_eq_true rfl, Nat.le_of_ble_eq_true rfl⟩ (fun h => by cases h) (by first | exact (fun _ => rfl) | exact (fun h => by cases h)) (pc_ok h0 rfl rfl)
  · have h1' : ec = 1 := he.elim (fun h => absurd h.2 (b01_0.mp h1)) (fun h => h.1)
    subst hQ
    exact vs_throw0 C hfl hx tx_0 d_X_put_8 d_X_put_11 d_X_put_12 d_X_put_15 rfl (by exact ⟨Nat.le_of_ble_eq_true rfl, Nat.le_of_ble_eq_true rfl⟩) (by exact ⟨Nat.le_of_ble_eq_true rfl, Nat.le_of_ble_eq_true rfl, Nat.le_of_ble_eq_true rfl, Nat.le_of_ble_eq_true rfl⟩) (pc_no (by rw [h1']; decide) rfl)
def rulP (al : Int32) : Nat := if al = 0 then 5 else 4
def rulV (S : vs_S) (d : Nat) (t al : Int32) : Int32 := S.1 (rulP al) d ||| (1 <<< (t &&& 31))
set_option maxRecDepth 100000 in
set_option maxHeartbeats 4000000 in
theorem k_X_rule (l : Launch) (b : Nat) (D : va_G) (aC : Nat → ClassId) (S : vs_S) (hfl : l.flags = flags0) (t al : Int32) (d ec : Nat) (hd : (S.2.2.2.2.1 1 4) = nI d) (hd40 : d ≤ 40) (he : (ec = 0 ∧ (0 ≤ t ∧ t < 16)) ∨ (ec = 1 ∧ ¬ (0 ≤ t ∧ t < 16))) : vs_M l b D aC false false y_X_rule (.code y_X_rule c_X_rule 5 (Option.some Jvm.ClassFile.FieldType.boolean)) { frames := 6, cells := 1, slots := 6, locals := 100 } [.ref 0, .int t, .int al] (vs_mem S) (vs_pc ec (fun _ => 0) (some (.int (b01 (¬ rulV S d t al = S.1 (rulP al) d)))) (vs_mem S) (vs_mem (vs_uI S (rulP al) (upd (S.1 (rulP al)) d (rulV S d t al))))) := by
  refine vs_M.of (by decide) (Nat.le_of_ble_eq_true rfl) ?_
  intro p e s m args below meth c C hmn hr hx htg
  generalize hQ : vs_E below args s b D aC false false (vs_pc ec (fun _ => 0) (some (.int (b01 (¬ rulV S d t al = S.1 (rulP al) d)))) (vs_mem S) (vs_mem (vs_uI S (rulP al) (upd (S.1 (rulP al)) d (rulV S d t al))))) { frames := 6, cells := 1, slots := 6, locals := 100 } = Q
  refine vs_iload_n C rfl d_X_rule_0 ?_
  refine vs_bipush (v := 16) C (by decide) d_X_rule_1 ?_
  refine vs_cS C (k_X_isBelow l b D aC S t 16) yk_X_isBelow ml_X_61 st_X_isBelow d_X_rule_3 rfl rfl (by exact Nat.le_of_ble_eq_true rfl) (by exact ⟨Nat.le_of_ble_eq_true rfl, Nat.le_of_ble_eq_true rfl⟩) (by exact ⟨Nat.le_of_ble_eq_true rfl, Nat.le_of_ble_eq_true rfl⟩) (fun h => by cases h) ?_
  refine vs_if_ne (tgt := 17) C d_X_rule_6 (by decide) (fun h1 => ?_) (fun h1 => ?_)
  · have h0 : ec = 0 := he.elim (fun h => h.1) (fun h => absurd (b01_n h1) h.2)
    refine vs_iload_n C rfl d_X_rule_17 ?_
    refine vs_if_eq (tgt := 31) C d_X_rule_18 (by decide) (fun h2 => ?_) (fun h2 => ?_)
    · have e : rulP al = 5 := if_pos h2
      unfold rulV at hQ
      rw [e] at hQ
      refine vs_aload_n C rfl d_X_rule_31 ?_
      refine vs_get C fl_X_12 d_X_rule_32 rfl rfl ?_
      refine vs_get C fl_X_113 d_X_rule_35 rfl rfl ?_
      refine vs_astore_n C d_X_rule_38 (by decide) ?_
      refine vs_aload_n C rfl d_X_rule_39 ?_
      refine vs_aload_n C rfl d_X_rule_40 ?_
      refine vs_get C fl_X_12 d_X_rule_41 rfl rfl ?_
      refine vs_get C fl_X_96 d_X_rule_44 rfl rfl ?_
      refine vs_ialdN C d_X_rule_47 rfl (hd) ((by omega)) (by decide) ?_
      refine vs_istore C d_X_rule_48 (by decide) ?_
      refine vs_aload_n C rfl d_X_rule_50 ?_
      refine vs_aload_n C rfl d_X_rule_51 ?_
      refine vs_get C fl_X_12 d_X_rule_52 rfl rfl ?_
      refine vs_get C fl_X_96 d_X_rule_55 rfl rfl ?_
      refine vs_iload C rfl d_X_rule_58 ?_
      refine vs_iconst (v := 1) C (by decide) d_X_rule_60 ?_
      refine vs_iload_n C rfl d_X_rule_61 ?_
      refine vs_ishl C d_X_rule_62 ?_
      refine vs_ior C d_X_rule_63 ?_
      refine vs_iastN C d_X_rule_64 rfl (hd) ((by omega)) (by decide) ?_
      refine vs_aload_n C rfl d_X_rule_65 ?_
      refine vs_aload_n C rfl d_X_rule_66 ?_
      refine vs_get C fl_X_12 d_X_rule_67 rfl rfl ?_
      refine vs_get C fl_X_96 d_X_rule_70 rfl rfl ?_
      refine vs_ialdN C d_X_rule_73 rfl (hd) ((by omega)) (by decide) ?_
      refine vs_iload C rfl d_X_rule_74 ?_
      rw [show upd (S.1 5) d (S.1 5 d ||| (1 <<< (t &&& 31))) d = S.1 5 d ||| (1 <<< (t &&& 31)) from by simp [upd]]
      refine vs_icmp_eq (tgt := 83) C d_X_rule_76 (by decide) (fun h3 => ?_) (fun h3 => ?_)
      · refine vs_iconst (v := 0) C (by decide) d_X_rule_83 ?_
        subst hQ
        exact vs_zret C hr (by first | rfl | exact nr01) d_X_rule_84 ⟨Nat.le_of_ble_eq_true rfl, Nat.le_of_ble_eq_true rfl⟩ (fun h => by cases h) (by first | exact (fun _ => rfl) | exact (fun h => by cases h)) (pc_ok h0 (by rw [b01_f (fun h => h h3)]) rfl)
      · refine vs_iconst (v := 1) C (by decide) d_X_rule_79 ?_
        refine vs_goto (tgt := 84) C d_X_rule_80 (by decide) ?_
        subst hQ
        exact vs_zret C hr (by first | rfl | exact nr01) d_X_rule_84 ⟨Nat.le_of_ble_eq_true rfl, Nat.le_of_ble_eq_true rfl⟩ (fun h => by cases h) (by first | exact (fun _ => rfl) | exact (fun h => by cases h)) (pc_ok h0 (by rw [b01_t h3]) rfl)
    · have e : rulP al = 4 := if_neg h2
      unfold rulV at hQ
      rw [e] at hQ
      refine vs_aload_n C rfl d_X_rule_21 ?_
      refine vs_get C fl_X_12 d_X_rule_22 rfl rfl ?_
      refine vs_get C fl_X_110 d_X_rule_25 rfl rfl ?_
      refine vs_goto (tgt := 38) C d_X_rule_28 (by decide) ?_
      refine vs_astore_n C d_X_rule_38 (by decide) ?_
      refine vs_aload_n C rfl d_X_rule_39 ?_
      refine vs_aload_n C rfl d_X_rule_40 ?_
      refine vs_get C fl_X_12 d_X_rule_41 rfl rfl ?_
      refine vs_get C fl_X_96 d_X_rule_44 rfl rfl ?_
      refine vs_ialdN C d_X_rule_47 rfl (hd) ((by omega)) (by decide) ?_
      refine vs_istore C d_X_rule_48 (by decide) ?_
      refine vs_aload_n C rfl d_X_rule_50 ?_
      refine vs_aload_n C rfl d_X_rule_51 ?_
      refine vs_get C fl_X_12 d_X_rule_52 rfl rfl ?_
      refine vs_get C fl_X_96 d_X_rule_55 rfl rfl ?_
      refine vs_iload C rfl d_X_rule_58 ?_
      refine vs_iconst (v := 1) C (by decide) d_X_rule_60 ?_
      refine vs_iload_n C rfl d_X_rule_61 ?_
      refine vs_ishl C d_X_rule_62 ?_
      refine vs_ior C d_X_rule_63 ?_
      refine vs_iastN C d_X_rule_64 rfl (hd) ((by omega)) (by decide) ?_
      refine vs_aload_n C rfl d_X_rule_65 ?_
      refine vs_aload_n C rfl d_X_rule_66 ?_
      refine vs_get C fl_X_12 d_X_rule_67 rfl rfl ?_
      refine vs_get C fl_X_96 d_X_rule_70 rfl rfl ?_
      refine vs_ialdN C d_X_rule_73 rfl (hd) ((by omega)) (by decide) ?_
      refine vs_iload C rfl d_X_rule_74 ?_
      rw [show upd (S.1 4) d (S.1 4 d ||| (1 <<< (t &&& 31))) d = S.1 4 d ||| (1 <<< (t &&& 31)) from by simp [upd]]
      refine vs_icmp_eq (tgt := 83) C d_X_rule_76 (by decide) (fun h3 => ?_) (fun h3 => ?_)
      · refine vs_iconst (v := 0) C (by decide) d_X_rule_83 ?_
        subst hQ
        exact vs_zret C hr (by first | rfl | exact nr01) d_X_rule_84 ⟨Nat.le_of_ble_eq_true rfl, Nat.le_of_ble_eq_true rfl⟩ (fun h => by cases h) (by first | exact (fun _ => rfl) | exact (fun h => by cases h)) (pc_ok h0 (by rw [b01_f (fun h => h h3)]) rfl)
      · refine vs_iconst (v := 1) C (by decide) d_X_rule_79 ?_
        refine vs_goto (tgt := 84) C d_X_rule_80 (by decide) ?_
        subst hQ
        exact vs_zret C hr (by first | rfl | exact nr01) d_X_rule_84 ⟨Nat.le_of_ble_eq_true rfl, Nat.le_of_ble_eq_true rfl⟩ (fun h => by cases h) (by first | exact (fun _ => rfl) | exact (fun h => by cases h)) (pc_ok h0 (by rw [b01_t h3]) rfl)
  · have h1' : ec = 1 := he.elim (fun h => absurd h.2 (b01_0.mp h1)) (fun h => h.1)
    subst hQ
    exact vs_throw0 C hfl hx tx_0 d_X_rule_9 d_X_rule_12 d_X_rule_13 d_X_rule_16 rfl (by exact ⟨Nat.le_of_ble_eq_true rfl, Nat.le_of_ble_eq_true rfl⟩) (by exact ⟨Nat.le_of_ble_eq_true rfl, Nat.le_of_ble_eq_true rfl, Nat.le_of_ble_eq_true rfl, Nat.le_of_ble_eq_true rfl⟩) (pc_no (by rw [h1']; decide) rfl)
set_option maxRecDepth 100000 in
set_option maxHeartbeats 4000000 in
theorem k_X_hit (l : Launch) (b : Nat) (D : va_G) (aC : Nat → ClassId) (S : vs_S) (hfl : l.flags = flags0) (i : Int32) (k ec : Nat) (hk : (S.2.2.2.2.1 16 2) = nI k) (hk8 : k ≤ 8) (he : (ec = 0 ∧ (0 ≤ i ∧ i < nI k)) ∨ (ec = 1 ∧ ¬ (0 ≤ i ∧ i < nI k))) : vs_M l b D aC false false y_X_hit (.code y_X_hit c_X_hit 2 (Option.some Jvm.ClassFile.FieldType.int)) { frames := 6, cells := 1, slots := 6, locals := 100 } [.ref 0, .int i] (vs_mem S) (vs_pc ec (fun _ => 3) (some (.int (S.1 17 i.toNatClampNeg))) (vs_mem S) (vs_mem S)) := by
  refine vs_M.of (by decide) (Nat.le_of_ble_eq_true rfl) ?_
  intro p e s m args below meth c C hmn hr hx htg
  generalize hQ : vs_E below args s b D aC false false (vs_pc ec (fun _ => 3) (some (.int (S.1 17 i.toNatClampNeg))) (vs_mem S) (vs_mem S)) { frames := 6, cells := 1, slots := 6, locals := 100 } = Q
  refine vs_iload_n C rfl d_X_hit_0 ?_
  refine vs_aload_n C rfl d_X_hit_1 ?_
  refine vs_get C fl_X_33 d_X_hit_2 rfl rfl ?_
  refine vs_get C fl_X_203 d_X_hit_5 rfl rfl ?_
  refine vs_cS C (k_X_isBelow l b D aC S i (S.2.2.2.2.1 16 2)) yk_X_isBelow ml_X_61 st_X_isBelow d_X_hit_8 rfl rfl (by exact Nat.le_of_ble_eq_true rfl) (by exact ⟨Nat.le_of_ble_eq_true rfl, Nat.le_of_ble_eq_true rfl⟩) (by exact ⟨Nat.le_of_ble_eq_true rfl, Nat.le_of_ble_eq_true rfl⟩) (fun h => by cases h) ?_
  rw [hk]
  refine vs_if_ne (tgt := 22) C d_X_hit_11 (by decide) (fun h1 => ?_) (fun h1 => ?_)
  · have hok := b01_n h1
    have h0 : ec = 0 := he.elim (fun h => h.1) (fun h => absurd hok h.2)
    obtain ⟨hlt, hii⟩ := nI_rng (n := k) hok.1 hok.2 (by omega)
    refine vs_aload_n C rfl d_X_hit_22 ?_
    refine vs_get C fl_X_33 d_X_hit_23 rfl rfl ?_
    refine vs_get C fl_X_207 d_X_hit_26 rfl rfl ?_
    refine vs_iload_n C rfl d_X_hit_29 ?_
    refine vs_ialdN C d_X_hit_30 rfl (hii) ((by omega)) (by decide) ?_
    subst hQ
    exact vs_iret C hr d_X_hit_31 ⟨Nat.le_of_ble_eq_true rfl, Nat.le_of_ble_eq_true rfl⟩ (fun h => by cases h) (by first | exact (fun _ => rfl) | exact (fun h => by cases h)) (pc_ok h0 rfl rfl)
  · have h1' : ec = 1 := he.elim (fun h => absurd h.2 (b01_0.mp h1)) (fun h => h.1)
    subst hQ
    exact vs_throw0 C hfl hx tx_3 d_X_hit_14 d_X_hit_17 d_X_hit_18 d_X_hit_21 rfl (by exact ⟨Nat.le_of_ble_eq_true rfl, Nat.le_of_ble_eq_true rfl⟩) (by exact ⟨Nat.le_of_ble_eq_true rfl, Nat.le_of_ble_eq_true rfl, Nat.le_of_ble_eq_true rfl, Nat.le_of_ble_eq_true rfl⟩) (pc_no (by rw [h1']; decide) rfl)
set_option maxRecDepth 100000 in
set_option maxHeartbeats 4000000 in
theorem k_X_score (l : Launch) (b : Nat) (D : va_G) (aC : Nat → ClassId) (S : vs_S) (hfl : l.flags = flags0) (i : Int32) (k ec : Nat) (hk : (S.2.2.2.2.1 16 2) = nI k) (hk8 : k ≤ 8) (he : (ec = 0 ∧ (0 ≤ i ∧ i < nI k)) ∨ (ec = 1 ∧ ¬ (0 ≤ i ∧ i < nI k))) (hn : ∀ j, j < k → vf_n64 (FP.f2d (S.2.2.1 18 j))) : vs_M l b D aC false false y_X_score (.code y_X_score c_X_score 2 (Option.some Jvm.ClassFile.FieldType.double)) { frames := 6, cells := 1, slots := 6, locals := 100 } [.ref 0, .int i] (vs_mem S) (vs_pc ec (fun _ => 3) (some (.double (FP.f2d (S.2.2.1 18 i.toNatClampNeg)))) (vs_mem S) (vs_mem S)) := by
  refine vs_M.of (by decide) (Nat.le_of_ble_eq_true rfl) ?_
  intro p e s m args below meth c C hmn hr hx htg
  generalize hQ : vs_E below args s b D aC false false (vs_pc ec (fun _ => 3) (some (.double (FP.f2d (S.2.2.1 18 i.toNatClampNeg)))) (vs_mem S) (vs_mem S)) { frames := 6, cells := 1, slots := 6, locals := 100 } = Q
  refine vs_iload_n C rfl d_X_score_0 ?_
  refine vs_aload_n C rfl d_X_score_1 ?_
  refine vs_get C fl_X_33 d_X_score_2 rfl rfl ?_
  refine vs_get C fl_X_203 d_X_score_5 rfl rfl ?_
  refine vs_cS C (k_X_isBelow l b D aC S i (S.2.2.2.2.1 16 2)) yk_X_isBelow ml_X_61 st_X_isBelow d_X_score_8 rfl rfl (by exact Nat.le_of_ble_eq_true rfl) (by exact ⟨Nat.le_of_ble_eq_true rfl, Nat.le_of_ble_eq_true rfl⟩) (by exact ⟨Nat.le_of_ble_eq_true rfl, Nat.le_of_ble_eq_true rfl⟩) (fun h => by cases h) ?_
  rw [hk]
  refine vs_if_ne (tgt := 22) C d_X_score_11 (by decide) (fun h1 => ?_) (fun h1 => ?_)
  · have hok := b01_n h1
    have h0 : ec = 0 := he.elim (fun h => h.1) (fun h => absurd hok h.2)
    obtain ⟨hlt, hii⟩ := nI_rng (n := k) hok.1 hok.2 (by omega)
    refine vs_aload_n C rfl d_X_score_22 ?_
    refine vs_get C fl_X_33 d_X_score_23 rfl rfl ?_
    refine vs_get C fl_X_209 d_X_score_26 rfl rfl ?_
    refine vs_iload_n C rfl d_X_score_29 ?_
    refine vs_faldN C d_X_score_30 rfl (hii) ((by omega)) (by decide) ?_
    refine vs_f2d C (hn _ hlt) d_X_score_31 ?_
    subst hQ
    exact vs_dret C hr d_X_score_32 ⟨Nat.le_of_ble_eq_true rfl, Nat.le_of_ble_eq_true rfl⟩ (fun h => by cases h) (by first | exact (fun _ => rfl) | exact (fun h => by cases h)) (pc_ok h0 rfl rfl)
  · have h1' : ec = 1 := he.elim (fun h => absurd h.2 (b01_0.mp h1)) (fun h => h.1)
    subst hQ
    exact vs_throw0 C hfl hx tx_3 d_X_score_14 d_X_score_17 d_X_score_18 d_X_score_21 rfl (by exact ⟨Nat.le_of_ble_eq_true rfl, Nat.le_of_ble_eq_true rfl⟩) (by exact ⟨Nat.le_of_ble_eq_true rfl, Nat.le_of_ble_eq_true rfl, Nat.le_of_ble_eq_true rfl, Nat.le_of_ble_eq_true rfl⟩) (pc_no (by rw [h1']; decide) rfl)
def sh1 (i : Int32) : Int64 := (1 : Int64) <<< (i.toInt64 &&& 63)
def remOK (S : vs_S) (i : Int32) : Prop := (0 ≤ i ∧ i < (S.2.2.2.2.1 1 4)) ∧ sr (S.2.2.2.2.2 19 2) i &&& 1 = 0
set_option maxRecDepth 100000 in
set_option maxHeartbeats 4000000 in
theorem k_X_remove (l : Launch) (b : Nat) (D : va_G) (aC : Nat → ClassId) (S : vs_S) (hfl : l.flags = flags0) (i : Int32) (ec : Nat) (he : (ec = 0 ∧ remOK S i) ∨ (ec = 1 ∧ ¬ remOK S i)) : vs_M l b D aC false false y_X_remove (.code y_X_remove c_X_remove 2 (Option.none : Option Jvm.ClassFile.FieldType)) { frames := 6, cells := 1, slots := 6, locals := 100 } [.ref 0, .int i] (vs_mem S) (vs_pc ec (fun _ => 2) none (vs_mem S) (vs_mem (vs_ul (vs_ul S 19 2 ((S.2.2.2.2.2 19 2) ||| sh1 i)) 0 6 ((S.2.2.2.2.2 0 6) &&& (sh1 i ^^^ (-1)))))) := by
  refine vs_M.of (by decide) (Nat.le_of_ble_eq_true rfl) ?_
  intro p e s m args below meth c C hmn hr hx htg
  generalize hQ : vs_E below args s b D aC false false (vs_pc ec (fun _ => 2) none (vs_mem S) (vs_mem (vs_ul (vs_ul S 19 2 ((S.2.2.2.2.2 19 2) ||| sh1 i)) 0 6 ((S.2.2.2.2.2 0 6) &&& (sh1 i ^^^ (-1)))))) { frames := 6, cells := 1, slots := 6, locals := 100 } = Q
  have hth : ∀ lv, ¬ remOK S i → vs_G p l e { frames := 6, cells := 1, slots := 6, locals := 100 } s m args below meth c b D aC 2 Q 0 0 true (vs_mem S) 28 lv [] := by
    intro lv hn
    have h1 : ec = 1 := he.elim (fun h => absurd h.2 hn) (fun h => h.1)
    subst hQ
    exact vs_throw0 C hfl hx tx_2 d_X_remove_28 d_X_remove_31 d_X_remove_32 d_X_remove_35 rfl (by exact ⟨Nat.le_of_ble_eq_true rfl, Nat.le_of_ble_eq_true rfl⟩) (by exact ⟨Nat.le_of_ble_eq_true rfl, Nat.le_of_ble_eq_true rfl, Nat.le_of_ble_eq_true rfl, Nat.le_of_ble_eq_true rfl⟩) (pc_no (by rw [h1]; decide) rfl)
  refine vs_iload_n C rfl d_X_remove_0 ?_
  refine vs_aload_n C rfl d_X_remove_1 ?_
  refine vs_get C fl_X_12 d_X_remove_2 rfl rfl ?_
  refine vs_get C fl_X_96 d_X_remove_5 rfl rfl ?_
  refine vs_cS C (k_X_isBelow l b D aC S i (S.2.2.2.2.1 1 4)) yk_X_isBelow ml_X_61 st_X_isBelow d_X_remove_8 rfl rfl (by exact Nat.le_of_ble_eq_true rfl) (by exact ⟨Nat.le_of_ble_eq_true rfl, Nat.le_of_ble_eq_true rfl⟩) (by exact ⟨Nat.le_of_ble_eq_true rfl, Nat.le_of_ble_eq_true rfl⟩) (fun h => by cases h) ?_
  refine vs_if_eq (tgt := 28) C d_X_remove_11 (by decide) (fun h1 => ?_) (fun h1 => ?_)
  · exact hth _ (fun h => b01_0.mp h1 h.1)
  · refine vs_aload_n C rfl d_X_remove_14 ?_
    refine vs_get C fl_X_40 d_X_remove_15 rfl rfl ?_
    refine vs_get C fl_X_123 d_X_remove_18 rfl rfl ?_
    refine vs_iload_n C rfl d_X_remove_21 ?_
    refine vs_cS C (k_X_holds l b D aC S (S.2.2.2.2.2 19 2) i) yk_X_holds ml_X_126 st_X_holds d_X_remove_22 rfl rfl (by exact Nat.le_of_ble_eq_true rfl) (by exact ⟨Nat.le_of_ble_eq_true rfl, Nat.le_of_ble_eq_true rfl⟩) (by exact ⟨Nat.le_of_ble_eq_true rfl, Nat.le_of_ble_eq_true rfl⟩) (fun h => by cases h) ?_
    refine vs_if_eq (tgt := 36) C d_X_remove_25 (by decide) (fun h2 => ?_) (fun h2 => ?_)
    · have hok : remOK S i := ⟨b01_n h1, Decidable.not_not.mp (b01_0.mp h2)⟩
      have h0 : ec = 0 := he.elim (fun h => h.1) (fun h => absurd hok h.2)
      refine vs_aload_n C rfl d_X_remove_36 ?_
      refine vs_get C fl_X_40 d_X_remove_37 rfl rfl ?_
      refine vs_dup C rfl d_X_remove_40 ?_
      refine vs_get C fl_X_123 d_X_remove_41 rfl rfl ?_
      refine vs_lconst (v := 1) C (by decide) d_X_remove_44 ?_
      refine vs_iload_n C rfl d_X_remove_45 ?_
      refine vs_lshl C d_X_remove_46 ?_
      refine vs_lor C d_X_remove_47 ?_
      refine vs_put C fl_X_123 d_X_remove_48 rfl rfl rfl (Nat.le_of_ble_eq_true rfl) ?_
      refine vs_aload_n C rfl d_X_remove_51 ?_
      refine vs_dup C rfl d_X_remove_52 ?_
      refine vs_get C fl_X_47 d_X_remove_53 rfl rfl ?_
      refine vs_lconst (v := 1) C (by decide) d_X_remove_56 ?_
      refine vs_iload_n C rfl d_X_remove_57 ?_
      refine vs_lshl C d_X_remove_58 ?_
      refine vs_ldc2 C w_236 d_X_remove_59 ?_
      refine vs_lxor C d_X_remove_62 ?_
      refine vs_land C d_X_remove_63 ?_
      refine vs_put C fl_X_47 d_X_remove_64 rfl rfl rfl (Nat.le_of_ble_eq_true rfl) ?_
      subst hQ
      exact vs_vret C hr d_X_remove_67 ⟨Nat.le_of_ble_eq_true rfl, Nat.le_of_ble_eq_true rfl⟩ (fun h => by cases h) (by first | exact (fun _ => rfl) | exact (fun h => by cases h)) (pc_ok h0 rfl rfl)
    · exact hth _ (fun h => (b01_n h2) h.2)

