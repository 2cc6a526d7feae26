def thM (S : vs_S) (kd N u : Nat) (i : Int32) : Prop := (0 ≤ i ∧ i < nI kd) ∧ ¬ S.1 48 i.toNatClampNeg < 0 ∧ S.1 50 i.toNatClampNeg = 0 ∧ mr S i.toNatClampNeg (mTok S u N) = true
theorem b01_d {c : Prop} [Decidable c] {d : Prop} (h : c ↔ d) (x : Decidable d) : b01 c = @b01 d x := b01_c h
set_option maxRecDepth 100000 in
set_option maxHeartbeats 4000000 in
theorem k_M_value_1 (l : Launch) (b : Nat) (D : va_G) (aC : Nat → ClassId) (S : vs_S) (u i f : Int32) (hn : ¬ valA u f) : vs_M l b D aC false false y_M_value (.code y_M_value c_M_value 6 (Option.some Jvm.ClassFile.FieldType.int)) { frames := 2, cells := 0, slots := 0, locals := 51 } [.ref 35, .int u, .int i, .int f] (vs_mem S) (vs_ret (some (.int 0)) (vs_mem (mTh S 1))) := by
  refine vs_M.of (by decide) (Nat.le_of_ble_eq_true rfl) ?_
  intro p e s m args below meth c C hmn hr hx htg
  generalize hQ : vs_E below args s b D aC false false (vs_ret (some (.int 0)) (vs_mem (mTh S 1))) { frames := 2, cells := 0, slots := 0, locals := 51 } = Q
  have h19 : vs_G p l e { frames := 2, cells := 0, slots := 0, locals := 51 } s m args below meth c b D aC 6 Q 0 0 true (vs_mem S) 19 [some (.ref 35), some (.int u), some (.int i), some (.int f), none, none] [] := by
    refine vs_aload_n C rfl d_M_value_19 ?_
    refine vs_iconst (v := 1) C (by decide) d_M_value_20 ?_
    refine vs_cV C (k_M_fail l b D aC S 1) yk_M_fail ml_M_102 im_M_fail se_M_fail d_M_value_21 rfl rfl rfl rfl (by exact Nat.le_of_ble_eq_true rfl) (by exact ⟨Nat.le_of_ble_eq_true rfl, Nat.le_of_ble_eq_true rfl⟩) (by exact ⟨Nat.le_of_ble_eq_true rfl, Nat.le_of_ble_eq_true rfl⟩) (fun h => by cases h) ?_
    subst hQ
    exact vs_iret C hr d_M_value_24 ⟨Nat.le_of_ble_eq_true rfl, Nat.le_of_ble_eq_true rfl⟩ (fun h => by cases h) (by first | exact (fun _ => rfl) | exact (fun h => by cases h)) (⟨rfl, rfl⟩)
  refine vs_iload_n C rfl d_M_value_0 ?_
  refine vs_iconst (v := 0) C (by decide) d_M_value_1 ?_
  refine vs_bipush (v := 7) C (by decide) d_M_value_2 ?_
  refine vs_cS C (k_M_in l b D aC S u 0 7) yk_M_in ml_M_98 st_M_in d_M_value_4 rfl rfl (by exact Nat.le_of_ble_eq_true rfl) (by exact ⟨Nat.le_of_ble_eq_true rfl, Nat.le_of_ble_eq_true rfl⟩) (by exact ⟨Nat.le_of_ble_eq_true rfl, Nat.le_of_ble_eq_true rfl⟩) (fun h => by cases h) ?_
  rw [in_b (b := 8) (by decide)]
  refine vs_if_eq (tgt := 19) C d_M_value_7 (by decide) (fun h1 => ?_) (fun h1 => ?_)
  · exact h19
  · refine vs_iload_n C rfl d_M_value_10 ?_
    refine vs_iconst (v := 0) C (by decide) d_M_value_11 ?_
    refine vs_iconst (v := 2) C (by decide) d_M_value_12 ?_
    refine vs_cS C (k_M_in l b D aC S f 0 2) yk_M_in ml_M_98 st_M_in d_M_value_13 rfl rfl (by exact Nat.le_of_ble_eq_true rfl) (by exact ⟨Nat.le_of_ble_eq_true rfl, Nat.le_of_ble_eq_true rfl⟩) (by exact ⟨Nat.le_of_ble_eq_true rfl, Nat.le_of_ble_eq_true rfl⟩) (fun h => by cases h) ?_
    rw [in_b (b := 3) (by decide)]
    refine vs_if_ne (tgt := 25) C d_M_value_16 (by decide) (fun h2 => ?_) (fun h2 => ?_)
    · exact absurd ⟨b01_n h1, b01_n h2⟩ hn
    · exact h19
section MVal
variable {p : Program} {l : Launch} {e : Env} {R : Room} {s : State} {m : MethodId} {args : Array Value} {below : List Frame} {meth : Method} {c : Code} {b : Nat} {D : va_G} {aC : Nat → ClassId} {Q : State → Prop} {kc ks : Nat} {ck : Bool}
theorem mval (C : vs_X p s m args meth c b D aC "VeilSearchModel" c_M_value 6) (S : vs_S) (u f kd N : Nat) (i : Int32) (hu : u < 8) (hf : f < 3) (hN : tokH S u N) (hid : (S.2.2.2.2.1 35 27) = nI kd) (hkd : kd ≤ 40) (hs : ∀ d, d < kd → setl S d) (v : Int32) (hv : (v = 1 ∧ thM S kd N u i) ∨ (v = 0 ∧ ¬ thM S kd N u i)) (K : vs_G p l e { frames := 2, cells := 0, slots := 0, locals := 51 } s m args below meth c b D aC 6 Q 0 0 true (vs_mem S) 81 [some (.ref 35), some (.int (nI u)), some (.int i), some (.int (nI f)), some (.int v), some (.int (b01 (¬ S.1 41 u < S.1 40 f)))] []) : vs_G p l e { frames := 2, cells := 0, slots := 0, locals := 51 } s m args below meth c b D aC 6 Q 0 0 true (vs_mem S) 0 [some (.ref 35), some (.int (nI u)), some (.int i), some (.int (nI f)), none, none] [] := by
  have h71 : vs_G p l e { frames := 2, cells := 0, slots := 0, locals := 51 } s m args below meth c b D aC 6 Q 0 0 true (vs_mem S) 71 [some (.ref 35), some (.int (nI u)), some (.int i), some (.int (nI f)), none, none] [.int v] := by
    refine vs_istore C d_M_value_71 (by decide) ?_
    refine vs_aload_n C rfl d_M_value_73 ?_
    refine vs_iload_n C rfl d_M_value_74 ?_
    refine vs_iload_n C rfl d_M_value_75 ?_
    refine vs_cV C (k_M_isOpen l b D aC S u f hu hf) yk_M_isOpen ml_M_153 im_M_isOpen se_M_isOpen d_M_value_76 rfl rfl rfl rfl (by exact Nat.le_of_ble_eq_true rfl) (by exact ⟨Nat.le_of_ble_eq_true rfl, Nat.le_of_ble_eq_true rfl⟩) (by exact ⟨Nat.le_of_ble_eq_true rfl, Nat.le_of_ble_eq_true rfl⟩) (fun h => by cases h) ?_
    refine vs_istore C d_M_value_79 (by decide) ?_
    exact K
  have h70 : ¬ thM S kd N u i → vs_G p l e { frames := 2, cells := 0, slots := 0, locals := 51 } s m args below meth c b D aC 6 Q 0 0 true (vs_mem S) 70 [some (.ref 35), some (.int (nI u)), some (.int i), some (.int (nI f)), none, none] [] := by
    intro h
    have e : v = 0 := hv.elim (fun q => absurd q.2 h) (fun q => q.1)
    rw [e] at h71
    refine vs_iconst (v := 0) C (by decide) d_M_value_70 ?_
    exact h71
  refine vs_iload_n C rfl d_M_value_0 ?_
  refine vs_iconst (v := 0) C (by decide) d_M_value_1 ?_
  refine vs_bipush (v := 7) C (by decide) d_M_value_2 ?_
  refine vs_cS C (k_M_in l b D aC S (nI u) 0 7) yk_M_in ml_M_98 st_M_in d_M_value_4 rfl rfl (by exact Nat.le_of_ble_eq_true rfl) (by exact ⟨Nat.le_of_ble_eq_true rfl, Nat.le_of_ble_eq_true rfl⟩) (by exact ⟨Nat.le_of_ble_eq_true rfl, Nat.le_of_ble_eq_true rfl⟩) (fun h => by cases h) ?_
  rw [in_b (b := 8) (by decide)]
  refine vs_if_eq (tgt := 19) C d_M_value_7 (by decide) (fun h1 => ?_) (fun h1 => ?_)
  · exact absurd ⟨Int32.not_lt.mp (nI_pos (by omega)), nI_lt hu (by decide)⟩ (b01_0.mp h1)
  · refine vs_iload_n C rfl d_M_value_10 ?_
    refine vs_iconst (v := 0) C (by decide) d_M_value_11 ?_
    refine vs_iconst (v := 2) C (by decide) d_M_value_12 ?_
    refine vs_cS C (k_M_in l b D aC S (nI f) 0 2) yk_M_in ml_M_98 st_M_in d_M_value_13 rfl rfl (by exact Nat.le_of_ble_eq_true rfl) (by exact ⟨Nat.le_of_ble_eq_true rfl, Nat.le_of_ble_eq_true rfl⟩) (by exact ⟨Nat.le_of_ble_eq_true rfl, Nat.le_of_ble_eq_true rfl⟩) (fun h => by cases h) ?_
    rw [in_b (b := 3) (by decide)]
    refine vs_if_ne (tgt := 25) C d_M_value_16 (by decide) (fun h2 => ?_) (fun h2 => ?_)
    · refine vs_iload_n C rfl d_M_value_25 ?_
      refine vs_iconst (v := 0) C (by decide) d_M_value_26 ?_
      refine vs_aload_n C rfl d_M_value_27 ?_
      refine vs_get C fl_M_116 d_M_value_28 rfl rfl ?_
      refine vs_iconst (v := 1) C (by decide) d_M_value_31 ?_
      refine vs_isub C d_M_value_32 ?_
      refine vs_cS C (k_M_in l b D aC S i 0 ((S.2.2.2.2.1 35 27) - 1)) yk_M_in ml_M_98 st_M_in d_M_value_33 rfl rfl (by exact Nat.le_of_ble_eq_true rfl) (by exact ⟨Nat.le_of_ble_eq_true rfl, Nat.le_of_ble_eq_true rfl⟩) (by exact ⟨Nat.le_of_ble_eq_true rfl, Nat.le_of_ble_eq_true rfl⟩) (fun h => by cases h) ?_
      rw [hid, in_p (by omega)]
      refine vs_if_eq (tgt := 70) C d_M_value_36 (by decide) (fun h3 => ?_) (fun h3 => ?_)
      · exact h70 (fun h => b01_0.mp h3 h.1)
      · have hi := b01_n h3
        obtain ⟨hlt, hii⟩ := nI_rng (n := kd) hi.1 hi.2 (by omega)
        refine vs_aload_n C rfl d_M_value_39 ?_
        refine vs_get C fl_M_46 d_M_value_40 rfl rfl ?_
        refine vs_iload_n C rfl d_M_value_43 ?_
        refine vs_ialdN C d_M_value_44 rfl (hii) ((by omega)) (by decide) ?_
        refine vs_if_lt (tgt := 70) C d_M_value_45 (by decide) (fun h4 => ?_) (fun h4 => ?_)
        · exact h70 (fun h => h.2.1 h4)
        · refine vs_aload_n C rfl d_M_value_48 ?_
          refine vs_get C fl_M_53 d_M_value_49 rfl rfl ?_
          refine vs_iload_n C rfl d_M_value_52 ?_
          refine vs_zaldN C d_M_value_53 rfl (hii) ((by omega)) (by decide) ?_
          refine vs_if_ne (tgt := 70) C d_M_value_54 (by decide) (fun h5 => ?_) (fun h5 => ?_)
          · exact h70 (fun h => h5 h.2.2.1)
          · refine vs_aload_n C rfl d_M_value_57 ?_
            refine vs_iload_n C rfl d_M_value_58 ?_
            refine vs_iload_n C rfl d_M_value_59 ?_
            refine vs_st_eq (st2 := [.int (nI i.toNatClampNeg), .int (nI u), .ref 35]) (by rw [← hii] <;> rfl) ?_
            refine vs_cV C (k_M_mayRead l b D aC S u i.toNatClampNeg N kd hu hN hlt hkd hs) yk_M_mayRead ml_M_175 im_M_mayRead se_M_mayRead d_M_value_60 rfl rfl rfl rfl (by exact Nat.le_of_ble_eq_true rfl) (by exact ⟨Nat.le_of_ble_eq_true rfl, Nat.le_of_ble_eq_true rfl⟩) (by exact ⟨Nat.le_of_ble_eq_true rfl, Nat.le_of_ble_eq_true rfl⟩) (fun h => by cases h) ?_
            refine vs_if_eq (tgt := 70) C d_M_value_63 (by decide) (fun h6 => ?_) (fun h6 => ?_)
            · exact h70 (fun h => b01_0.mp h6 h.2.2.2)
            · have e : v = 1 := hv.elim (fun q => q.1) (fun q => absurd ⟨hi, h4, h5, b01_n h6⟩ q.2)
              rw [e] at h71
              refine vs_iconst (v := 1) C (by decide) d_M_value_66 ?_
              refine vs_goto (tgt := 71) C d_M_value_67 (by decide) ?_
              exact h71
    · exact absurd ⟨Int32.not_lt.mp (nI_pos (by omega)), nI_lt hf (by decide)⟩ (b01_0.mp h2)
end MVal
set_option maxRecDepth 100000 in
set_option maxHeartbeats 4000000 in
theorem k_M_value_2 (l : Launch) (b : Nat) (D : va_G) (aC : Nat → ClassId) (S : vs_S) (u f kd N : Nat) (i : Int32) (hu : u < 8) (hf : f < 3) (hN : tokH S u N) (hid : (S.2.2.2.2.1 35 27) = nI kd) (hkd : kd ≤ 40) (hs : ∀ d, d < kd → setl S d) (hn : ¬ thM S kd N u i) : vs_M l b D aC false false y_M_value (.code y_M_value c_M_value 6 (Option.some Jvm.ClassFile.FieldType.int)) { frames := 2, cells := 0, slots := 0, locals := 51 } [.ref 35, .int (nI u), .int i, .int (nI f)] (vs_mem S) (vs_ret (some (.int 0)) (vs_mem (mTh S 2))) := by
  refine vs_M.of (by decide) (Nat.le_of_ble_eq_true rfl) ?_
  intro p e s m args below meth c C hmn hr hx htg
  generalize hQ : vs_E below args s b D aC false false (vs_ret (some (.int 0)) (vs_mem (mTh S 2))) { frames := 2, cells := 0, slots := 0, locals := 51 } = Q
  refine mval C S u f kd N i hu hf hN hid hkd hs 0 (Or.inr ⟨rfl, hn⟩) ?_
  refine vs_iload C rfl d_M_value_81 ?_
  refine vs_if_ne (tgt := 92) C d_M_value_83 (by decide) (fun h1 => ?_) (fun h1 => ?_)
  · exact absurd rfl h1
  · refine vs_aload_n C rfl d_M_value_86 ?_
    refine vs_iconst (v := 2) C (by decide) d_M_value_87 ?_
    refine vs_cV C (k_M_fail l b D aC S 2) yk_M_fail ml_M_102 im_M_fail se_M_fail d_M_value_88 rfl rfl rfl rfl (by exact Nat.le_of_ble_eq_true rfl) (by exact ⟨Nat.le_of_ble_eq_true rfl, Nat.le_of_ble_eq_true rfl⟩) (by exact ⟨Nat.le_of_ble_eq_true rfl, Nat.le_of_ble_eq_true rfl⟩) (fun h => by cases h) ?_
    subst hQ
    exact vs_iret C hr d_M_value_91 ⟨Nat.le_of_ble_eq_true rfl, Nat.le_of_ble_eq_true rfl⟩ (fun h => by cases h) (by first | exact (fun _ => rfl) | exact (fun h => by cases h)) (⟨rfl, rfl⟩)
set_option maxRecDepth 100000 in
set_option maxHeartbeats 4000000 in
theorem k_M_value_3 (l : Launch) (b : Nat) (D : va_G) (aC : Nat → ClassId) (S : vs_S) (u f kd N : Nat) (i : Int32) (hu : u < 8) (hf : f < 3) (hN : tokH S u N) (hid : (S.2.2.2.2.1 35 27) = nI kd) (hkd : kd ≤ 40) (hs : ∀ d, d < kd → setl S d) (hy : thM S kd N u i) (hn : S.1 41 u < S.1 40 f) : vs_M l b D aC false false y_M_value (.code y_M_value c_M_value 6 (Option.some Jvm.ClassFile.FieldType.int)) { frames := 2, cells := 0, slots := 0, locals := 51 } [.ref 35, .int (nI u), .int i, .int (nI f)] (vs_mem S) (vs_ret (some (.int 0)) (vs_mem (mTh S 3))) := by
  refine vs_M.of (by decide) (Nat.le_of_ble_eq_true rfl) ?_
  intro p e s m args below meth c C hmn hr hx htg
  generalize hQ : vs_E below args s b D aC false false (vs_ret (some (.int 0)) (vs_mem (mTh S 3))) { frames := 2, cells := 0, slots := 0, locals := 51 } = Q
  refine mval C S u f kd N i hu hf hN hid hkd hs 1 (Or.inl ⟨rfl, hy⟩) ?_
  refine vs_iload C rfl d_M_value_81 ?_
  refine vs_if_ne (tgt := 92) C d_M_value_83 (by decide) (fun h1 => ?_) (fun h1 => ?_)
  · refine vs_iload C rfl d_M_value_92 ?_
    refine vs_if_ne (tgt := 103) C d_M_value_94 (by decide) (fun h2 => ?_) (fun h2 => ?_)
    · exact absurd hn (b01_n h2)
    · refine vs_aload_n C rfl d_M_value_97 ?_
      refine vs_iconst (v := 3) C (by decide) d_M_value_98 ?_
      refine vs_cV C (k_M_fail l b D aC S 3) yk_M_fail ml_M_102 im_M_fail se_M_fail d_M_value_99 rfl rfl rfl rfl (by exact Nat.le_of_ble_eq_true rfl) (by exact ⟨Nat.le_of_ble_eq_true rfl, Nat.le_of_ble_eq_true rfl⟩) (by exact ⟨Nat.le_of_ble_eq_true rfl, Nat.le_of_ble_eq_true rfl⟩) (fun h => by cases h) ?_
      subst hQ
      exact vs_iret C hr d_M_value_102 ⟨Nat.le_of_ble_eq_true rfl, Nat.le_of_ble_eq_true rfl⟩ (fun h => by cases h) (by first | exact (fun _ => rfl) | exact (fun h => by cases h)) (⟨rfl, rfl⟩)
  · exact absurd h1 (by decide)
set_option maxRecDepth 100000 in
set_option maxHeartbeats 4000000 in
theorem k_M_value_0 (l : Launch) (b : Nat) (D : va_G) (aC : Nat → ClassId) (S : vs_S) (u f kd N : Nat) (i : Nat) (hu : u < 8) (hf : f < 3) (hN : tokH S u N) (hid : (S.2.2.2.2.1 35 27) = nI kd) (hkd : kd ≤ 40) (hs : ∀ d, d < kd → setl S d) (hi : i < 40) (hy : thM S kd N u (nI i)) (hn : ¬ S.1 41 u < S.1 40 f) : vs_M l b D aC false false y_M_value (.code y_M_value c_M_value 6 (Option.some Jvm.ClassFile.FieldType.int)) { frames := 2, cells := 0, slots := 0, locals := 51 } [.ref 35, .int (nI u), .int (nI i), .int (nI f)] (vs_mem S) (vs_ret (some (.int (S.1 42 (3 * i + f)))) (vs_mem (mTh S 0))) := by
  refine vs_M.of (by decide) (Nat.le_of_ble_eq_true rfl) ?_
  intro p e s m args below meth c C hmn hr hx htg
  generalize hQ : vs_E below args s b D aC false false (vs_ret (some (.int (S.1 42 (3 * i + f)))) (vs_mem (mTh S 0))) { frames := 2, cells := 0, slots := 0, locals := 51 } = Q
  refine mval C S u f kd N (nI i) hu hf hN hid hkd hs 1 (Or.inl ⟨rfl, hy⟩) ?_
  refine vs_iload C rfl d_M_value_81 ?_
  refine vs_if_ne (tgt := 92) C d_M_value_83 (by decide) (fun h1 => ?_) (fun h1 => ?_)
  · refine vs_iload C rfl d_M_value_92 ?_
    refine vs_if_ne (tgt := 103) C d_M_value_94 (by decide) (fun h2 => ?_) (fun h2 => ?_)
    · refine vs_aload_n C rfl d_M_value_103 ?_
      refine vs_iconst (v := 0) C (by decide) d_M_value_104 ?_
      refine vs_put C fl_M_94 d_M_value_105 rfl rfl rfl (Nat.le_of_ble_eq_true rfl) ?_
      refine vs_aload_n C rfl d_M_value_108 ?_
      refine vs_get C fl_M_28 d_M_value_109 rfl rfl ?_
      refine vs_iconst (v := 3) C (by decide) d_M_value_112 ?_
      refine vs_iload_n C rfl d_M_value_113 ?_
      refine vs_imul C d_M_value_114 ?_
      refine vs_iload_n C rfl d_M_value_115 ?_
      refine vs_iadd C d_M_value_116 ?_
      refine vs_ialdN C d_M_value_117 rfl (ixm 3 i f) ((by omega)) (by decide) ?_
      subst hQ
      exact vs_iret C hr d_M_value_118 ⟨Nat.le_of_ble_eq_true rfl, Nat.le_of_ble_eq_true rfl⟩ (fun h => by cases h) (by first | exact (fun _ => rfl) | exact (fun h => by cases h)) (⟨rfl, rfl⟩)
    · exact absurd hn (b01_0.mp h2)
  · exact absurd h1 (by decide)
theorem rem_a : ∀ j, j < 8 → nI (10 + j) - nI (10 + j) / 10 * 10 = nI j ∧ nI (20 + j) - nI (20 + j) / 10 * 10 = nI j := by decide +kernel
set_option maxRecDepth 100000 in
set_option maxHeartbeats 4000000 in
theorem k_M_count_A (l : Launch) (b : Nat) (D : va_G) (aC : Nat → ClassId) (S : vs_S) (j N : Nat) (hj : j < 8) (hN : tkm (S.1 36) (1 <<< (nI j &&& 31)) (N + 1) = tkm (S.1 36) (1 <<< (nI j &&& 31)) N) : vs_M l b D aC false false y_M_count (.code y_M_count c_M_count 2 (Option.some Jvm.ClassFile.FieldType.int)) { frames := 1, cells := 0, slots := 0, locals := 25 } [.ref 35, .int (nI (10 + j))] (vs_mem S) (vs_ret (some (.int (tkm (S.1 36) (1 <<< (nI j &&& 31)) N))) (vs_mem (mTh S 0))) := by
  refine vs_M.of (by decide) (Nat.le_of_ble_eq_true rfl) ?_
  intro p e s m args below meth c C hmn hr hx htg
  generalize hQ : vs_E below args s b D aC false false (vs_ret (some (.int (tkm (S.1 36) (1 <<< (nI j &&& 31)) N))) (vs_mem (mTh S 0))) { frames := 1, cells := 0, slots := 0, locals := 25 } = Q
  refine vs_iload_n C rfl d_M_count_0 ?_
  refine vs_bipush (v := 10) C (by decide) d_M_count_1 ?_
  refine vs_bipush (v := 17) C (by decide) d_M_count_3 ?_
  refine vs_cS C (k_M_in l b D aC S (nI (10 + j)) 10 17) yk_M_in ml_M_98 st_M_in d_M_count_5 rfl rfl (by exact Nat.le_of_ble_eq_true rfl) (by exact ⟨Nat.le_of_ble_eq_true rfl, Nat.le_of_ble_eq_true rfl⟩) (by exact ⟨Nat.le_of_ble_eq_true rfl, Nat.le_of_ble_eq_true rfl⟩) (fun h => by cases h) ?_
  refine vs_if_ne (tgt := 22) C d_M_count_8 (by decide) (fun h1 => ?_) (fun h1 => ?_)
  · refine vs_aload_n C rfl d_M_count_22 ?_
    refine vs_iconst (v := 0) C (by decide) d_M_count_23 ?_
    refine vs_put C fl_M_94 d_M_count_24 rfl rfl rfl (Nat.le_of_ble_eq_true rfl) ?_
    refine vs_aload_n C rfl d_M_count_27 ?_
    refine vs_iload_n C rfl d_M_count_28 ?_
    refine vs_bipush (v := 10) C (by decide) d_M_count_29 ?_
    refine vs_irem C ((by decide)) d_M_count_31 ?_
    refine vs_iload_n C rfl d_M_count_32 ?_
    refine vs_bipush (v := 20) C (by decide) d_M_count_33 ?_
    rw [(rem_a j hj).1]
    refine vs_icmp_ge (tgt := 42) C d_M_count_35 (by decide) (fun h2 => ?_) (fun h2 => ?_)
    · exact absurd (n_ge (N := 20) (i := 10 + j) h2 rfl rfl (by decide) (by omega)) (by omega)
    · refine vs_iconst (v := 1) C (by decide) d_M_count_38 ?_
      refine vs_goto (tgt := 43) C d_M_count_39 (by decide) ?_
      refine vs_mem_eq (mem2 := vs_mem (mTh S 0)) rfl ?_
      refine vs_cV C (k_M_tokens_Now l b D aC (mTh S 0) (nI j) N hN (shl1_ne j hj)) yk_M_tokens ml_M_149 im_M_tokens se_M_tokens d_M_count_43 rfl rfl rfl rfl (by exact Nat.le_of_ble_eq_true rfl) (by exact ⟨Nat.le_of_ble_eq_true rfl, Nat.le_of_ble_eq_true rfl⟩) (by exact ⟨Nat.le_of_ble_eq_true rfl, Nat.le_of_ble_eq_true rfl⟩) (fun h => by cases h) ?_
      subst hQ
      exact vs_iret C hr d_M_count_46 ⟨Nat.le_of_ble_eq_true rfl, Nat.le_of_ble_eq_true rfl⟩ (fun h => by cases h) (by first | exact (fun _ => rfl) | exact (fun h => by cases h)) (⟨rfl, rfl⟩)
  · exact absurd ⟨(nI_leI (by decide) (by omega)).mpr (show 10 ≤ 10 + j by omega), (nI_leI (by omega) (by decide)).mpr (show 10 + j ≤ 17 by omega)⟩ (b01_0.mp h1)
set_option maxRecDepth 100000 in
set_option maxHeartbeats 4000000 in
theorem k_M_count_B (l : Launch) (b : Nat) (D : va_G) (aC : Nat → ClassId) (S : vs_S) (j N : Nat) (hj : j < 8) (hN : tokH S j N) : vs_M l b D aC false false y_M_count (.code y_M_count c_M_count 2 (Option.some Jvm.ClassFile.FieldType.int)) { frames := 1, cells := 0, slots := 0, locals := 25 } [.ref 35, .int (nI (20 + j))] (vs_mem S) (vs_ret (some (.int (mTok S j N))) (vs_mem (mTh S 0))) := by
  refine vs_M.of (by decide) (Nat.le_of_ble_eq_true rfl) ?_
  intro p e s m args below meth c C hmn hr hx htg
  generalize hQ : vs_E below args s b D aC false false (vs_ret (some (.int (mTok S j N))) (vs_mem (mTh S 0))) { frames := 1, cells := 0, slots := 0, locals := 25 } = Q
  refine vs_iload_n C rfl d_M_count_0 ?_
  refine vs_bipush (v := 10) C (by decide) d_M_count_1 ?_
  refine vs_bipush (v := 17) C (by decide) d_M_count_3 ?_
  refine vs_cS C (k_M_in l b D aC S (nI (20 + j)) 10 17) yk_M_in ml_M_98 st_M_in d_M_count_5 rfl rfl (by exact Nat.le_of_ble_eq_true rfl) (by exact ⟨Nat.le_of_ble_eq_true rfl, Nat.le_of_ble_eq_true rfl⟩) (by exact ⟨Nat.le_of_ble_eq_true rfl, Nat.le_of_ble_eq_true rfl⟩) (fun h => by cases h) ?_
  have h22 : vs_G p l e { frames := 1, cells := 0, slots := 0, locals := 25 } s m args below meth c b D aC 2 Q 0 0 true (vs_mem S) 22 [some (.ref 35), some (.int (nI (20 + j)))] [] := by
    refine vs_aload_n C rfl d_M_count_22 ?_
    refine vs_iconst (v := 0) C (by decide) d_M_count_23 ?_
    refine vs_put C fl_M_94 d_M_count_24 rfl rfl rfl (Nat.le_of_ble_eq_true rfl) ?_
    refine vs_aload_n C rfl d_M_count_27 ?_
    refine vs_iload_n C rfl d_M_count_28 ?_
    refine vs_bipush (v := 10) C (by decide) d_M_count_29 ?_
    refine vs_irem C ((by decide)) d_M_count_31 ?_
    refine vs_iload_n C rfl d_M_count_32 ?_
    refine vs_bipush (v := 20) C (by decide) d_M_count_33 ?_
    rw [(rem_a j hj).2]
    refine vs_icmp_ge (tgt := 42) C d_M_count_35 (by decide) (fun h2 => ?_) (fun h2 => ?_)
    · refine vs_iconst (v := 0) C (by decide) d_M_count_42 ?_
      refine vs_mem_eq (mem2 := vs_mem (mTh S 0)) rfl ?_
      refine vs_cV C (k_M_tokens_Old l b D aC (mTh S 0) (nI j) N hN (shl1_ne j hj)) yk_M_tokens ml_M_149 im_M_tokens se_M_tokens d_M_count_43 rfl rfl rfl rfl (by exact Nat.le_of_ble_eq_true rfl) (by exact ⟨Nat.le_of_ble_eq_true rfl, Nat.le_of_ble_eq_true rfl⟩) (by exact ⟨Nat.le_of_ble_eq_true rfl, Nat.le_of_ble_eq_true rfl⟩) (fun h => by cases h) ?_
      subst hQ
      exact vs_iret C hr d_M_count_46 ⟨Nat.le_of_ble_eq_true rfl, Nat.le_of_ble_eq_true rfl⟩ (fun h => by cases h) (by first | exact (fun _ => rfl) | exact (fun h => by cases h)) (⟨rfl, rfl⟩)
    · exact absurd (n_lt (N := 20) (i := 20 + j) h2 rfl rfl (by decide) (by omega)) (by omega)
  refine vs_if_ne (tgt := 22) C d_M_count_8 (by decide) (fun h1 => ?_) (fun h1 => ?_)
  · exact h22
  · refine vs_iload_n C rfl d_M_count_11 ?_
    refine vs_bipush (v := 20) C (by decide) d_M_count_12 ?_
    refine vs_bipush (v := 27) C (by decide) d_M_count_14 ?_
    refine vs_cS C (k_M_in l b D aC S (nI (20 + j)) 20 27) yk_M_in ml_M_98 st_M_in d_M_count_16 rfl rfl (by exact Nat.le_of_ble_eq_true rfl) (by exact ⟨Nat.le_of_ble_eq_true rfl, Nat.le_of_ble_eq_true rfl⟩) (by exact ⟨Nat.le_of_ble_eq_true rfl, Nat.le_of_ble_eq_true rfl⟩) (fun h => by cases h) ?_
    refine vs_if_eq (tgt := 47) C d_M_count_19 (by decide) (fun h2 => ?_) (fun h2 => ?_)
    · exact absurd ⟨(nI_leI (by decide) (by omega)).mpr (show 20 ≤ 20 + j by omega), (nI_leI (by omega) (by decide)).mpr (show 20 + j ≤ 27 by omega)⟩ (b01_0.mp h2)
    · exact h22
section MCnt
variable {p : Program} {l : Launch} {e : Env} {R : Room} {s : State} {m : MethodId} {args : Array Value} {below : List Frame} {meth : Method} {c : Code} {b : Nat} {D : va_G} {aC : Nat → ClassId} {Q : State → Prop} {kc ks : Nat} {ck : Bool}
theorem mcnt (C : vs_X p s m args meth c b D aC "VeilSearchModel" c_M_count 2) (S : vs_S) (w : Int32) (hA : ¬ (10 ≤ w ∧ w ≤ 17)) (hB : ¬ (20 ≤ w ∧ w ≤ 27)) (K : vs_G p l e { frames := 1, cells := 0, slots := 0, locals := 25 } s m args below meth c b D aC 2 Q 0 0 true (vs_mem S) 54 [some (.ref 35), some (.int w)] [.int (b01 (0 ≤ w ∧ w ≤ 8))]) : vs_G p l e { frames := 1, cells := 0, slots := 0, locals := 25 } s m args below meth c b D aC 2 Q 0 0 true (vs_mem S) 0 [some (.ref 35), some (.int w)] [] := by
  refine vs_iload_n C rfl d_M_count_0 ?_
  refine vs_bipush (v := 10) C (by decide) d_M_count_1 ?_
  refine vs_bipush (v := 17) C (by decide) d_M_count_3 ?_
  refine vs_cS C (k_M_in l b D aC S w 10 17) yk_M_in ml_M_98 st_M_in d_M_count_5 rfl rfl (by exact Nat.le_of_ble_eq_true rfl) (by exact ⟨Nat.le_of_ble_eq_true rfl, Nat.le_of_ble_eq_true rfl⟩) (by exact ⟨Nat.le_of_ble_eq_true rfl, Nat.le_of_ble_eq_true rfl⟩) (fun h => by cases h) ?_
  refine vs_if_ne (tgt := 22) C d_M_count_8 (by decide) (fun h1 => ?_) (fun h1 => ?_)
  · exact absurd (b01_n h1) hA
  · refine vs_iload_n C rfl d_M_count_11 ?_
    refine vs_bipush (v := 20) C (by decide) d_M_count_12 ?_
    refine vs_bipush (v := 27) C (by decide) d_M_count_14 ?_
    refine vs_cS C (k_M_in l b D aC S w 20 27) yk_M_in ml_M_98 st_M_in d_M_count_16 rfl rfl (by exact Nat.le_of_ble_eq_true rfl) (by exact ⟨Nat.le_of_ble_eq_true rfl, Nat.le_of_ble_eq_true rfl⟩) (by exact ⟨Nat.le_of_ble_eq_true rfl, Nat.le_of_ble_eq_true rfl⟩) (fun h => by cases h) ?_
    refine vs_if_eq (tgt := 47) C d_M_count_19 (by decide) (fun h2 => ?_) (fun h2 => ?_)
    · refine vs_iload_n C rfl d_M_count_47 ?_
      refine vs_iconst (v := 0) C (by decide) d_M_count_48 ?_
      refine vs_bipush (v := 8) C (by decide) d_M_count_49 ?_
      refine vs_cS C (k_M_in l b D aC S w 0 8) yk_M_in ml_M_98 st_M_in d_M_count_51 rfl rfl (by exact Nat.le_of_ble_eq_true rfl) (by exact ⟨Nat.le_of_ble_eq_true rfl, Nat.le_of_ble_eq_true rfl⟩) (by exact ⟨Nat.le_of_ble_eq_true rfl, Nat.le_of_ble_eq_true rfl⟩) (fun h => by cases h) ?_
      exact K
    · exact absurd (b01_n h2) hB
end MCnt
set_option maxRecDepth 100000 in
set_option maxHeartbeats 4000000 in
theorem k_M_count_D (l : Launch) (b : Nat) (D : va_G) (aC : Nat → ClassId) (S : vs_S) (w : Int32) (hA : ¬ (10 ≤ w ∧ w ≤ 17)) (hB : ¬ (20 ≤ w ∧ w ≤ 27)) (hC : ¬ (0 ≤ w ∧ w ≤ 8)) : vs_M l b D aC false false y_M_count (.code y_M_count c_M_count 2 (Option.some Jvm.ClassFile.FieldType.int)) { frames := 1, cells := 0, slots := 0, locals := 25 } [.ref 35, .int w] (vs_mem S) (vs_ret (some (.int 0)) (vs_mem (mTh S 1))) := by
  refine vs_M.of (by decide) (Nat.le_of_ble_eq_true rfl) ?_
  intro p e s m args below meth c C hmn hr hx htg
  generalize hQ : vs_E below args s b D aC false false (vs_ret (some (.int 0)) (vs_mem (mTh S 1))) { frames := 1, cells := 0, slots := 0, locals := 25 } = Q
  refine mcnt C S w hA hB ?_
  refine vs_if_ne (tgt := 63) C d_M_count_54 (by decide) (fun h1 => ?_) (fun h1 => ?_)
  · exact absurd (b01_n h1) hC
  · refine vs_aload_n C rfl d_M_count_57 ?_
    refine vs_iconst (v := 1) C (by decide) d_M_count_58 ?_
    refine vs_cV C (k_M_fail l b D aC S 1) yk_M_fail ml_M_102 im_M_fail se_M_fail d_M_count_59 rfl rfl rfl rfl (by exact Nat.le_of_ble_eq_true rfl) (by exact ⟨Nat.le_of_ble_eq_true rfl, Nat.le_of_ble_eq_true rfl⟩) (by exact ⟨Nat.le_of_ble_eq_true rfl, Nat.le_of_ble_eq_true rfl⟩) (fun h => by cases h) ?_
    subst hQ
    exact vs_iret C hr d_M_count_62 ⟨Nat.le_of_ble_eq_true rfl, Nat.le_of_ble_eq_true rfl⟩ (fun h => by cases h) (by first | exact (fun _ => rfl) | exact (fun h => by cases h)) (⟨rfl, rfl⟩)
def cnM (S : vs_S) (kd j : Nat) : Int32 := match j with
  | 0 => (S.2.2.2.2.1 35 27)
  | 1 => nI (cn (isB S) kd)
  | 2 => (S.2.2.2.2.1 35 28)
  | 3 => (S.2.2.2.2.1 35 29)
  | 4 => (S.2.2.2.2.1 35 33)
  | 5 => (S.2.2.2.2.1 35 34)
  | 6 => (S.2.2.2.2.1 35 36)
  | 7 => (S.2.2.2.2.1 35 37)
  | _ => (S.2.2.2.2.1 35 35)
set_option maxRecDepth 100000 in
set_option maxHeartbeats 4000000 in
theorem k_M_count_C (l : Launch) (b : Nat) (D : va_G) (aC : Nat → ClassId) (S : vs_S) (j kd : Nat) (hj : j < 9) (hkd : (S.2.2.2.2.1 35 27) = nI kd) (hkd40 : kd ≤ 40) : vs_M l b D aC false false y_M_count (.code y_M_count c_M_count 2 (Option.some Jvm.ClassFile.FieldType.int)) { frames := 1, cells := 0, slots := 0, locals := 25 } [.ref 35, .int (nI j)] (vs_mem S) (vs_ret (some (.int (cnM S kd j))) (vs_mem (mTh S 0))) := by
  refine vs_M.of (by decide) (Nat.le_of_ble_eq_true rfl) ?_
  intro p e s m args below meth c C hmn hr hx htg
  generalize hQ : vs_E below args s b D aC false false (vs_ret (some (.int (cnM S kd j))) (vs_mem (mTh S 0))) { frames := 1, cells := 0, slots := 0, locals := 25 } = Q
  refine mcnt C S (nI j) (fun h => absurd ((nI_leI (by decide) (by omega)).mp (show nI 10 ≤ nI j from h.1)) (by omega)) (fun h => absurd ((nI_leI (by decide) (by omega)).mp (show nI 20 ≤ nI j from h.1)) (by omega)) ?_
  refine vs_if_ne (tgt := 63) C d_M_count_54 (by decide) (fun h1 => ?_) (fun h1 => ?_)
  · refine vs_aload_n C rfl d_M_count_63 ?_
    refine vs_iconst (v := 0) C (by decide) d_M_count_64 ?_
    refine vs_put C fl_M_94 d_M_count_65 rfl rfl rfl (Nat.le_of_ble_eq_true rfl) ?_
    refine vs_iload_n C rfl d_M_count_68 ?_
    refine vs_mem_eq (mem2 := vs_mem (mTh S 0)) rfl ?_
    clear h1
    have hj' : j = 0 ∨ j = 1 ∨ j = 2 ∨ j = 3 ∨ j = 4 ∨ j = 5 ∨ j = 6 ∨ j = 7 ∨ j = 8 := by omega
    rcases hj' with rfl | rfl | rfl | rfl | rfl | rfl | rfl | rfl | rfl
    · refine vs_tableIn (tgt := 116) C d_M_count_69 (by decide) (by decide) rfl (by decide) ?_
      refine vs_aload_n C rfl d_M_count_116 ?_
      refine vs_get C fl_M_116 d_M_count_117 rfl rfl ?_
      subst hQ
      exact vs_iret C hr d_M_count_120 ⟨Nat.le_of_ble_eq_true rfl, Nat.le_of_ble_eq_true rfl⟩ (fun h => by cases h) (by first | exact (fun _ => rfl) | exact (fun h => by cases h)) (⟨rfl, rfl⟩)
    · refine vs_tableIn (tgt := 121) C d_M_count_69 (by decide) (by decide) rfl (by decide) ?_
      refine vs_aload_n C rfl d_M_count_121 ?_
      refine vs_iconst (v := (-1)) C (by decide) d_M_count_122 ?_
      refine vs_cV C (k_M_sizeOf l b D aC (mTh S 0) (-1) kd hkd hkd40) yk_M_sizeOf ml_M_122 im_M_sizeOf se_M_sizeOf d_M_count_123 rfl rfl rfl rfl (by exact Nat.le_of_ble_eq_true rfl) (by exact ⟨Nat.le_of_ble_eq_true rfl, Nat.le_of_ble_eq_true rfl⟩) (by exact ⟨Nat.le_of_ble_eq_true rfl, Nat.le_of_ble_eq_true rfl⟩) (fun h => by cases h) ?_
      subst hQ
      exact vs_iret C hr d_M_count_126 ⟨Nat.le_of_ble_eq_true rfl, Nat.le_of_ble_eq_true rfl⟩ (fun h => by cases h) (by first | exact (fun _ => rfl) | exact (fun h => by cases h)) (⟨rfl, rfl⟩)
    · refine vs_tableIn (tgt := 127) C d_M_count_69 (by decide) (by decide) rfl (by decide) ?_
      refine vs_aload_n C rfl d_M_count_127 ?_
      refine vs_get C fl_M_119 d_M_count_128 rfl rfl ?_
      subst hQ
      exact vs_iret C hr d_M_count_131 ⟨Nat.le_of_ble_eq_true rfl, Nat.le_of_ble_eq_true rfl⟩ (fun h => by cases h) (by first | exact (fun _ => rfl) | exact (fun h => by cases h)) (⟨rfl, rfl⟩)
    · refine vs_tableIn (tgt := 132) C d_M_count_69 (by decide) (by decide) rfl (by decide) ?_
      refine vs_aload_n C rfl d_M_count_132 ?_
      refine vs_get C fl_M_128 d_M_count_133 rfl rfl ?_
      subst hQ
      exact vs_iret C hr d_M_count_136 ⟨Nat.le_of_ble_eq_true rfl, Nat.le_of_ble_eq_true rfl⟩ (fun h => by cases h) (by first | exact (fun _ => rfl) | exact (fun h => by cases h)) (⟨rfl, rfl⟩)
    · refine vs_tableIn (tgt := 137) C d_M_count_69 (by decide) (by decide) rfl (by decide) ?_
      refine vs_aload_n C rfl d_M_count_137 ?_
      refine vs_get C fl_M_169 d_M_count_138 rfl rfl ?_
      subst hQ
      exact vs_iret C hr d_M_count_141 ⟨Nat.le_of_ble_eq_true rfl, Nat.le_of_ble_eq_true rfl⟩ (fun h => by cases h) (by first | exact (fun _ => rfl) | exact (fun h => by cases h)) (⟨rfl, rfl⟩)
    · refine vs_tableIn (tgt := 142) C d_M_count_69 (by decide) (by decide) rfl (by decide) ?_
      refine vs_aload_n C rfl d_M_count_142 ?_
      refine vs_get C fl_M_178 d_M_count_143 rfl rfl ?_
      subst hQ
      exact vs_iret C hr d_M_count_146 ⟨Nat.le_of_ble_eq_true rfl, Nat.le_of_ble_eq_true rfl⟩ (fun h => by cases h) (by first | exact (fun _ => rfl) | exact (fun h => by cases h)) (⟨rfl, rfl⟩)
    · refine vs_tableIn (tgt := 147) C d_M_count_69 (by decide) (by decide) rfl (by decide) ?_
      refine vs_aload_n C rfl d_M_count_147 ?_
      refine vs_get C fl_M_166 d_M_count_148 rfl rfl ?_
      subst hQ
      exact vs_iret C hr d_M_count_151 ⟨Nat.le_of_ble_eq_true rfl, Nat.le_of_ble_eq_true rfl⟩ (fun h => by cases h) (by first | exact (fun _ => rfl) | exact (fun h => by cases h)) (⟨rfl, rfl⟩)
    · refine vs_tableIn (tgt := 152) C d_M_count_69 (by decide) (by decide) rfl (by decide) ?_
      refine vs_aload_n C rfl d_M_count_152 ?_
      refine vs_get C fl_M_163 d_M_count_153 rfl rfl ?_
      subst hQ
      exact vs_iret C hr d_M_count_156 ⟨Nat.le_of_ble_eq_true rfl, Nat.le_of_ble_eq_true rfl⟩ (fun h => by cases h) (by first | exact (fun _ => rfl) | exact (fun h => by cases h)) (⟨rfl, rfl⟩)
    · refine vs_tableOut (tgt := 157) C d_M_count_69 (Or.inr (by decide)) (by decide) ?_
      refine vs_aload_n C rfl d_M_count_157 ?_
      refine vs_get C fl_M_131 d_M_count_158 rfl rfl ?_
      subst hQ
      exact vs_iret C hr d_M_count_161 ⟨Nat.le_of_ble_eq_true rfl, Nat.le_of_ble_eq_true rfl⟩ (fun h => by cases h) (by first | exact (fun _ => rfl) | exact (fun h => by cases h)) (⟨rfl, rfl⟩)
  · exact absurd ⟨Int32.not_lt.mp (nI_pos (by omega)), (nI_leI (by omega) (by decide)).mpr (show j ≤ 8 by omega)⟩ (b01_0.mp h1)

