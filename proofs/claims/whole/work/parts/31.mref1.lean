theorem i32_ll {m a b : Int32} (h : b.toInt = a.toInt + 1) : m ≤ a ↔ m < b := by
  rw [Int32.le_iff_toInt_le, Int32.lt_iff_toInt_lt]
  omega
theorem b01_c {c d : Prop} [Decidable c] [Decidable d] (h : c ↔ d) : b01 c = b01 d := by
  by_cases q : c
  · rw [b01_t q, b01_t (h.mp q)]
  · rw [b01_f q, b01_f (fun z => q (h.mpr z))]
theorem in_b {lo n a b : Int32} (h : b.toInt = a.toInt + 1) : b01 (lo ≤ n ∧ n ≤ a) = b01 (lo ≤ n ∧ n < b) := b01_c (by rw [i32_ll h])
theorem dcv (o : Option Ordering) : (Op.cmpValue o .l = 0 ↔ o = some .eq) ∧ (¬ Op.cmpValue o .l < 0 ↔ (o = some .gt ∨ o = some .eq)) ∧ (¬ 0 < Op.cmpValue o .g ↔ (o = some .lt ∨ o = some .eq)) := by
  rcases o with _ | o
  · decide
  · cases o <;> decide
theorem dc_c1 : FP.Core.val64 4158027847206421152 ≠ .nan ∧ 0 < FP.Core.zval FP.Core.b64 (FP.Core.val64 4158027847206421152) := by decide +kernel
theorem dc_c2 : FP.Core.val64 4652007308841189376 ≠ .nan ∧ 0 < FP.Core.zval FP.Core.b64 (FP.Core.val64 4652007308841189376) := by decide +kernel
theorem dc_0 : FP.Core.val64 FP.dconst0 ≠ .nan ∧ FP.Core.zval FP.Core.b64 (FP.Core.val64 FP.dconst0) = 0 := by decide +kernel
def isWM (w : UInt64) : Bool := decide (¬ dL w FP.dconst0 < 0) && (decide (¬ 0 < dG w 4652007308841189376) && (decide (dL w FP.dconst0 = 0) || decide (¬ dL w 4158027847206421152 < 0)))
theorem isWM_X (w : UInt64) : isWM w = isWX w := by
  rw [Bool.eq_iff_iff]
  unfold isWM isWX dL dG
  simp only [Bool.or_eq_true, Bool.and_eq_true, decide_eq_true_eq, (dcv _).1, (dcv _).2.1, (dcv _).2.2]
  simp only [FP.dcmp_core]
  have c1 := dc_c1
  have c2 := dc_c2
  have c0 := dc_0
  rw [FP.Core.dcmp_ge, FP.Core.dcmp_ge, FP.Core.dcmp_le, FP.Core.dcmp_eq]
  constructor
  · rintro ⟨a, b, c | c⟩
    · exact Or.inl c
    · exact Or.inr ⟨c, b⟩
  · rintro (a | ⟨a, b⟩)
    · exact ⟨⟨a.1, a.2.1, by omega⟩, ⟨a.1, c2.1, by omega⟩, Or.inl a⟩
    · exact ⟨⟨a.1, c0.1, by omega⟩, b, Or.inr a⟩
set_option maxRecDepth 100000 in
set_option maxHeartbeats 4000000 in
theorem k_M_isWeight0 (l : Launch) (b : Nat) (D : va_G) (aC : Nat → ClassId) (S : vs_S) (w : UInt64) : vs_M l b D aC false true y_M_isWeight (.code y_M_isWeight c_M_isWeight 2 (Option.some Jvm.ClassFile.FieldType.boolean)) { frames := 0, cells := 0, slots := 0, locals := 0 } [.double w] (vs_mem S) (vs_ret (some (.int (b01 (isWM w = true)))) (vs_mem S)) := by
  refine vs_M.of (by decide) (Nat.le_of_ble_eq_true rfl) ?_
  intro p e s m args below meth c C hmn hr hx htg
  generalize hQ : vs_E below args s b D aC false true (vs_ret (some (.int (b01 (isWM w = true)))) (vs_mem S)) { frames := 0, cells := 0, slots := 0, locals := 0 } = Q
  refine vs_dload_n C rfl d_M_isWeight_0 ?_
  refine vs_dconst0 C d_M_isWeight_1 ?_
  refine vs_dcmp C d_M_isWeight_2 ?_
  refine vs_if_lt (tgt := 32) C d_M_isWeight_3 (by decide) (fun h1 => ?_) (fun h1 => ?_)
  · refine vs_iconst (v := 0) C (by decide) d_M_isWeight_32 ?_
    subst hQ
    exact vs_zret C hr (by first | rfl | exact nr01) d_M_isWeight_33 ⟨Nat.le_of_ble_eq_true rfl, Nat.le_of_ble_eq_true rfl⟩ (fun h => by cases h) (by first | exact (fun _ => rfl) | exact (fun h => by cases h)) (vs_rti (b01_f (by simp only [isWM, Bool.or_eq_true, Bool.and_eq_true, decide_eq_true_eq]; exact fun h => h.1 h1)).symm)
  · refine vs_dload_n C rfl d_M_isWeight_6 ?_
    refine vs_ldc2d C w_817 d_M_isWeight_7 ?_
    refine vs_dcmp C d_M_isWeight_10 ?_
    refine vs_if_gt (tgt := 32) C d_M_isWeight_11 (by decide) (fun h2 => ?_) (fun h2 => ?_)
    · refine vs_iconst (v := 0) C (by decide) d_M_isWeight_32 ?_
      subst hQ
      exact vs_zret C hr (by first | rfl | exact nr01) d_M_isWeight_33 ⟨Nat.le_of_ble_eq_true rfl, Nat.le_of_ble_eq_true rfl⟩ (fun h => by cases h) (by first | exact (fun _ => rfl) | exact (fun h => by cases h)) (vs_rti (b01_f (by simp only [isWM, Bool.or_eq_true, Bool.and_eq_true, decide_eq_true_eq]; exact fun h => h.2.1 h2)).symm)
    · refine vs_dload_n C rfl d_M_isWeight_14 ?_
      refine vs_dconst0 C d_M_isWeight_15 ?_
      refine vs_dcmp C d_M_isWeight_16 ?_
      refine vs_if_eq (tgt := 28) C d_M_isWeight_17 (by decide) (fun h3 => ?_) (fun h3 => ?_)
      · refine vs_iconst (v := 1) C (by decide) d_M_isWeight_28 ?_
        refine vs_goto (tgt := 33) C d_M_isWeight_29 (by decide) ?_
        subst hQ
        exact vs_zret C hr (by first | rfl | exact nr01) d_M_isWeight_33 ⟨Nat.le_of_ble_eq_true rfl, Nat.le_of_ble_eq_true rfl⟩ (fun h => by cases h) (by first | exact (fun _ => rfl) | exact (fun h => by cases h)) (vs_rti (b01_t (by simp only [isWM, Bool.or_eq_true, Bool.and_eq_true, decide_eq_true_eq]; exact ⟨h1, h2, Or.inl h3⟩)).symm)
      · refine vs_dload_n C rfl d_M_isWeight_20 ?_
        refine vs_ldc2d C w_818 d_M_isWeight_21 ?_
        refine vs_dcmp C d_M_isWeight_24 ?_
        refine vs_if_lt (tgt := 32) C d_M_isWeight_25 (by decide) (fun h4 => ?_) (fun h4 => ?_)
        · refine vs_iconst (v := 0) C (by decide) d_M_isWeight_32 ?_
          subst hQ
          exact vs_zret C hr (by first | rfl | exact nr01) d_M_isWeight_33 ⟨Nat.le_of_ble_eq_true rfl, Nat.le_of_ble_eq_true rfl⟩ (fun h => by cases h) (by first | exact (fun _ => rfl) | exact (fun h => by cases h)) (vs_rti (b01_f (by simp only [isWM, Bool.or_eq_true, Bool.and_eq_true, decide_eq_true_eq]; exact fun h => h.2.2.elim h3 (fun q => q h4))).symm)
        · refine vs_iconst (v := 1) C (by decide) d_M_isWeight_28 ?_
          refine vs_goto (tgt := 33) C d_M_isWeight_29 (by decide) ?_
          subst hQ
          exact vs_zret C hr (by first | rfl | exact nr01) d_M_isWeight_33 ⟨Nat.le_of_ble_eq_true rfl, Nat.le_of_ble_eq_true rfl⟩ (fun h => by cases h) (by first | exact (fun _ => rfl) | exact (fun h => by cases h)) (vs_rti (b01_t (by simp only [isWM, Bool.or_eq_true, Bool.and_eq_true, decide_eq_true_eq]; exact ⟨h1, h2, Or.inr h4⟩)).symm)
theorem k_M_isWeight (l : Launch) (b : Nat) (D : va_G) (aC : Nat → ClassId) (S : vs_S) (w : UInt64) : vs_M l b D aC false true y_M_isWeight (.code y_M_isWeight c_M_isWeight 2 (Option.some Jvm.ClassFile.FieldType.boolean)) { frames := 0, cells := 0, slots := 0, locals := 0 } [.double w] (vs_mem S) (vs_ret (some (.int (b01 (isWX w = true)))) (vs_mem S)) := by
  have := k_M_isWeight0 l b D aC S w
  rw [isWM_X] at this
  exact this
set_option maxRecDepth 100000 in
set_option maxHeartbeats 4000000 in
theorem k_M_isOpen (l : Launch) (b : Nat) (D : va_G) (aC : Nat → ClassId) (S : vs_S) (u f : Nat) (hu : u < 8) (hf : f < 3) : vs_M l b D aC false true y_M_isOpen (.code y_M_isOpen c_M_isOpen 3 (Option.some Jvm.ClassFile.FieldType.boolean)) { frames := 0, cells := 0, slots := 0, locals := 0 } [.ref 35, .int (nI u), .int (nI f)] (vs_mem S) (vs_ret (some (.int (b01 (¬ S.1 41 u < S.1 40 f)))) (vs_mem S)) := by
  refine vs_M.of (by decide) (Nat.le_of_ble_eq_true rfl) ?_
  intro p e s m args below meth c C hmn hr hx htg
  generalize hQ : vs_E below args s b D aC false true (vs_ret (some (.int (b01 (¬ S.1 41 u < S.1 40 f)))) (vs_mem S)) { frames := 0, cells := 0, slots := 0, locals := 0 } = Q
  refine vs_aload_n C rfl d_M_isOpen_0 ?_
  refine vs_get C fl_M_25 d_M_isOpen_1 rfl rfl ?_
  refine vs_iload_n C rfl d_M_isOpen_4 ?_
  refine vs_ialdN C d_M_isOpen_5 rfl (rfl) (hu) (by decide) ?_
  refine vs_aload_n C rfl d_M_isOpen_6 ?_
  refine vs_get C fl_M_22 d_M_isOpen_7 rfl rfl ?_
  refine vs_iload_n C rfl d_M_isOpen_10 ?_
  refine vs_ialdN C d_M_isOpen_11 rfl (rfl) (hf) (by decide) ?_
  refine vs_icmp_lt (tgt := 19) C d_M_isOpen_12 (by decide) (fun h1 => ?_) (fun h1 => ?_)
  · refine vs_iconst (v := 0) C (by decide) d_M_isOpen_19 ?_
    subst hQ
    exact vs_zret C hr (by first | rfl | exact nr01) d_M_isOpen_20 ⟨Nat.le_of_ble_eq_true rfl, Nat.le_of_ble_eq_true rfl⟩ (fun h => by cases h) (by first | exact (fun _ => rfl) | exact (fun h => by cases h)) (vs_rti (b01_f (fun h => h h1)).symm)
  · refine vs_iconst (v := 1) C (by decide) d_M_isOpen_15 ?_
    refine vs_goto (tgt := 20) C d_M_isOpen_16 (by decide) ?_
    subst hQ
    exact vs_zret C hr (by first | rfl | exact nr01) d_M_isOpen_20 ⟨Nat.le_of_ble_eq_true rfl, Nat.le_of_ble_eq_true rfl⟩ (fun h => by cases h) (by first | exact (fun _ => rfl) | exact (fun h => by cases h)) (vs_rti (b01_t h1).symm)
def sw (g : Nat → Int32) (b : Int32) : Nat → Int32 → Int32
  | 0, a => a
  | i + 1, a => if (b >>> (nI i &&& 31)) &&& 1 = 1 then sw g b i a ||| g i else sw g b i a
def tkm (g : Nat → Int32) (t0 : Int32) : Nat → Int32
  | 0 => t0
  | n + 1 => sw g (tkm g t0 n) 16 (tkm g t0 n)
theorem tkm_fix {g : Nat → Int32} {t0 : Int32} {j : Nat} (h : tkm g t0 (j + 1) = tkm g t0 j) : ∀ k, tkm g t0 (j + k) = tkm g t0 j
  | 0 => rfl
  | k + 1 => by
    show sw g (tkm g t0 (j + k)) 16 (tkm g t0 (j + k)) = _
    rw [tkm_fix h k]
    exact h
section MTokNow
variable {p : Program} {l : Launch} {e : Env} {R : Room} {s : State} {m : MethodId} {args : Array Value} {below : List Frame} {meth : Method} {c : Code} {b : Nat} {D : va_G} {aC : Nat → ClassId} {Q : State → Prop} {kc ks : Nat} {ck : Bool}
theorem mtokNow_i (C : vs_X p s m args meth c b D aC "VeilSearchModel" c_M_tokens 6) (S : vs_S) (u b0 : Int32) (K : vs_G p l e R s m args below meth c b D aC 6 Q kc ks ck (vs_mem S) 67 [some (.ref 35), some (.int u), some (.int 1), some (.int (sw (S.1 36) b0 16 b0)), some (.int b0), some (.int (nI 16))] []) : ∀ n i : Nat, i ≤ 16 → 16 - i < n → vs_G p l e R s m args below meth c b D aC 6 Q kc ks ck (vs_mem S) 19 [some (.ref 35), some (.int u), some (.int 1), some (.int (sw (S.1 36) b0 i b0)), some (.int b0), some (.int (nI i))] [] := by
  intro n
  induction n with
  | zero => intro i _ h; omega
  | succ n ih =>
    intro i hi hn
    refine vs_iload C rfl d_M_tokens_19 ?_
    refine vs_bipush (v := 16) C (by decide) d_M_tokens_21 ?_
    refine vs_icmp_ge (tgt := 67) C d_M_tokens_23 (by decide) (fun h1 => ?_) (fun h1 => ?_)
    · have h2 := n_ge (N := 16) (i := i) h1 rfl rfl (by decide) (by omega)
      obtain rfl : i = 16 := by omega
      exact K
    · have hlt := n_lt (N := 16) (i := i) h1 rfl rfl (by decide) (by omega)
      refine vs_iload C rfl d_M_tokens_26 ?_
      refine vs_iload C rfl d_M_tokens_28 ?_
      refine vs_ishr C d_M_tokens_30 ?_
      refine vs_iconst (v := 1) C (by decide) d_M_tokens_31 ?_
      refine vs_iand C d_M_tokens_32 ?_
      refine vs_iconst (v := 1) C (by decide) d_M_tokens_33 ?_
      refine vs_icmp_ne (tgt := 61) C d_M_tokens_34 (by decide) (fun h2 => ?_) (fun h2 => ?_)
      · refine vs_iinc C d_M_tokens_61 rfl (nI_1 i) (by decide) ?_
        refine vs_goto (tgt := 19) C d_M_tokens_64 (by decide) ?_
        have e : sw (S.1 36) b0 (i + 1) b0 = sw (S.1 36) b0 i b0 := if_neg h2
        have := ih (i + 1) (by omega) (by omega)
        rw [e] at this
        exact this
      · refine vs_iload_n C rfl d_M_tokens_37 ?_
        refine vs_iload_n C rfl d_M_tokens_38 ?_
        refine vs_if_eq (tgt := 52) C d_M_tokens_39 (by decide) (fun h3 => ?_) (fun h3 => ?_)
        · exact absurd h3 (by decide)
        · refine vs_aload_n C rfl d_M_tokens_42 ?_
          refine vs_get C fl_M_7 d_M_tokens_43 rfl rfl ?_
          refine vs_iload C rfl d_M_tokens_46 ?_
          refine vs_ialdN C d_M_tokens_48 rfl (rfl) (hlt) (by decide) ?_
          refine vs_goto (tgt := 59) C d_M_tokens_49 (by decide) ?_
          refine vs_ior C d_M_tokens_59 ?_
          refine vs_istore_n C d_M_tokens_60 (by decide) ?_
          refine vs_iinc C d_M_tokens_61 rfl (nI_1 i) (by decide) ?_
          refine vs_goto (tgt := 19) C d_M_tokens_64 (by decide) ?_
          have e : sw (S.1 36) b0 (i + 1) b0 = sw (S.1 36) b0 i b0 ||| S.1 36 i := if_pos h2
          have := ih (i + 1) (by omega) (by omega)
          rw [e] at this
          exact this
theorem mtokNow_o (C : vs_X p s m args meth c b D aC "VeilSearchModel" c_M_tokens 6) (S : vs_S) (u t0 : Int32) (N : Nat) (hN : tkm (S.1 36) t0 (N + 1) = tkm (S.1 36) t0 N) (h0 : ¬ t0 = 0) (K : ∀ b0 o, vs_G p l e R s m args below meth c b D aC 6 Q kc ks ck (vs_mem S) 70 [some (.ref 35), some (.int u), some (.int 1), some (.int (tkm (S.1 36) t0 N)), some (.int b0), o] []) : ∀ n j : Nat, ∀ b0 : Int32, j ≤ N + 1 → N + 1 - j < n → (j = 0 ∧ b0 = 0) ∨ (∃ k, j = k + 1 ∧ b0 = tkm (S.1 36) t0 k) → ∀ o, vs_G p l e R s m args below meth c b D aC 6 Q kc ks ck (vs_mem S) 7 [some (.ref 35), some (.int u), some (.int 1), some (.int (tkm (S.1 36) t0 j)), some (.int b0), o] [] := by
  intro n
  induction n with
  | zero => intro j b0 _ h; omega
  | succ n ih =>
    intro j b0 hj hn hb o
    refine vs_iload_n C rfl d_M_tokens_7 ?_
    refine vs_iload C rfl d_M_tokens_8 ?_
    refine vs_icmp_eq (tgt := 70) C d_M_tokens_10 (by decide) (fun h1 => ?_) (fun h1 => ?_)
    · have e : tkm (S.1 36) t0 N = tkm (S.1 36) t0 j := by
        rcases hb with ⟨rfl, rfl⟩ | ⟨k, rfl, rfl⟩
        · exact absurd h1 h0
        · obtain ⟨q, rfl⟩ : ∃ q, N = k + q := ⟨N - k, by omega⟩
          rw [tkm_fix h1 q]
          exact h1.symm
      have := K b0 o
      rw [e] at this
      exact this
    · have hjN : j ≤ N := by
        rcases Nat.lt_or_ge N j with q | q
        · obtain rfl : j = N + 1 := by omega
          rcases hb with ⟨h, _⟩ | ⟨k, hk, rfl⟩
          · omega
          · obtain rfl : k = N := by omega
            exact absurd hN h1
        · exact q
      refine vs_iload_n C rfl d_M_tokens_13 ?_
      refine vs_istore C d_M_tokens_14 (by decide) ?_
      refine vs_iconst (v := 0) C (by decide) d_M_tokens_16 ?_
      refine vs_istore C d_M_tokens_17 (by decide) ?_
      refine mtokNow_i C S u (tkm (S.1 36) t0 j) ?_ 17 0 (by decide) (by decide)
      refine vs_goto (tgt := 7) C d_M_tokens_67 (by decide) ?_
      exact ih (j + 1) (tkm (S.1 36) t0 j) (by omega) (by omega) (Or.inr ⟨j, rfl, rfl⟩) (some (.int (nI 16)))
end MTokNow
set_option maxRecDepth 100000 in
set_option maxHeartbeats 4000000 in
theorem k_M_tokens_Now (l : Launch) (b : Nat) (D : va_G) (aC : Nat → ClassId) (S : vs_S) (u : Int32) (N : Nat) (hN : tkm (S.1 36) (1 <<< (u &&& 31)) (N + 1) = tkm (S.1 36) (1 <<< (u &&& 31)) N) (h0 : ¬ (1 : Int32) <<< (u &&& 31) = 0) : vs_M l b D aC false true y_M_tokens (.code y_M_tokens c_M_tokens 6 (Option.some Jvm.ClassFile.FieldType.int)) { frames := 0, cells := 0, slots := 0, locals := 0 } [.ref 35, .int u, .int 1] (vs_mem S) (vs_ret (some (.int (tkm (S.1 36) (1 <<< (u &&& 31)) N))) (vs_mem S)) := by
  refine vs_M.of (by decide) (Nat.le_of_ble_eq_true rfl) ?_
  intro p e s m args below meth c C hmn hr hx htg
  generalize hQ : vs_E below args s b D aC false true (vs_ret (some (.int (tkm (S.1 36) (1 <<< (u &&& 31)) N))) (vs_mem S)) { frames := 0, cells := 0, slots := 0, locals := 0 } = Q
  refine vs_iconst (v := 1) C (by decide) d_M_tokens_0 ?_
  refine vs_iload_n C rfl d_M_tokens_1 ?_
  refine vs_ishl C d_M_tokens_2 ?_
  refine vs_istore_n C d_M_tokens_3 (by decide) ?_
  refine vs_iconst (v := 0) C (by decide) d_M_tokens_4 ?_
  refine vs_istore C d_M_tokens_5 (by decide) ?_
  refine mtokNow_o C S u (1 <<< (u &&& 31)) N hN h0 (fun b0 o => ?_) (N + 2) 0 0 (Nat.zero_le _) (by omega) (Or.inl ⟨rfl, rfl⟩) none
  refine vs_iload_n C rfl d_M_tokens_70 ?_
  subst hQ
  exact vs_iret C hr d_M_tokens_71 ⟨Nat.le_of_ble_eq_true rfl, Nat.le_of_ble_eq_true rfl⟩ (fun h => by cases h) (by first | exact (fun _ => rfl) | exact (fun h => by cases h)) (⟨rfl, rfl⟩)
section MTokOld
variable {p : Program} {l : Launch} {e : Env} {R : Room} {s : State} {m : MethodId} {args : Array Value} {below : List Frame} {meth : Method} {c : Code} {b : Nat} {D : va_G} {aC : Nat → ClassId} {Q : State → Prop} {kc ks : Nat} {ck : Bool}
theorem mtokOld_i (C : vs_X p s m args meth c b D aC "VeilSearchModel" c_M_tokens 6) (S : vs_S) (u b0 : Int32) (K : vs_G p l e R s m args below meth c b D aC 6 Q kc ks ck (vs_mem S) 67 [some (.ref 35), some (.int u), some (.int 0), some (.int (sw (S.1 39) b0 16 b0)), some (.int b0), some (.int (nI 16))] []) : ∀ n i : Nat, i ≤ 16 → 16 - i < n → vs_G p l e R s m args below meth c b D aC 6 Q kc ks ck (vs_mem S) 19 [some (.ref 35), some (.int u), some (.int 0), some (.int (sw (S.1 39) b0 i b0)), some (.int b0), some (.int (nI i))] [] := by
  intro n
  induction n with
  | zero => intro i _ h; omega
  | succ n ih =>
    intro i hi hn
    refine vs_iload C rfl d_M_tokens_19 ?_
    refine vs_bipush (v := 16) C (by decide) d_M_tokens_21 ?_
    refine vs_icmp_ge (tgt := 67) C d_M_tokens_23 (by decide) (fun h1 => ?_) (fun h1 => ?_)
    · have h2 := n_ge (N := 16) (i := i) h1 rfl rfl (by decide) (by omega)
      obtain rfl : i = 16 := by omega
      exact K
    · have hlt := n_lt (N := 16) (i := i) h1 rfl rfl (by decide) (by omega)
      refine vs_iload C rfl d_M_tokens_26 ?_
      refine vs_iload C rfl d_M_tokens_28 ?_
      refine vs_ishr C d_M_tokens_30 ?_
      refine vs_iconst (v := 1) C (by decide) d_M_tokens_31 ?_
      refine vs_iand C d_M_tokens_32 ?_
      refine vs_iconst (v := 1) C (by decide) d_M_tokens_33 ?_
      refine vs_icmp_ne (tgt := 61) C d_M_tokens_34 (by decide) (fun h2 => ?_) (fun h2 => ?_)
      · refine vs_iinc C d_M_tokens_61 rfl (nI_1 i) (by decide) ?_
        refine vs_goto (tgt := 19) C d_M_tokens_64 (by decide) ?_
        have e : sw (S.1 39) b0 (i + 1) b0 = sw (S.1 39) b0 i b0 := if_neg h2
        have := ih (i + 1) (by omega) (by omega)
        rw [e] at this
        exact this
      · refine vs_iload_n C rfl d_M_tokens_37 ?_
        refine vs_iload_n C rfl d_M_tokens_38 ?_
        refine vs_if_eq (tgt := 52) C d_M_tokens_39 (by decide) (fun h3 => ?_) (fun h3 => ?_)
        · refine vs_aload_n C rfl d_M_tokens_52 ?_
          refine vs_get C fl_M_19 d_M_tokens_53 rfl rfl ?_
          refine vs_iload C rfl d_M_tokens_56 ?_
          refine vs_ialdN C d_M_tokens_58 rfl (rfl) (hlt) (by decide) ?_
          refine vs_ior C d_M_tokens_59 ?_
          refine vs_istore_n C d_M_tokens_60 (by decide) ?_
          refine vs_iinc C d_M_tokens_61 rfl (nI_1 i) (by decide) ?_
          refine vs_goto (tgt := 19) C d_M_tokens_64 (by decide) ?_
          have e : sw (S.1 39) b0 (i + 1) b0 = sw (S.1 39) b0 i b0 ||| S.1 39 i := if_pos h2
          have := ih (i + 1) (by omega) (by omega)
          rw [e] at this
          exact this
        · exact absurd rfl h3
theorem mtokOld_o (C : vs_X p s m args meth c b D aC "VeilSearchModel" c_M_tokens 6) (S : vs_S) (u t0 : Int32) (N : Nat) (hN : tkm (S.1 39) t0 (N + 1) = tkm (S.1 39) t0 N) (h0 : ¬ t0 = 0) (K : ∀ b0 o, vs_G p l e R s m args below meth c b D aC 6 Q kc ks ck (vs_mem S) 70 [some (.ref 35), some (.int u), some (.int 0), some (.int (tkm (S.1 39) t0 N)), some (.int b0), o] []) : ∀ n j : Nat, ∀ b0 : Int32, j ≤ N + 1 → N + 1 - j < n → (j = 0 ∧ b0 = 0) ∨ (∃ k, j = k + 1 ∧ b0 = tkm (S.1 39) t0 k) → ∀ o, vs_G p l e R s m args below meth c b D aC 6 Q kc ks ck (vs_mem S) 7 [some (.ref 35), some (.int u), some (.int 0), some (.int (tkm (S.1 39) t0 j)), some (.int b0), o] [] := by
  intro n
  induction n with
  | zero => intro j b0 _ h; omega
  | succ n ih =>
    intro j b0 hj hn hb o
    refine vs_iload_n C rfl d_M_tokens_7 ?_
    refine vs_iload C rfl d_M_tokens_8 ?_
    refine vs_icmp_eq (tgt := 70) C d_M_tokens_10 (by decide) (fun h1 => ?_) (fun h1 => ?_)
    · have e : tkm (S.1 39) t0 N = tkm (S.1 39) t0 j := by
        rcases hb with ⟨rfl, rfl⟩ | ⟨k, rfl, rfl⟩
        · exact absurd h1 h0
        · obtain ⟨q, rfl⟩ : ∃ q, N = k + q := ⟨N - k, by omega⟩
          rw [tkm_fix h1 q]
          exact h1.symm
      have := K b0 o
      rw [e] at this
      exact this
    · have hjN : j ≤ N := by
        rcases Nat.lt_or_ge N j with q | q
        · obtain rfl : j = N + 1 := by omega
          rcases hb with ⟨h, _⟩ | ⟨k, hk, rfl⟩
          · omega
          · obtain rfl : k = N := by omega
            exact absurd hN h1
        · exact q
      refine vs_iload_n C rfl d_M_tokens_13 ?_
      refine vs_istore C d_M_tokens_14 (by decide) ?_
      refine vs_iconst (v := 0) C (by decide) d_M_tokens_16 ?_
      refine vs_istore C d_M_tokens_17 (by decide) ?_
      refine mtokOld_i C S u (tkm (S.1 39) t0 j) ?_ 17 0 (by decide) (by decide)
      refine vs_goto (tgt := 7) C d_M_tokens_67 (by decide) ?_
      exact ih (j + 1) (tkm (S.1 39) t0 j) (by omega) (by omega) (Or.inr ⟨j, rfl, rfl⟩) (some (.int (nI 16)))
end MTokOld
set_option maxRecDepth 100000 in
set_option maxHeartbeats 4000000 in
theorem k_M_tokens_Old (l : Launch) (b : Nat) (D : va_G) (aC : Nat → ClassId) (S : vs_S) (u : Int32) (N : Nat) (hN : tkm (S.1 39) (1 <<< (u &&& 31)) (N + 1) = tkm (S.1 39) (1 <<< (u &&& 31)) N) (h0 : ¬ (1 : Int32) <<< (u &&& 31) = 0) : vs_M l b D aC false true y_M_tokens (.code y_M_tokens c_M_tokens 6 (Option.some Jvm.ClassFile.FieldType.int)) { frames := 0, cells := 0, slots := 0, locals := 0 } [.ref 35, .int u, .int 0] (vs_mem S) (vs_ret (some (.int (tkm (S.1 39) (1 <<< (u &&& 31)) N))) (vs_mem S)) := by
  refine vs_M.of (by decide) (Nat.le_of_ble_eq_true rfl) ?_
  intro p e s m args below meth c C hmn hr hx htg
  generalize hQ : vs_E below args s b D aC false true (vs_ret (some (.int (tkm (S.1 39) (1 <<< (u &&& 31)) N))) (vs_mem S)) { frames := 0, cells := 0, slots := 0, locals := 0 } = Q
  refine vs_iconst (v := 1) C (by decide) d_M_tokens_0 ?_
  refine vs_iload_n C rfl d_M_tokens_1 ?_
  refine vs_ishl C d_M_tokens_2 ?_
  refine vs_istore_n C d_M_tokens_3 (by decide) ?_
  refine vs_iconst (v := 0) C (by decide) d_M_tokens_4 ?_
  refine vs_istore C d_M_tokens_5 (by decide) ?_
  refine mtokOld_o C S u (1 <<< (u &&& 31)) N hN h0 (fun b0 o => ?_) (N + 2) 0 0 (Nat.zero_le _) (by omega) (Or.inl ⟨rfl, rfl⟩) none
  refine vs_iload_n C rfl d_M_tokens_70 ?_
  subst hQ
  exact vs_iret C hr d_M_tokens_71 ⟨Nat.le_of_ble_eq_true rfl, Nat.le_of_ble_eq_true rfl⟩ (fun h => by cases h) (by first | exact (fun _ => rfl) | exact (fun h => by cases h)) (⟨rfl, rfl⟩)

