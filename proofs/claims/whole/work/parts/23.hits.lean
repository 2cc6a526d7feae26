set_option maxRecDepth 100000 in
set_option maxHeartbeats 4000000 in
theorem k_H_restart (l : Launch) (b : Nat) (D : va_G) (aC : Nat → ClassId) (S : vs_S) (k : Int32) : vs_M l b D aC false false y_H_restart (.code y_H_restart c_H_restart 2 (Option.none : Option Jvm.ClassFile.FieldType)) { frames := 0, cells := 0, slots := 0, locals := 0 } [.ref 16, .int k] (vs_mem S) (vs_ret none (vs_mem (vs_ui (vs_ui S 16 3 k) 16 2 0))) := by
  refine vs_M.of (by decide) (Nat.le_of_ble_eq_true rfl) ?_
  intro p e s m args below meth c C hmn hr hx htg
  generalize hQ : vs_E below args s b D aC false false (vs_ret none (vs_mem (vs_ui (vs_ui S 16 3 k) 16 2 0))) { frames := 0, cells := 0, slots := 0, locals := 0 } = Q
  refine vs_aload_n C rfl d_H_restart_0 ?_
  refine vs_iload_n C rfl d_H_restart_1 ?_
  refine vs_put C fl_H_23 d_H_restart_2 rfl rfl rfl (Nat.le_of_ble_eq_true rfl) ?_
  refine vs_aload_n C rfl d_H_restart_5 ?_
  refine vs_iconst (v := 0) C (by decide) d_H_restart_6 ?_
  refine vs_put C fl_H_19 d_H_restart_7 rfl rfl rfl (Nat.le_of_ble_eq_true rfl) ?_
  subst hQ
  exact vs_vret C hr d_H_restart_10 ⟨Nat.le_of_ble_eq_true rfl, Nat.le_of_ble_eq_true rfl⟩ (fun h => by cases h) (by first | exact (fun _ => rfl) | exact (fun h => by cases h)) (⟨rfl, rfl⟩)
def lastS (S : vs_S) (k : Nat) : UInt32 := if k = 0 then FP.fconst0 else S.2.2.1 18 (k - 1)
theorem vs_rtf {x y : UInt32} {m1 : List vs_C} (h : x = y) : vs_ret (some (.float y)) m1 (.inl (some (.float x))) m1 := ⟨by rw [h], rfl⟩
theorem vs_rtl {x y : Int64} {m1 : List vs_C} (h : x = y) : vs_ret (some (.long y)) m1 (.inl (some (.long x))) m1 := ⟨by rw [h], rfl⟩
set_option maxRecDepth 100000 in
set_option maxHeartbeats 4000000 in
theorem k_H_lastScore (l : Launch) (b : Nat) (D : va_G) (aC : Nat → ClassId) (S : vs_S) (k : Nat) (hk : (S.2.2.2.2.1 16 2) = nI k) (hk8 : k ≤ 8) : vs_M l b D aC false true y_H_lastScore (.code y_H_lastScore c_H_lastScore 1 (Option.some Jvm.ClassFile.FieldType.float)) { frames := 0, cells := 0, slots := 0, locals := 0 } [.ref 16] (vs_mem S) (vs_ret (some (.float (lastS S k))) (vs_mem S)) := by
  refine vs_M.of (by decide) (Nat.le_of_ble_eq_true rfl) ?_
  intro p e s m args below meth c C hmn hr hx htg
  generalize hQ : vs_E below args s b D aC false true (vs_ret (some (.float (lastS S k))) (vs_mem S)) { frames := 0, cells := 0, slots := 0, locals := 0 } = Q
  refine vs_aload_n C rfl d_H_lastScore_0 ?_
  refine vs_get C fl_H_19 d_H_lastScore_1 rfl rfl ?_
  refine vs_if_le (tgt := 21) C d_H_lastScore_4 (by decide) (fun h1 => ?_) (fun h1 => ?_)
  · have h0 : k = 0 := by
      rcases Nat.eq_zero_or_pos k with h | h
      · exact h
      · exact absurd (by rw [← hk]; exact h1) (nI_nle h (by omega))
    refine vs_fconst0 C d_H_lastScore_21 ?_
    subst hQ
    exact vs_fret C hr d_H_lastScore_22 ⟨Nat.le_of_ble_eq_true rfl, Nat.le_of_ble_eq_true rfl⟩ (fun h => by cases h) (by first | exact (fun _ => rfl) | exact (fun h => by cases h)) (vs_rtf (by rw [h0]; rfl))
  · have h0 : k ≠ 0 := fun h => h1 (by rw [hk, h]; exact Int32.le_refl _)
    refine vs_aload_n C rfl d_H_lastScore_7 ?_
    refine vs_get C fl_H_15 d_H_lastScore_8 rfl rfl ?_
    refine vs_aload_n C rfl d_H_lastScore_11 ?_
    refine vs_get C fl_H_19 d_H_lastScore_12 rfl rfl ?_
    refine vs_iconst (v := 1) C (by decide) d_H_lastScore_15 ?_
    refine vs_isub C d_H_lastScore_16 ?_
    refine vs_faldN C d_H_lastScore_17 rfl ((show _ = nI (k - 1) by rw [hk]; exact pk_sub (a := k) (b := 1) (by omega))) ((by omega)) (by decide) ?_
    refine vs_goto (tgt := 22) C d_H_lastScore_18 (by decide) ?_
    subst hQ
    exact vs_fret C hr d_H_lastScore_22 ⟨Nat.le_of_ble_eq_true rfl, Nat.le_of_ble_eq_true rfl⟩ (fun h => by cases h) (by first | exact (fun _ => rfl) | exact (fun h => by cases h)) (vs_rtf (if_neg h0).symm)
def cmpG (x y : UInt32) : Int32 := Op.cmpValue (FP.fcmp x y) .g
def hMv (S : vs_S) (i : Nat) : vs_S := vs_uF (vs_uI S 17 (upd (S.1 17) (i + 1) (S.1 17 i))) 18 (vf_upd (S.2.2.1 18) (i + 1) (S.2.2.1 18 i))
def hI (v : UInt32) : Nat → vs_S → Nat × vs_S
  | 0, S => (0, S)
  | i + 1, S => if 0 ≤ cmpG (S.2.2.1 18 i) v then (i + 1, S) else hI v i (hMv S i)
theorem hI_le (v : UInt32) : ∀ (i : Nat) (S : vs_S), (hI v i S).1 ≤ i
  | 0, S => Nat.le_refl _
  | i + 1, S => by
    simp only [hI]
    by_cases h : 0 ≤ cmpG (S.2.2.1 18 i) v
    · rw [if_pos h]
      exact Nat.le_refl _
    · rw [if_neg h]
      exact Nat.le_succ_of_le (hI_le v i _)
theorem hI_si (v : UInt32) : ∀ (i : Nat) (S : vs_S), (hI v i S).2.2.2.2.2.1 = S.2.2.2.2.1
  | 0, S => rfl
  | i + 1, S => by
    simp only [hI]
    by_cases h : 0 ≤ cmpG (S.2.2.1 18 i) v
    · rw [if_pos h]
    · rw [if_neg h, hI_si v i]
      rfl
def hSet (S : vs_S) (q : Nat) (id : Int32) (v : UInt32) : vs_S := vs_uF (vs_uI S 17 (upd (S.1 17) q id)) 18 (vf_upd (S.2.2.1 18) q v)
def hTake (S : vs_S) (id : Int32) (v : UInt32) (k M : Nat) : vs_S :=
  if k = M ∧ ¬ 0 < cmpG v (lastS S k) then S
  else vs_ui (hSet (hI v (if k < M then k else M - 1) S).2 (hI v (if k < M then k else M - 1) S).1 id v) 16 2 (nI (if k < M then k + 1 else M))
section Take
variable {p : Program} {l : Launch} {e : Env} {R : Room} {s : State} {m : MethodId} {args : Array Value} {below : List Frame} {meth : Method} {c : Code} {b : Nat} {D : va_G} {aC : Nat → ClassId} {Q : State → Prop} {kc ks : Nat} {ck : Bool}
theorem take_l (C : vs_X p s m args meth c b D aC "VeilSearch$Hits" c_H_take 4) (id : Int32) (v : UInt32) : ∀ (i : Nat) (S : vs_S), i ≤ 7 → vs_G p l e { frames := 1, cells := 0, slots := 0, locals := 60 } s m args below meth c b D aC 4 Q 0 0 false (vs_mem (hI v i S).2) 97 [some (.ref 16), some (.int id), some (.float v), some (.int (nI (hI v i S).1))] [] → vs_G p l e { frames := 1, cells := 0, slots := 0, locals := 60 } s m args below meth c b D aC 4 Q 0 0 false (vs_mem S) 46 [some (.ref 16), some (.int id), some (.float v), some (.int (nI i))] [] := by
  intro i
  induction i with
  | zero =>
    intro S hi hK
    refine vs_iload_n C rfl d_H_take_46 ?_
    refine vs_if_le (tgt := 97) C d_H_take_47 (by decide) (fun h1 => ?_) (fun h1 => ?_)
    · exact hK
    · exact absurd (Int32.le_refl _) h1
  | succ i ih =>
    intro S hi hK
    refine vs_iload_n C rfl d_H_take_46 ?_
    refine vs_if_le (tgt := 97) C d_H_take_47 (by decide) (fun h1 => ?_) (fun h1 => ?_)
    · exact absurd h1 (nI_nle (by omega) (by omega))
    · refine vs_aload_n C rfl d_H_take_50 ?_
      refine vs_get C fl_H_15 d_H_take_51 rfl rfl ?_
      refine vs_iload_n C rfl d_H_take_54 ?_
      refine vs_iconst (v := 1) C (by decide) d_H_take_55 ?_
      refine vs_isub C d_H_take_56 ?_
      refine vs_faldN C d_H_take_57 rfl (nI_pred i) ((by omega)) (by decide) ?_
      refine vs_fload_n C rfl d_H_take_58 ?_
      refine vs_fcmp C d_H_take_59 ?_
      refine vs_if_ge (tgt := 97) C d_H_take_60 (by decide) (fun h2 => ?_) (fun h2 => ?_)
      · have e : hI v (i + 1) S = (i + 1, S) := if_pos h2
        rw [e] at hK
        exact hK
      · have e : hI v (i + 1) S = hI v i (hMv S i) := if_neg h2
        refine vs_aload_n C rfl d_H_take_63 ?_
        refine vs_get C fl_H_9 d_H_take_64 rfl rfl ?_
        refine vs_iload_n C rfl d_H_take_67 ?_
        refine vs_aload_n C rfl d_H_take_68 ?_
        refine vs_get C fl_H_9 d_H_take_69 rfl rfl ?_
        refine vs_iload_n C rfl d_H_take_72 ?_
        refine vs_iconst (v := 1) C (by decide) d_H_take_73 ?_
        refine vs_isub C d_H_take_74 ?_
        refine vs_ialdN C d_H_take_75 rfl (nI_pred i) ((by omega)) (by decide) ?_
        refine vs_iastN C d_H_take_76 rfl (rfl) ((by omega)) (by decide) ?_
        refine vs_aload_n C rfl d_H_take_77 ?_
        refine vs_get C fl_H_15 d_H_take_78 rfl rfl ?_
        refine vs_iload_n C rfl d_H_take_81 ?_
        refine vs_aload_n C rfl d_H_take_82 ?_
        refine vs_get C fl_H_15 d_H_take_83 rfl rfl ?_
        refine vs_iload_n C rfl d_H_take_86 ?_
        refine vs_iconst (v := 1) C (by decide) d_H_take_87 ?_
        refine vs_isub C d_H_take_88 ?_
        refine vs_faldN C d_H_take_89 rfl (nI_pred i) ((by omega)) (by decide) ?_
        refine vs_fastN C d_H_take_90 rfl (rfl) ((by omega)) (by decide) ?_
        refine vs_iinc C d_H_take_91 rfl ((show nI (i + 1) + Int32.ofInt (-1) = nI i by rw [dec1]; exact nI_pred i)) (by decide) ?_
        refine vs_goto (tgt := 46) C d_H_take_94 (by decide) ?_
        refine vs_ck (ih (hMv S i) (by omega) ?_)
        rw [e] at hK
        exact hK
end Take
set_option maxRecDepth 100000 in
set_option maxHeartbeats 4000000 in
theorem k_H_take (l : Launch) (b : Nat) (D : va_G) (aC : Nat → ClassId) (S : vs_S) (id : Int32) (v : UInt32) (k M : Nat) (hk : (S.2.2.2.2.1 16 2) = nI k) (hM : (S.2.2.2.2.1 16 3) = nI M) (hkM : k ≤ M) (hM1 : 1 ≤ M) (hM8 : M ≤ 8) : vs_M l b D aC false false y_H_take (.code y_H_take c_H_take 4 (Option.none : Option Jvm.ClassFile.FieldType)) { frames := 1, cells := 0, slots := 0, locals := 60 } [.ref 16, .int id, .float v] (vs_mem S) (vs_ret none (vs_mem (hTake S id v k M))) := by
  refine vs_M.of (by decide) (Nat.le_of_ble_eq_true rfl) ?_
  intro p e s m args below meth c C hmn hr hx htg
  generalize hQ : vs_E below args s b D aC false false (vs_ret none (vs_mem (hTake S id v k M))) { frames := 1, cells := 0, slots := 0, locals := 60 } = Q
  refine vs_aload_n C rfl d_H_take_0 ?_
  refine vs_get C fl_H_19 d_H_take_1 rfl rfl ?_
  refine vs_aload_n C rfl d_H_take_4 ?_
  refine vs_get C fl_H_23 d_H_take_5 rfl rfl ?_
  have hgo : ¬ (k = M ∧ ¬ 0 < cmpG v (lastS S k)) → ∀ lv3, vs_G p l e { frames := 1, cells := 0, slots := 0, locals := 60 } s m args below meth c b D aC 4 Q 0 0 false (vs_mem S) 21 [some (.ref 16), some (.int id), some (.float v), lv3] [] := by
    intro hne lv3
    rw [show hTake S id v k M = _ from if_neg hne] at hQ
    refine vs_aload_n C rfl d_H_take_21 ?_
    refine vs_get C fl_H_19 d_H_take_22 rfl rfl ?_
    refine vs_aload_n C rfl d_H_take_25 ?_
    refine vs_get C fl_H_23 d_H_take_26 rfl rfl ?_
    have h45 : vs_G p l e { frames := 1, cells := 0, slots := 0, locals := 60 } s m args below meth c b D aC 4 Q 0 0 false (vs_mem S) 45 [some (.ref 16), some (.int id), some (.float v), lv3] [.int (nI (if k < M then k else M - 1))] := by
      refine vs_istore_n C d_H_take_45 (by decide) ?_
      refine take_l C id v _ S (by split <;> omega) ?_
      have hle := hI_le v (if k < M then k else M - 1) S
      have hsi := hI_si v (if k < M then k else M - 1) S
      generalize hI v (if k < M then k else M - 1) S = q at hQ hle hsi ⊢
      have hq8 : q.1 < 8 := by
        have : (if k < M then k else M - 1) ≤ 7 := by split <;> omega
        omega
      have hk' : q.2.2.2.2.2.1 16 2 = nI k := by rw [hsi]; exact hk
      have hM' : q.2.2.2.2.2.1 16 3 = nI M := by rw [hsi]; exact hM
      refine vs_aload_n C rfl d_H_take_97 ?_
      refine vs_get C fl_H_9 d_H_take_98 rfl rfl ?_
      refine vs_iload_n C rfl d_H_take_101 ?_
      refine vs_iload_n C rfl d_H_take_102 ?_
      refine vs_iastN C d_H_take_103 rfl (rfl) (hq8) (by decide) ?_
      refine vs_aload_n C rfl d_H_take_104 ?_
      refine vs_get C fl_H_15 d_H_take_105 rfl rfl ?_
      refine vs_iload_n C rfl d_H_take_108 ?_
      refine vs_fload_n C rfl d_H_take_109 ?_
      refine vs_fastN C d_H_take_110 rfl (rfl) (hq8) (by decide) ?_
      refine vs_aload_n C rfl d_H_take_111 ?_
      refine vs_aload_n C rfl d_H_take_112 ?_
      refine vs_get C fl_H_19 d_H_take_113 rfl rfl ?_
      refine vs_iconst (v := 1) C (by decide) d_H_take_116 ?_
      refine vs_iadd C d_H_take_117 ?_
      refine vs_aload_n C rfl d_H_take_118 ?_
      refine vs_get C fl_H_23 d_H_take_119 rfl rfl ?_
      refine vs_mmin C w_598 d_H_take_122 (by exact ⟨Nat.le_of_ble_eq_true rfl, Nat.le_of_ble_eq_true rfl⟩) (by exact ⟨Nat.le_of_ble_eq_true rfl, Nat.le_of_ble_eq_true rfl⟩) ?_
      have hv : (if q.2.2.2.2.2.1 16 3 < q.2.2.2.2.2.1 16 2 + 1 then q.2.2.2.2.2.1 16 3 else q.2.2.2.2.2.1 16 2 + 1) = nI (if k < M then k + 1 else M) := by
        rw [hk', hM', nI_1]
        by_cases h : k < M
        · rw [if_pos h, if_neg (nI_nlt (by omega) (by omega))]
        · rw [if_neg h, if_pos (nI_lt (by omega) (by omega))]
      refine vs_st_eq (st2 := [.int (nI (if k < M then k + 1 else M)), .ref 16]) (by rw [← hv] <;> rfl) ?_
      refine vs_put C fl_H_19 d_H_take_125 rfl rfl rfl (Nat.le_of_ble_eq_true rfl) ?_
      subst hQ
      exact vs_vret C hr d_H_take_128 ⟨Nat.le_of_ble_eq_true rfl, Nat.le_of_ble_eq_true rfl⟩ (fun h => by cases h) (by first | exact (fun _ => rfl) | exact (fun h => by cases h)) (⟨rfl, rfl⟩)
    refine vs_icmp_ge (tgt := 39) C d_H_take_29 (by decide) (fun h1 => ?_) (fun h1 => ?_)
    · have hge := n_ge (N := M) (i := k) h1 hM hk (by omega) (by omega)
      refine vs_aload_n C rfl d_H_take_39 ?_
      refine vs_get C fl_H_23 d_H_take_40 rfl rfl ?_
      refine vs_iconst (v := 1) C (by decide) d_H_take_43 ?_
      refine vs_isub C d_H_take_44 ?_
      refine vs_st_eq ?_ h45
      rw [if_neg (show ¬ k < M by omega)]
      show [Value.int (nI (M - 1))] = [Value.int (S.2.2.2.2.1 16 3 - 1)]
      rw [hM, show (1 : Int32) = nI 1 from rfl, pk_sub (by omega)]
    · have hlt := n_lt (N := M) (i := k) h1 hM hk (by omega) (by omega)
      refine vs_aload_n C rfl d_H_take_32 ?_
      refine vs_get C fl_H_19 d_H_take_33 rfl rfl ?_
      refine vs_goto (tgt := 45) C d_H_take_36 (by decide) ?_
      refine vs_st_eq ?_ h45
      rw [if_pos hlt]
      show [Value.int (nI k)] = [Value.int (S.2.2.2.2.1 16 2)]
      rw [hk]
  refine vs_icmp_ne (tgt := 21) C d_H_take_8 (by decide) (fun h1 => ?_) (fun h1 => ?_)
  · have hne : ¬ k = M := fun h => h1 (by rw [hk, hM, h])
    exact vs_ck (hgo (fun h => hne h.1) none)
  · have he : k = M := (nI_eq (by omega) (by omega)).mp (hk.symm.trans (h1.trans hM))
    refine vs_fload_n C rfl d_H_take_11 ?_
    refine vs_aload_n C rfl d_H_take_12 ?_
    refine vs_cV C (k_H_lastScore l b D aC S k hk (by omega)) yk_H_lastScore ml_H_26 im_H_lastScore se_H_lastScore d_H_take_13 rfl rfl rfl rfl (by exact Nat.le_of_ble_eq_true rfl) (by exact ⟨Nat.le_of_ble_eq_true rfl, Nat.le_of_ble_eq_true rfl⟩) (by exact ⟨Nat.le_of_ble_eq_true rfl, Nat.le_of_ble_eq_true rfl⟩) (fun h => by cases h) ?_
    refine vs_fcmp C d_H_take_16 ?_
    refine vs_if_gt (tgt := 21) C d_H_take_17 (by decide) (fun h2 => ?_) (fun h2 => ?_)
    · exact vs_ck (hgo (fun h => h.2 h2) none)
    · rw [show hTake S id v k M = S from if_pos ⟨he, h2⟩] at hQ
      subst hQ
      exact vs_vret C hr d_H_take_20 ⟨Nat.le_of_ble_eq_true rfl, Nat.le_of_ble_eq_true rfl⟩ (fun h => by cases h) (by first | exact (fun _ => rfl) | exact (fun h => by cases h)) (⟨rfl, rfl⟩)

