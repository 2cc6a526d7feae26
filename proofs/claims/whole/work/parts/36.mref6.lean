/-- what is settled of document d, by the rules of d and of the one it takes over from -/
def setl (S : vs_S) (d : Nat) : Prop := (S.1 46 d = -1 ∧ S.1 5 d = S.1 45 d ∧ S.1 4 d = S.1 44 d) ∨ (∃ q, q < d ∧ S.1 46 d = nI q ∧ S.1 5 d = S.1 45 d ||| S.1 5 q ∧ S.1 4 d = if S.1 44 d = 0 then S.1 4 q else S.1 44 d)
theorem i32_and_or (a b t : Int32) : (a ||| b) &&& t = (a &&& t) ||| (b &&& t) := by
  apply Int32.toBitVec_inj.mp
  rw [Int32.toBitVec_and, Int32.toBitVec_or, Int32.toBitVec_or, Int32.toBitVec_and, Int32.toBitVec_and]
  ext i hi
  simp [Bool.and_or_distrib_right]
theorem i32_or0 {a b t : Int32} (h : a &&& t = 0) : (a ||| b) &&& t = b &&& t := by
  rw [i32_and_or, h]
  exact Int32.zero_or
theorem i32_orn {a b t : Int32} (h : ¬ a &&& t = 0) : ¬ (a ||| b) &&& t = 0 := by
  intro hh
  apply h
  rw [i32_and_or] at hh
  apply Int32.toBitVec_inj.mp
  have := congrArg Int32.toBitVec hh
  rw [Int32.toBitVec_or] at this
  ext i hi
  have h2 := congrArg (fun v => v.getLsbD i) this
  simp only [BitVec.getLsbD_or] at h2
  have h3 : (0 : Int32).toBitVec.getLsbD i = false := by simp
  rw [h3] at h2
  have h4 := (Bool.or_eq_false_iff.mp h2).1
  rw [← BitVec.getLsbD_eq_getElem, ← BitVec.getLsbD_eq_getElem, h4]
  exact h3.symm
def mrR (S : vs_S) (tok : Int32) (q : Nat) (dc lt : Int32) : Int32 := if S.1 5 q &&& tok = 0 then (if dc = 0 then b01 (¬ S.1 4 q &&& tok = 0) else lt) else 0
section MMay
variable {p : Program} {l : Launch} {e : Env} {R : Room} {s : State} {m : MethodId} {args : Array Value} {below : List Frame} {meth : Method} {c : Code} {b : Nat} {D : va_G} {aC : Nat → ClassId} {Q : State → Prop} {kc ks : Nat} {ck : Bool}
theorem mmay (C : vs_X p s m args meth c b D aC "VeilSearchModel" c_M_mayRead 7) (S : vs_S) (u id : Int32) (tok : Int32) (N : Nat) (hN : N ≤ 40) (hs : ∀ d, d < N → setl S d) (v : Int32) (K0 : v = 0 → ∀ lv, vs_G p l e { frames := 1, cells := 0, slots := 0, locals := 25 } s m args below meth c b D aC 7 Q 0 0 true (vs_mem S) 33 lv []) (K1 : ∀ o4 o6, vs_G p l e { frames := 1, cells := 0, slots := 0, locals := 25 } s m args below meth c b D aC 7 Q 0 0 true (vs_mem S) 84 [some (.ref 35), some (.int u), some (.int id), some (.int tok), o4, some (.int v), o6] []) : ∀ n q : Nat, q < n → n ≤ N → ∀ dc lt : Int32, (dc = 0 → lt = 0) → v = mrR S tok q dc lt → vs_G p l e { frames := 1, cells := 0, slots := 0, locals := 25 } s m args below meth c b D aC 7 Q 0 0 true (vs_mem S) 16 [some (.ref 35), some (.int u), some (.int id), some (.int tok), some (.int dc), some (.int lt), some (.int (nI q))] [] := by
  intro n
  induction n with
  | zero => intro q h; omega
  | succ n ih =>
    intro q hq hnN dc lt hdl hv
    refine vs_iload C rfl d_M_mayRead_16 ?_
    refine vs_if_lt (tgt := 84) C d_M_mayRead_18 (by decide) (fun h1 => ?_) (fun h1 => ?_)
    · exact absurd h1 (nI_pos (by omega))
    · refine vs_aload_n C rfl d_M_mayRead_21 ?_
      refine vs_get C fl_M_37 d_M_mayRead_22 rfl rfl ?_
      refine vs_iload C rfl d_M_mayRead_25 ?_
      refine vs_ialdN C d_M_mayRead_27 rfl (rfl) ((by omega)) (by decide) ?_
      refine vs_iload_n C rfl d_M_mayRead_28 ?_
      refine vs_iand C d_M_mayRead_29 ?_
      have hse := hs q (by omega)
      refine vs_if_eq (tgt := 35) C d_M_mayRead_30 (by decide) (fun h2 => ?_) (fun h2 => ?_)
      · have h72 : ∀ dc2 lt2 : Int32, (dc2 = 0 → lt2 = 0) → (dc2 = 0 → S.1 44 q = 0 ∧ dc = 0) → (¬ dc2 = 0 → mrR S tok q dc lt = if S.1 5 q &&& tok = 0 then lt2 else 0) → vs_G p l e { frames := 1, cells := 0, slots := 0, locals := 25 } s m args below meth c b D aC 7 Q 0 0 true (vs_mem S) 72 [some (.ref 35), some (.int u), some (.int id), some (.int tok), some (.int dc2), some (.int lt2), some (.int (nI q))] [] := by
          intro dc2 lt2 hz h0 h1
          refine vs_aload_n C rfl d_M_mayRead_72 ?_
          refine vs_get C fl_M_40 d_M_mayRead_73 rfl rfl ?_
          refine vs_iload C rfl d_M_mayRead_76 ?_
          refine vs_ialdN C d_M_mayRead_78 rfl (rfl) ((by omega)) (by decide) ?_
          rcases hse with ⟨a1, a2, a3⟩ | ⟨r, hr, a1, a2, a3⟩
          · refine vs_st_eq (st2 := [.int (-1)]) (by rw [← a1] <;> rfl) ?_
            refine vs_istore C d_M_mayRead_79 (by decide) ?_
            refine vs_goto (tgt := 16) C d_M_mayRead_81 (by decide) ?_
            refine vs_iload C rfl d_M_mayRead_16 ?_
            refine vs_if_lt (tgt := 84) C d_M_mayRead_18 (by decide) (fun h3 => ?_) (fun h3 => ?_)
            · have e : v = lt2 := by
                rw [hv]
                by_cases hd : dc2 = 0
                · obtain ⟨b1, b2⟩ := h0 hd
                  unfold mrR
                  rw [a2, if_pos h2, if_pos b2, a3, b1, hz hd]
                  rw [b01_f (fun h => h (Int32.zero_and))]
                · rw [h1 hd, a2, if_pos h2]
              rw [← e]
              exact K1 _ _
            · exact absurd (show (-1 : Int32) < 0 by decide) h3
          · refine vs_st_eq (st2 := [.int (nI r)]) (by rw [← a1] <;> rfl) ?_
            refine vs_istore C d_M_mayRead_79 (by decide) ?_
            refine vs_goto (tgt := 16) C d_M_mayRead_81 (by decide) ?_
            refine ih r (by omega) (by omega) dc2 lt2 hz ?_
            rw [hv]
            by_cases hd : dc2 = 0
            · obtain ⟨b1, b2⟩ := h0 hd
              unfold mrR
              rw [a2, i32_or0 h2, if_pos b2, if_pos hd, a3, if_pos b1]
            · rw [h1 hd]
              unfold mrR
              rw [a2, i32_or0 h2, if_neg hd]
        refine vs_iload C rfl d_M_mayRead_35 ?_
        refine vs_if_ne (tgt := 72) C d_M_mayRead_37 (by decide) (fun h3 => ?_) (fun h3 => ?_)
        · exact h72 dc lt hdl (fun h => absurd h h3) (fun _ => by unfold mrR; rw [if_neg h3])
        · refine vs_aload_n C rfl d_M_mayRead_40 ?_
          refine vs_get C fl_M_34 d_M_mayRead_41 rfl rfl ?_
          refine vs_iload C rfl d_M_mayRead_44 ?_
          refine vs_ialdN C d_M_mayRead_46 rfl (rfl) ((by omega)) (by decide) ?_
          refine vs_if_eq (tgt := 72) C d_M_mayRead_47 (by decide) (fun h4 => ?_) (fun h4 => ?_)
          · exact h72 dc lt hdl (fun _ => ⟨h4, h3⟩) (fun h => absurd h3 h)
          · have hA : S.1 4 q = S.1 44 q := by
              rcases hse with ⟨a1, a2, a3⟩ | ⟨r, hr, a1, a2, a3⟩
              · exact a3
              · rw [a3, if_neg h4]
            refine vs_iconst (v := 1) C (by decide) d_M_mayRead_50 ?_
            refine vs_istore C d_M_mayRead_51 (by decide) ?_
            refine vs_aload_n C rfl d_M_mayRead_53 ?_
            refine vs_get C fl_M_34 d_M_mayRead_54 rfl rfl ?_
            refine vs_iload C rfl d_M_mayRead_57 ?_
            refine vs_ialdN C d_M_mayRead_59 rfl (rfl) ((by omega)) (by decide) ?_
            refine vs_iload_n C rfl d_M_mayRead_60 ?_
            refine vs_iand C d_M_mayRead_61 ?_
            have hgo : ∀ w : Int32, w = b01 (¬ S.1 44 q &&& tok = 0) → vs_G p l e { frames := 1, cells := 0, slots := 0, locals := 25 } s m args below meth c b D aC 7 Q 0 0 true (vs_mem S) 70 [some (.ref 35), some (.int u), some (.int id), some (.int tok), some (.int 1), some (.int lt), some (.int (nI q))] [.int w] := by
              intro w hw
              refine vs_istore C d_M_mayRead_70 (by decide) ?_
              exact h72 1 w (fun h => absurd h (by decide)) (fun h => absurd h (by decide)) (fun _ => by unfold mrR; rw [if_pos h3, hA, hw])
            refine vs_if_eq (tgt := 69) C d_M_mayRead_62 (by decide) (fun h5 => ?_) (fun h5 => ?_)
            · refine vs_iconst (v := 0) C (by decide) d_M_mayRead_69 ?_
              exact hgo 0 (b01_f (fun h => h h5)).symm
            · refine vs_iconst (v := 1) C (by decide) d_M_mayRead_65 ?_
              refine vs_goto (tgt := 70) C d_M_mayRead_66 (by decide) ?_
              exact hgo 1 (b01_t h5).symm
      · refine K0 ?_ _
        rw [hv]
        unfold mrR
        refine if_neg ?_
        rcases hse with ⟨a1, a2, a3⟩ | ⟨r, hr, a1, a2, a3⟩
        · rw [a2]; exact h2
        · rw [a2]; exact i32_orn h2
end MMay
def mTok (S : vs_S) (u N : Nat) : Int32 := tkm (S.1 39) (1 <<< (nI u &&& 31)) N
def tokH (S : vs_S) (u N : Nat) : Prop := tkm (S.1 39) (1 <<< (nI u &&& 31)) (N + 1) = tkm (S.1 39) (1 <<< (nI u &&& 31)) N
theorem shl1_ne : ∀ u, u < 8 → ¬ (1 : Int32) <<< (nI u &&& 31) = 0 := by decide +kernel
set_option maxRecDepth 100000 in
set_option maxHeartbeats 4000000 in
theorem k_M_mayRead (l : Launch) (b : Nat) (D : va_G) (aC : Nat → ClassId) (S : vs_S) (u d N kd : Nat) (hu : u < 8) (hN : tokH S u N) (hd : d < kd) (hkd : kd ≤ 40) (hs : ∀ d, d < kd → setl S d) : vs_M l b D aC false true y_M_mayRead (.code y_M_mayRead c_M_mayRead 7 (Option.some Jvm.ClassFile.FieldType.boolean)) { frames := 1, cells := 0, slots := 0, locals := 25 } [.ref 35, .int (nI u), .int (nI d)] (vs_mem S) (vs_ret (some (.int (b01 (mr S d (mTok S u N) = true)))) (vs_mem S)) := by
  refine vs_M.of (by decide) (Nat.le_of_ble_eq_true rfl) ?_
  intro p e s m args below meth c C hmn hr hx htg
  generalize hQ : vs_E below args s b D aC false true (vs_ret (some (.int (b01 (mr S d (mTok S u N) = true)))) (vs_mem S)) { frames := 1, cells := 0, slots := 0, locals := 25 } = Q
  refine vs_aload_n C rfl d_M_mayRead_0 ?_
  refine vs_iload_n C rfl d_M_mayRead_1 ?_
  refine vs_iconst (v := 0) C (by decide) d_M_mayRead_2 ?_
  refine vs_cV C (k_M_tokens_Old l b D aC S (nI u) N hN (shl1_ne u hu)) yk_M_tokens ml_M_149 im_M_tokens se_M_tokens d_M_mayRead_3 rfl rfl rfl rfl (by exact Nat.le_of_ble_eq_true rfl) (by exact ⟨Nat.le_of_ble_eq_true rfl, Nat.le_of_ble_eq_true rfl⟩) (by exact ⟨Nat.le_of_ble_eq_true rfl, Nat.le_of_ble_eq_true rfl⟩) (fun h => by cases h) ?_
  refine vs_istore_n C d_M_mayRead_6 (by decide) ?_
  refine vs_iconst (v := 0) C (by decide) d_M_mayRead_7 ?_
  refine vs_istore C d_M_mayRead_8 (by decide) ?_
  refine vs_iconst (v := 0) C (by decide) d_M_mayRead_10 ?_
  refine vs_istore C d_M_mayRead_11 (by decide) ?_
  refine vs_iload_n C rfl d_M_mayRead_13 ?_
  refine vs_istore C d_M_mayRead_14 (by decide) ?_
  refine mmay C S (nI u) (nI d) (mTok S u N) kd hkd hs (b01 (mr S d (mTok S u N) = true)) (fun h lv => ?_) (fun o4 o6 => ?_) kd d hd (Nat.le_refl _) 0 0 (fun _ => rfl) ?_
  · refine vs_iconst (v := 0) C (by decide) d_M_mayRead_33 ?_
    subst hQ
    exact vs_zret C hr (by first | rfl | exact nr01) d_M_mayRead_34 ⟨Nat.le_of_ble_eq_true rfl, Nat.le_of_ble_eq_true rfl⟩ (fun h => by cases h) (by first | exact (fun _ => rfl) | exact (fun h => by cases h)) (vs_rti h.symm)
  · refine vs_iload C rfl d_M_mayRead_84 ?_
    subst hQ
    exact vs_zret C hr (by first | rfl | exact nr01) d_M_mayRead_86 ⟨Nat.le_of_ble_eq_true rfl, Nat.le_of_ble_eq_true rfl⟩ (fun h => by cases h) (by first | exact (fun _ => rfl) | exact (fun h => by cases h)) (⟨rfl, rfl⟩)
  · unfold mrR mr
    by_cases h1 : S.1 5 d &&& mTok S u N = 0
    · rw [if_pos h1, if_pos rfl]
      exact b01_c (by rw [Bool.and_eq_true, decide_eq_true_eq, decide_eq_true_eq]; exact ⟨fun h => h.2, fun h => ⟨h1, h⟩⟩)
    · rw [if_neg h1]
      exact b01_f (by rw [Bool.and_eq_true, decide_eq_true_eq]; exact fun h => h1 h.1)
theorem ix43 (d f t : Nat) : nI 24 * nI d + nI 8 * nI f + nI t = nI (24 * d + 8 * f + t) := by
  rw [pk_mul, pk_mul, nI_add, nI_add]
def opM (S : vs_S) (u i : Nat) : Prop := ¬ S.1 41 u < S.1 40 (S.1 55 i).toNatClampNeg
def opMb (S : vs_S) (u i : Nat) : Bool := decide (¬ S.1 41 u < S.1 40 (S.1 55 i).toNatClampNeg)
def cdM (S : vs_S) (d i : Nat) : Int32 := S.1 43 (24 * d + 8 * (S.1 55 i).toNatClampNeg + (S.1 54 i).toNatClampNeg)
def badM (S : vs_S) (u d i : Nat) : Bool := (decide (S.1 53 i = 1) && (!opMb S u i || decide (cdM S d i = 0))) || (opMb S u i && (decide (S.1 53 i = 2) && decide (¬ cdM S d i ≤ 0)))
def scsM (S : vs_S) (u d i : Nat) : Bool := opMb S u i && (decide (S.1 53 i = 0) && decide (¬ cdM S d i ≤ 0))
def fndM (S : vs_S) (u d k : Nat) : Bool := !anyB (badM S u d) k && anyB (scsM S u d) k
section MFnd
variable {p : Program} {l : Launch} {e : Env} {R : Room} {s : State} {m : MethodId} {args : Array Value} {below : List Frame} {meth : Method} {c : Code} {b : Nat} {D : va_G} {aC : Nat → ClassId} {Q : State → Prop} {kc ks : Nat} {ck : Bool}
theorem mfnd (C : vs_X p s m args meth c b D aC "VeilSearchModel" c_M_isFound 7) (S : vs_S) (u d k : Nat) (hu : u < 8) (hd : d < 40) (hk : (S.2.2.2.2.1 35 31) = nI k) (hk6 : k ≤ 6) (hfl : ∀ i, i < k → (∃ f, f < 3 ∧ S.1 55 i = nI f) ∧ ∃ t, t < 8 ∧ S.1 54 i = nI t) (K0 : ∀ lv, anyB (badM S u d) k = true → vs_G p l e { frames := 1, cells := 0, slots := 0, locals := 22 } s m args below meth c b D aC 7 Q 0 0 true (vs_mem S) 100 lv []) (K1 : ∀ o5 o6, anyB (badM S u d) k = false → vs_G p l e { frames := 1, cells := 0, slots := 0, locals := 22 } s m args below meth c b D aC 7 Q 0 0 true (vs_mem S) 130 [some (.ref 35), some (.int (nI u)), some (.int (nI d)), some (.int (b01 (anyB (scsM S u d) k = true))), some (.int (nI k)), o5, o6] []) : ∀ n i : Nat, i ≤ k → k - i < n → anyB (badM S u d) i = false → ∀ o5 o6, vs_G p l e { frames := 1, cells := 0, slots := 0, locals := 22 } s m args below meth c b D aC 7 Q 0 0 true (vs_mem S) 5 [some (.ref 35), some (.int (nI u)), some (.int (nI d)), some (.int (b01 (anyB (scsM S u d) i = true))), some (.int (nI i)), o5, o6] [] := by
  intro n
  induction n with
  | zero => intro i _ h; omega
  | succ n ih =>
    intro i hi hn hb o5 o6
    refine vs_iload C rfl d_M_isFound_5 ?_
    refine vs_aload_n C rfl d_M_isFound_7 ?_
    refine vs_get C fl_M_146 d_M_isFound_8 rfl rfl ?_
    refine vs_icmp_ge (tgt := 130) C d_M_isFound_11 (by decide) (fun h1 => ?_) (fun h1 => ?_)
    · have h2 := n_ge (N := k) (i := i) h1 hk rfl (by omega) (by omega)
      obtain rfl : i = k := by omega
      exact K1 _ _ hb
    · have hlt := n_lt (N := k) (i := i) h1 hk rfl (by omega) (by omega)
      obtain ⟨⟨f, hf3, hf⟩, t, ht8, ht⟩ := hfl i hlt
      have hcd : cdM S d i = S.1 43 (24 * d + 8 * f + t) := by
        simp only [cdM, hf, ht, nI_clamp (show f < 2 ^ 31 by omega), nI_clamp (show t < 2 ^ 31 by omega)]
      have hop : opMb S u i = decide (¬ S.1 41 u < S.1 40 f) := by
        simp only [opMb, hf, nI_clamp (show f < 2 ^ 31 by omega)]
      refine vs_aload_n C rfl d_M_isFound_14 ?_
      refine vs_iload_n C rfl d_M_isFound_15 ?_
      refine vs_aload_n C rfl d_M_isFound_16 ?_
      refine vs_get C fl_M_68 d_M_isFound_17 rfl rfl ?_
      refine vs_iload C rfl d_M_isFound_20 ?_
      refine vs_ialdN C d_M_isFound_22 rfl (rfl) ((by omega)) (by decide) ?_
      refine vs_st_eq (st2 := [.int (nI f), .int (nI u), .ref 35]) (by rw [← hf] <;> rfl) ?_
      refine vs_cV C (k_M_isOpen l b D aC S u f hu hf3) yk_M_isOpen ml_M_153 im_M_isOpen se_M_isOpen d_M_isFound_23 rfl rfl rfl rfl (by exact Nat.le_of_ble_eq_true rfl) (by exact ⟨Nat.le_of_ble_eq_true rfl, Nat.le_of_ble_eq_true rfl⟩) (by exact ⟨Nat.le_of_ble_eq_true rfl, Nat.le_of_ble_eq_true rfl⟩) (fun h => by cases h) ?_
      rw [show b01 (¬ S.1 41 u < S.1 40 f) = b01 (opMb S u i = true) from b01_c (by rw [hop, decide_eq_true_eq])]
      refine vs_istore C d_M_isFound_26 (by decide) ?_
      refine vs_aload_n C rfl d_M_isFound_28 ?_
      refine vs_get C fl_M_31 d_M_isFound_29 rfl rfl ?_
      refine vs_bipush (v := 24) C (by decide) d_M_isFound_32 ?_
      refine vs_iload_n C rfl d_M_isFound_34 ?_
      refine vs_imul C d_M_isFound_35 ?_
      refine vs_bipush (v := 8) C (by decide) d_M_isFound_36 ?_
      refine vs_aload_n C rfl d_M_isFound_38 ?_
      refine vs_get C fl_M_68 d_M_isFound_39 rfl rfl ?_
      refine vs_iload C rfl d_M_isFound_42 ?_
      refine vs_ialdN C d_M_isFound_44 rfl (rfl) ((by omega)) (by decide) ?_
      refine vs_imul C d_M_isFound_45 ?_
      refine vs_iadd C d_M_isFound_46 ?_
      refine vs_aload_n C rfl d_M_isFound_47 ?_
      refine vs_get C fl_M_65 d_M_isFound_48 rfl rfl ?_
      refine vs_iload C rfl d_M_isFound_51 ?_
      refine vs_ialdN C d_M_isFound_53 rfl (rfl) ((by omega)) (by decide) ?_
      refine vs_iadd C d_M_isFound_54 ?_
      refine vs_ialdN C d_M_isFound_55 rfl ((by rw [hf, ht]; exact ix43 d f t)) ((by omega)) (by decide) ?_
      refine vs_istore C d_M_isFound_56 (by decide) ?_
      refine vs_aload_n C rfl d_M_isFound_58 ?_
      refine vs_get C fl_M_62 d_M_isFound_59 rfl rfl ?_
      refine vs_iload C rfl d_M_isFound_62 ?_
      refine vs_ialdN C d_M_isFound_64 rfl (rfl) ((by omega)) (by decide) ?_
      refine vs_iconst (v := 1) C (by decide) d_M_isFound_65 ?_
      rw [← hcd]
      have hbk : badM S u d i = true → anyB (badM S u d) k = true := fun h => anyB_iff.mpr ⟨i, hlt, h⟩
      have hnx : badM S u d i = false → vs_G p l e { frames := 1, cells := 0, slots := 0, locals := 22 } s m args below meth c b D aC 7 Q 0 0 true (vs_mem S) 102 [some (.ref 35), some (.int (nI u)), some (.int (nI d)), some (.int (b01 (anyB (scsM S u d) i = true))), some (.int (nI i)), some (.int (b01 (opMb S u i = true))), some (.int (cdM S d i))] [] := by
        intro hbf
        have hst : ∀ w : Int32, w = b01 (anyB (scsM S u d) (i + 1) = true) → vs_G p l e { frames := 1, cells := 0, slots := 0, locals := 22 } s m args below meth c b D aC 7 Q 0 0 true (vs_mem S) 124 [some (.ref 35), some (.int (nI u)), some (.int (nI d)), some (.int w), some (.int (nI i)), some (.int (b01 (opMb S u i = true))), some (.int (cdM S d i))] [] := by
          intro w hw
          subst hw
          refine vs_iinc C d_M_isFound_124 rfl (nI_1 i) (by decide) ?_
          refine vs_goto (tgt := 5) C d_M_isFound_127 (by decide) ?_
          exact ih (i + 1) (by omega) (by omega) (by simp [anyB, hb, hbf]) _ _
        have hsame : scsM S u d i = false → b01 (anyB (scsM S u d) i = true) = b01 (anyB (scsM S u d) (i + 1) = true) := by
          intro h
          simp [anyB, h]
        refine vs_iload C rfl d_M_isFound_102 ?_
        refine vs_if_eq (tgt := 124) C d_M_isFound_104 (by decide) (fun g1 => ?_) (fun g1 => ?_)
        · exact hst _ (hsame (by simp [scsM, b01_0.mp g1]))
        · refine vs_aload_n C rfl d_M_isFound_107 ?_
          refine vs_get C fl_M_62 d_M_isFound_108 rfl rfl ?_
          refine vs_iload C rfl d_M_isFound_111 ?_
          refine vs_ialdN C d_M_isFound_113 rfl (rfl) ((by omega)) (by decide) ?_
          refine vs_if_ne (tgt := 124) C d_M_isFound_114 (by decide) (fun g2 => ?_) (fun g2 => ?_)
          · have g2' : ¬ S.1 53 i = 0 := g2
            exact hst _ (hsame (by simp [scsM, g2']))
          · refine vs_iload C rfl d_M_isFound_117 ?_
            refine vs_if_le (tgt := 124) C d_M_isFound_119 (by decide) (fun g3 => ?_) (fun g3 => ?_)
            · exact hst _ (hsame (by simp [scsM, g3]))
            · have g2' : S.1 53 i = 0 := g2
              refine vs_iconst (v := 1) C (by decide) d_M_isFound_122 ?_
              refine vs_istore_n C d_M_isFound_123 (by decide) ?_
              refine hst 1 (b01_t (anyB_iff.mpr ⟨i, by omega, ?_⟩)).symm
              simp only [scsM, Bool.and_eq_true, decide_eq_true_eq]
              exact ⟨b01_n g1, g2', g3⟩
      have h79 : (S.1 53 i = 1 → opMb S u i = true ∧ ¬ cdM S d i = 0) → vs_G p l e { frames := 1, cells := 0, slots := 0, locals := 22 } s m args below meth c b D aC 7 Q 0 0 true (vs_mem S) 79 [some (.ref 35), some (.int (nI u)), some (.int (nI d)), some (.int (b01 (anyB (scsM S u d) i = true))), some (.int (nI i)), some (.int (b01 (opMb S u i = true))), some (.int (cdM S d i))] [] := by
        intro hno
        refine vs_iload C rfl d_M_isFound_79 ?_
        refine vs_if_eq (tgt := 102) C d_M_isFound_81 (by decide) (fun g1 => ?_) (fun g1 => ?_)
        · have q := b01_0.mp g1
          refine hnx ?_
          by_cases hs1 : S.1 53 i = 1
          · exact absurd (hno hs1).1 q
          · simp [badM, hs1, q]
        · have q := b01_n g1
          refine vs_aload_n C rfl d_M_isFound_84 ?_
          refine vs_get C fl_M_62 d_M_isFound_85 rfl rfl ?_
          refine vs_iload C rfl d_M_isFound_88 ?_
          refine vs_ialdN C d_M_isFound_90 rfl (rfl) ((by omega)) (by decide) ?_
          refine vs_iconst (v := 2) C (by decide) d_M_isFound_91 ?_
          refine vs_icmp_ne (tgt := 102) C d_M_isFound_92 (by decide) (fun g2 => ?_) (fun g2 => ?_)
          · refine hnx ?_
            have g2' : ¬ S.1 53 i = 2 := g2
            by_cases hs1 : S.1 53 i = 1
            · simp [badM, hs1, q, (hno hs1).2]
            · simp [badM, hs1, g2']
          · have g2' : S.1 53 i = 2 := g2
            refine vs_iload C rfl d_M_isFound_95 ?_
            refine vs_if_le (tgt := 102) C d_M_isFound_97 (by decide) (fun g3 => ?_) (fun g3 => ?_)
            · refine hnx ?_
              simp [badM, g2', g3]
            · refine K0 _ (hbk ?_)
              simp only [badM, Bool.or_eq_true, Bool.and_eq_true, decide_eq_true_eq]
              exact Or.inr ⟨q, g2', g3⟩
      refine vs_icmp_ne (tgt := 79) C d_M_isFound_66 (by decide) (fun g1 => ?_) (fun g1 => ?_)
      · exact h79 (fun h => absurd h g1)
      · have g1' : S.1 53 i = 1 := g1
        refine vs_iload C rfl d_M_isFound_69 ?_
        refine vs_if_eq (tgt := 100) C d_M_isFound_71 (by decide) (fun g2 => ?_) (fun g2 => ?_)
        · refine K0 _ (hbk ?_)
          simp [badM, g1', b01_0.mp g2]
        · refine vs_iload C rfl d_M_isFound_74 ?_
          refine vs_if_eq (tgt := 100) C d_M_isFound_76 (by decide) (fun g3 => ?_) (fun g3 => ?_)
          · refine K0 _ (hbk ?_)
            simp [badM, g1', g3]
          · exact h79 (fun _ => ⟨b01_n g2, g3⟩)
end MFnd
set_option maxRecDepth 100000 in
set_option maxHeartbeats 4000000 in
theorem k_M_isFound (l : Launch) (b : Nat) (D : va_G) (aC : Nat → ClassId) (S : vs_S) (u d k : Nat) (hu : u < 8) (hd : d < 40) (hk : (S.2.2.2.2.1 35 31) = nI k) (hk6 : k ≤ 6) (hfl : ∀ i, i < k → (∃ f, f < 3 ∧ S.1 55 i = nI f) ∧ ∃ t, t < 8 ∧ S.1 54 i = nI t) : vs_M l b D aC false true y_M_isFound (.code y_M_isFound c_M_isFound 7 (Option.some Jvm.ClassFile.FieldType.boolean)) { frames := 1, cells := 0, slots := 0, locals := 22 } [.ref 35, .int (nI u), .int (nI d)] (vs_mem S) (vs_ret (some (.int (b01 (fndM S u d k = true)))) (vs_mem S)) := by
  refine vs_M.of (by decide) (Nat.le_of_ble_eq_true rfl) ?_
  intro p e s m args below meth c C hmn hr hx htg
  generalize hQ : vs_E below args s b D aC false true (vs_ret (some (.int (b01 (fndM S u d k = true)))) (vs_mem S)) { frames := 1, cells := 0, slots := 0, locals := 22 } = Q
  refine vs_iconst (v := 0) C (by decide) d_M_isFound_0 ?_
  refine vs_istore_n C d_M_isFound_1 (by decide) ?_
  refine vs_iconst (v := 0) C (by decide) d_M_isFound_2 ?_
  refine vs_istore C d_M_isFound_3 (by decide) ?_
  refine mfnd C S u d k hu hd hk hk6 hfl (fun lv h => ?_) (fun o5 o6 h => ?_) (k + 1) 0 (Nat.zero_le _) (by omega) rfl _ _
  · refine vs_iconst (v := 0) C (by decide) d_M_isFound_100 ?_
    subst hQ
    exact vs_zret C hr (by first | rfl | exact nr01) d_M_isFound_101 ⟨Nat.le_of_ble_eq_true rfl, Nat.le_of_ble_eq_true rfl⟩ (fun h => by cases h) (by first | exact (fun _ => rfl) | exact (fun h => by cases h)) (vs_rti (b01_f (by simp [fndM, h])).symm)
  · refine vs_iload_n C rfl d_M_isFound_130 ?_
    subst hQ
    exact vs_zret C hr (by first | rfl | exact nr01) d_M_isFound_131 ⟨Nat.le_of_ble_eq_true rfl, Nat.le_of_ble_eq_true rfl⟩ (fun h => by cases h) (by first | exact (fun _ => rfl) | exact (fun h => by cases h)) (vs_rti (b01_c (by simp [fndM, h])))
/-- the greatest code of those from a on, n of them, for which P holds -/
def bst (cd : Nat → Int32) (P : Nat → Bool) (a : Nat) : Nat → Int32
  | 0 => 0
  | n + 1 => if P (a + n) = true ∧ ¬ cd (a + n) ≤ bst cd P a n then cd (a + n) else bst cd P a n
def sP (S : vs_S) (x : Int32) (d : Nat) : Bool := decide (S.1 48 d = x)
def bsM (S : vs_S) (x : Int32) (a n k : Nat) : Int32 := bst (fun d => cdM S d k) (sP S x) a n
def woM (S : vs_S) (x : Int32) (a n k : Nat) : UInt32 := FP.fmul (FP.d2f (S.2.2.2.1 58 k)) (FP.fdiv (FP.i2f (bsM S x a n k)) 1098907648)
def isSM (S : vs_S) (u k : Nat) : Bool := decide (S.1 53 k = 0) && opMb S u k
def scM (S : vs_S) (o : Nat → Nat) (u : Nat) (x : Int32) (a n : Nat) : Nat → UInt32
  | 0 => FP.fconst0
  | i + 1 => if isSM S u (o i) = true ∧ ¬ bsM S x a n (o i) ≤ 0 then FP.fadd (scM S o u x a n i) (woM S x a n (o i)) else scM S o u x a n i
def scMK (S : vs_S) (o : Nat → Nat) (u : Nat) (x : Int32) (a n i : Nat) : Prop := isSM S u (o i) = true → ¬ bsM S x a n (o i) ≤ 0 → vf_n32 (FP.d2f (S.2.2.2.1 58 (o i))) ∧ vf_n32 (FP.fdiv (FP.i2f (bsM S x a n (o i))) 1098907648) ∧ vf_n32 (woM S x a n (o i)) ∧ vf_n32 (FP.fadd (scM S o u x a n i) (woM S x a n (o i)))
section MSc
variable {p : Program} {l : Launch} {e : Env} {R : Room} {s : State} {m : MethodId} {args : Array Value} {below : List Frame} {meth : Method} {c : Code} {b : Nat} {D : va_G} {aC : Nat → ClassId} {Q : State → Prop} {kc ks : Nat} {ck : Bool}
theorem msc_i (C : vs_X p s m args meth c b D aC "VeilSearchModel" c_M_scoreOf 12) (S : vs_S) (u a n0 i k : Nat) (x : Int32) (sum : UInt32) (f t : Nat) (op : Int32) (hk6 : k < 6) (han : a + n0 ≤ 40) (hf3 : f < 3) (ht8 : t < 8) (hf : S.1 55 k = nI f) (ht : S.1 54 k = nI t) (K : ∀ o11, vs_G p l e { frames := 1, cells := 0, slots := 0, locals := 22 } s m args below meth c b D aC 12 Q 0 0 true (vs_mem S) 128 [some (.ref 35), some (.int (nI u)), some (.int (nI a)), some (.int (nI (a + n0))), some (.int x), some (.float sum), some (.int (nI i)), some (.int (nI k)), some (.int (bsM S x a n0 k)), some (.int op), some (.int (nI (a + n0))), o11] []) : ∀ n j : Nat, j ≤ n0 → n0 - j < n → ∀ o11, vs_G p l e { frames := 1, cells := 0, slots := 0, locals := 22 } s m args below meth c b D aC 12 Q 0 0 true (vs_mem S) 62 [some (.ref 35), some (.int (nI u)), some (.int (nI a)), some (.int (nI (a + n0))), some (.int x), some (.float sum), some (.int (nI i)), some (.int (nI k)), some (.int (bsM S x a j k)), some (.int op), some (.int (nI (a + j))), o11] [] := by
  intro n
  induction n with
  | zero => intro j _ h; omega
  | succ n ih =>
    intro j hj hn o11
    have hcd : cdM S (a + j) k = S.1 43 (24 * (a + j) + 8 * f + t) := by
      simp only [cdM, hf, ht, nI_clamp (show f < 2 ^ 31 by omega), nI_clamp (show t < 2 ^ 31 by omega)]
    refine vs_iload C rfl d_M_scoreOf_62 ?_
    refine vs_iload_n C rfl d_M_scoreOf_64 ?_
    refine vs_icmp_ge (tgt := 128) C d_M_scoreOf_65 (by decide) (fun h1 => ?_) (fun h1 => ?_)
    · have h2 := n_ge (N := a + n0) (i := a + j) h1 rfl rfl (by omega) (by omega)
      obtain rfl : j = n0 := by omega
      exact K _
    · have hlt := n_lt (N := a + n0) (i := a + j) h1 rfl rfl (by omega) (by omega)
      refine vs_aload_n C rfl d_M_scoreOf_68 ?_
      refine vs_get C fl_M_31 d_M_scoreOf_69 rfl rfl ?_
      refine vs_bipush (v := 24) C (by decide) d_M_scoreOf_72 ?_
      refine vs_iload C rfl d_M_scoreOf_74 ?_
      refine vs_imul C d_M_scoreOf_76 ?_
      refine vs_bipush (v := 8) C (by decide) d_M_scoreOf_77 ?_
      refine vs_aload_n C rfl d_M_scoreOf_79 ?_
      refine vs_get C fl_M_68 d_M_scoreOf_80 rfl rfl ?_
      refine vs_iload C rfl d_M_scoreOf_83 ?_
      refine vs_ialdN C d_M_scoreOf_85 rfl (rfl) ((by omega)) (by decide) ?_
      refine vs_imul C d_M_scoreOf_86 ?_
      refine vs_iadd C d_M_scoreOf_87 ?_
      refine vs_aload_n C rfl d_M_scoreOf_88 ?_
      refine vs_get C fl_M_65 d_M_scoreOf_89 rfl rfl ?_
      refine vs_iload C rfl d_M_scoreOf_92 ?_
      refine vs_ialdN C d_M_scoreOf_94 rfl (rfl) ((by omega)) (by decide) ?_
      refine vs_iadd C d_M_scoreOf_95 ?_
      refine vs_ialdN C d_M_scoreOf_96 rfl ((by rw [hf, ht]; exact ix43 (a + j) f t)) ((by omega)) (by decide) ?_
      refine vs_istore C d_M_scoreOf_97 (by decide) ?_
      refine vs_aload_n C rfl d_M_scoreOf_99 ?_
      refine vs_get C fl_M_46 d_M_scoreOf_100 rfl rfl ?_
      refine vs_iload C rfl d_M_scoreOf_103 ?_
      refine vs_ialdN C d_M_scoreOf_105 rfl (rfl) ((by omega)) (by decide) ?_
      refine vs_iload C rfl d_M_scoreOf_106 ?_
      rw [← hcd]
      have hgo : ∀ w : Int32, w = bsM S x a (j + 1) k → vs_G p l e { frames := 1, cells := 0, slots := 0, locals := 22 } s m args below meth c b D aC 12 Q 0 0 true (vs_mem S) 122 [some (.ref 35), some (.int (nI u)), some (.int (nI a)), some (.int (nI (a + n0))), some (.int x), some (.float sum), some (.int (nI i)), some (.int (nI k)), some (.int w), some (.int op), some (.int (nI (a + j))), some (.int (cdM S (a + j) k))] [] := by
        intro w hw
        subst hw
        refine vs_iinc C d_M_scoreOf_122 rfl (nI_1 (a + j)) (by decide) ?_
        refine vs_goto (tgt := 62) C d_M_scoreOf_125 (by decide) ?_
        exact ih (j + 1) (by omega) (by omega) _
      refine vs_icmp_ne (tgt := 122) C d_M_scoreOf_108 (by decide) (fun h2 => ?_) (fun h2 => ?_)
      · have h2' : ¬ S.1 48 (a + j) = x := h2
        exact hgo _ (if_neg (fun h => h2' (by have := h.1; unfold sP at this; rw [decide_eq_true_eq] at this; exact this))).symm
      · have h2' : S.1 48 (a + j) = x := h2
        refine vs_iload C rfl d_M_scoreOf_111 ?_
        refine vs_iload C rfl d_M_scoreOf_113 ?_
        refine vs_icmp_le (tgt := 122) C d_M_scoreOf_115 (by decide) (fun h3 => ?_) (fun h3 => ?_)
        · exact hgo _ (if_neg (fun h => h.2 h3)).symm
        · refine vs_iload C rfl d_M_scoreOf_118 ?_
          refine vs_istore C d_M_scoreOf_120 (by decide) ?_
          exact hgo _ (if_pos ⟨by unfold sP; rw [decide_eq_true_eq]; exact h2', h3⟩).symm
theorem msc_o (C : vs_X p s m args meth c b D aC "VeilSearchModel" c_M_scoreOf 12) (S : vs_S) (o : Nat → Nat) (u a n0 kq : Nat) (x : Int32) (hu : u < 8) (han : a + n0 ≤ 40) (hk : (S.2.2.2.2.1 35 31) = nI kq) (hk6 : kq ≤ 6) (ho : S.1 56 = fun i => nI (o i)) (hob : ∀ i, i < kq → o i < kq) (hfl : ∀ i, i < kq → (∃ f, f < 3 ∧ S.1 55 i = nI f) ∧ ∃ t, t < 8 ∧ S.1 54 i = nI t) (hok : ∀ i, i < kq → scMK S o u x a n0 i) (K : ∀ o7 o8 o9 o10 o11, vs_G p l e { frames := 1, cells := 0, slots := 0, locals := 22 } s m args below meth c b D aC 12 Q 0 0 true (vs_mem S) 159 [some (.ref 35), some (.int (nI u)), some (.int (nI a)), some (.int (nI (a + n0))), some (.int x), some (.float (scM S o u x a n0 kq)), some (.int (nI kq)), o7, o8, o9, o10, o11] []) : ∀ n i : Nat, i ≤ kq → kq - i < n → ∀ o7 o8 o9 o10 o11, vs_G p l e { frames := 1, cells := 0, slots := 0, locals := 22 } s m args below meth c b D aC 12 Q 0 0 true (vs_mem S) 6 [some (.ref 35), some (.int (nI u)), some (.int (nI a)), some (.int (nI (a + n0))), some (.int x), some (.float (scM S o u x a n0 i)), some (.int (nI i)), o7, o8, o9, o10, o11] [] := by
  intro n
  induction n with
  | zero => intro i _ h; omega
  | succ n ih =>
    intro i hi hn o7 o8 o9 o10 o11
    refine vs_iload C rfl d_M_scoreOf_6 ?_
    refine vs_aload_n C rfl d_M_scoreOf_8 ?_
    refine vs_get C fl_M_146 d_M_scoreOf_9 rfl rfl ?_
    refine vs_icmp_ge (tgt := 159) C d_M_scoreOf_12 (by decide) (fun h1 => ?_) (fun h1 => ?_)
    · have h2 := n_ge (N := kq) (i := i) h1 hk rfl (by omega) (by omega)
      obtain rfl : i = kq := by omega
      exact K _ _ _ _ _
    · have hlt := n_lt (N := kq) (i := i) h1 hk rfl (by omega) (by omega)
      have hko := hob i hlt
      have hoi : S.1 56 i = nI (o i) := by rw [ho]
      have hK := hok i hlt
      have hno : ∀ o7 o8 o9 o10 o11, ¬ (isSM S u (o i) = true ∧ ¬ bsM S x a n0 (o i) ≤ 0) → vs_G p l e { frames := 1, cells := 0, slots := 0, locals := 22 } s m args below meth c b D aC 12 Q 0 0 true (vs_mem S) 153 [some (.ref 35), some (.int (nI u)), some (.int (nI a)), some (.int (nI (a + n0))), some (.int x), some (.float (scM S o u x a n0 i)), some (.int (nI i)), o7, o8, o9, o10, o11] [] := by
        intro o7 o8 o9 o10 o11 h
        refine vs_iinc C d_M_scoreOf_153 rfl (nI_1 i) (by decide) ?_
        refine vs_goto (tgt := 6) C d_M_scoreOf_156 (by decide) ?_
        have := ih (i + 1) (by omega) (by omega) o7 o8 o9 o10 o11
        rw [show scM S o u x a n0 (i + 1) = scM S o u x a n0 i from if_neg h] at this
        exact this
      have hyes : (isSM S u (o i) = true ∧ ¬ bsM S x a n0 (o i) ≤ 0) → ∀ o7 o8 o9 o10 o11, vs_G p l e { frames := 1, cells := 0, slots := 0, locals := 22 } s m args below meth c b D aC 12 Q 0 0 true (vs_mem S) 153 [some (.ref 35), some (.int (nI u)), some (.int (nI a)), some (.int (nI (a + n0))), some (.int x), some (.float (FP.fadd (scM S o u x a n0 i) (woM S x a n0 (o i)))), some (.int (nI i)), o7, o8, o9, o10, o11] [] := by
        intro h o7 o8 o9 o10 o11
        refine vs_iinc C d_M_scoreOf_153 rfl (nI_1 i) (by decide) ?_
        refine vs_goto (tgt := 6) C d_M_scoreOf_156 (by decide) ?_
        have := ih (i + 1) (by omega) (by omega) o7 o8 o9 o10 o11
        rw [show scM S o u x a n0 (i + 1) = FP.fadd (scM S o u x a n0 i) (woM S x a n0 (o i)) from if_pos h] at this
        exact this
      unfold scMK at hK
      generalize scM S o u x a n0 i = sum at hno hyes hK ⊢
      generalize o i = k at hko hoi hno hyes hK
      clear ih K
      obtain ⟨⟨f, hf3, hf⟩, t, ht8, ht⟩ := hfl k hko
      have hop : opMb S u k = decide (¬ S.1 41 u < S.1 40 f) := by
        simp only [opMb, hf, nI_clamp (show f < 2 ^ 31 by omega)]
      refine vs_aload_n C rfl d_M_scoreOf_15 ?_
      refine vs_get C fl_M_71 d_M_scoreOf_16 rfl rfl ?_
      refine vs_iload C rfl d_M_scoreOf_19 ?_
      refine vs_ialdN C d_M_scoreOf_21 rfl (rfl) ((by omega)) (by decide) ?_
      refine vs_st_eq (st2 := [.int (nI k)]) (by rw [← hoi] <;> rfl) ?_
      refine vs_istore C d_M_scoreOf_22 (by decide) ?_
      refine vs_iconst (v := 0) C (by decide) d_M_scoreOf_24 ?_
      refine vs_istore C d_M_scoreOf_25 (by decide) ?_
      refine vs_aload_n C rfl d_M_scoreOf_27 ?_
      refine vs_iload_n C rfl d_M_scoreOf_28 ?_
      refine vs_aload_n C rfl d_M_scoreOf_29 ?_
      refine vs_get C fl_M_68 d_M_scoreOf_30 rfl rfl ?_
      refine vs_iload C rfl d_M_scoreOf_33 ?_
      refine vs_ialdN C d_M_scoreOf_35 rfl (rfl) ((by omega)) (by decide) ?_
      refine vs_st_eq (st2 := [.int (nI f), .int (nI u), .ref 35]) (by rw [← hf] <;> rfl) ?_
      refine vs_cV C (k_M_isOpen l b D aC S u f hu hf3) yk_M_isOpen ml_M_153 im_M_isOpen se_M_isOpen d_M_scoreOf_36 rfl rfl rfl rfl (by exact Nat.le_of_ble_eq_true rfl) (by exact ⟨Nat.le_of_ble_eq_true rfl, Nat.le_of_ble_eq_true rfl⟩) (by exact ⟨Nat.le_of_ble_eq_true rfl, Nat.le_of_ble_eq_true rfl⟩) (fun h => by cases h) ?_
      rw [show b01 (¬ S.1 41 u < S.1 40 f) = b01 (opMb S u k = true) from b01_c (by rw [hop, decide_eq_true_eq])]
      refine vs_istore C d_M_scoreOf_39 (by decide) ?_
      refine vs_aload_n C rfl d_M_scoreOf_41 ?_
      refine vs_get C fl_M_62 d_M_scoreOf_42 rfl rfl ?_
      refine vs_iload C rfl d_M_scoreOf_45 ?_
      refine vs_ialdN C d_M_scoreOf_47 rfl (rfl) ((by omega)) (by decide) ?_
      refine vs_if_ne (tgt := 153) C d_M_scoreOf_48 (by decide) (fun g1 => ?_) (fun g1 => ?_)
      · have g1' : ¬ S.1 53 k = 0 := g1
        exact hno _ _ _ _ _ (fun h => by have := h.1; simp [isSM, g1'] at this)
      · have g1' : S.1 53 k = 0 := g1
        refine vs_iload C rfl d_M_scoreOf_51 ?_
        refine vs_if_ne (tgt := 59) C d_M_scoreOf_53 (by decide) (fun g2 => ?_) (fun g2 => ?_)
        · have hS : isSM S u k = true := by simp [isSM, g1', b01_n g2]
          refine vs_iload_n C rfl d_M_scoreOf_59 ?_
          refine vs_istore C d_M_scoreOf_60 (by decide) ?_
          refine msc_i C S u a n0 i k x sum f t (b01 (opMb S u k = true)) (by omega) han hf3 ht8 hf ht (fun o11 => ?_) (n0 + 1) 0 (Nat.zero_le _) (by omega) _
          refine vs_iload C rfl d_M_scoreOf_128 ?_
          refine vs_if_le (tgt := 153) C d_M_scoreOf_130 (by decide) (fun g3 => ?_) (fun g3 => ?_)
          · exact hno _ _ _ _ _ (fun h => h.2 g3)
          · obtain ⟨q1, q2, q3, q4⟩ := hK hS g3
            refine vs_fload C rfl d_M_scoreOf_133 ?_
            refine vs_aload_n C rfl d_M_scoreOf_135 ?_
            refine vs_get C fl_M_77 d_M_scoreOf_136 rfl rfl ?_
            refine vs_iload C rfl d_M_scoreOf_139 ?_
            refine vs_daldN C d_M_scoreOf_141 rfl (rfl) ((by omega)) (by decide) ?_
            refine vs_d2f C (q1) d_M_scoreOf_142 ?_
            refine vs_iload C rfl d_M_scoreOf_143 ?_
            refine vs_i2f C d_M_scoreOf_145 ?_
            refine vs_ldcf C w_819 d_M_scoreOf_146 ?_
            refine vs_fdiv C (q2) d_M_scoreOf_148 ?_
            refine vs_fmul C (q3) d_M_scoreOf_149 ?_
            refine vs_fadd C (q4) d_M_scoreOf_150 ?_
            refine vs_fstore C d_M_scoreOf_151 (by decide) ?_
            exact hyes ⟨hS, g3⟩ _ _ _ _ _
        · refine vs_goto (tgt := 153) C d_M_scoreOf_56 (by decide) ?_
          exact hno _ _ _ _ _ (fun h => by have := h.1; have q := b01_0.mp g2; simp [isSM, q] at this)
end MSc
set_option maxRecDepth 100000 in
set_option maxHeartbeats 4000000 in
theorem k_M_scoreOf (l : Launch) (b : Nat) (D : va_G) (aC : Nat → ClassId) (S : vs_S) (o : Nat → Nat) (u a n0 kq : Nat) (x : Int32) (hu : u < 8) (han : a + n0 ≤ 40) (hk : (S.2.2.2.2.1 35 31) = nI kq) (hk6 : kq ≤ 6) (ho : S.1 56 = fun i => nI (o i)) (hob : ∀ i, i < kq → o i < kq) (hfl : ∀ i, i < kq → (∃ f, f < 3 ∧ S.1 55 i = nI f) ∧ ∃ t, t < 8 ∧ S.1 54 i = nI t) (hok : ∀ i, i < kq → scMK S o u x a n0 i) : vs_M l b D aC false true y_M_scoreOf (.code y_M_scoreOf c_M_scoreOf 12 (Option.some Jvm.ClassFile.FieldType.float)) { frames := 1, cells := 0, slots := 0, locals := 22 } [.ref 35, .int (nI u), .int (nI a), .int (nI (a + n0)), .int x] (vs_mem S) (vs_ret (some (.float (scM S o u x a n0 kq))) (vs_mem S)) := by
  refine vs_M.of (by decide) (Nat.le_of_ble_eq_true rfl) ?_
  intro p e s m args below meth c C hmn hr hx htg
  generalize hQ : vs_E below args s b D aC false true (vs_ret (some (.float (scM S o u x a n0 kq))) (vs_mem S)) { frames := 1, cells := 0, slots := 0, locals := 22 } = Q
  refine vs_fconst0 C d_M_scoreOf_0 ?_
  refine vs_fstore C d_M_scoreOf_1 (by decide) ?_
  refine vs_iconst (v := 0) C (by decide) d_M_scoreOf_3 ?_
  refine vs_istore C d_M_scoreOf_4 (by decide) ?_
  refine msc_o C S o u a n0 kq x hu han hk hk6 ho hob hfl hok (fun o7 o8 o9 o10 o11 => ?_) (kq + 1) 0 (Nat.zero_le _) (by omega) _ _ _ _ _
  refine vs_fload C rfl d_M_scoreOf_159 ?_
  subst hQ
  exact vs_fret C hr d_M_scoreOf_161 ⟨Nat.le_of_ble_eq_true rfl, Nat.le_of_ble_eq_true rfl⟩ (fun h => by cases h) (by first | exact (fun _ => rfl) | exact (fun h => by cases h)) (⟨rfl, rfl⟩)

