section MOth
variable {p : Program} {l : Launch} {e : Env} {R : Room} {s : State} {m : MethodId} {args : Array Value} {below : List Frame} {meth : Method} {c : Code} {b : Nat} {D : va_G} {aC : Nat → ClassId} {Q : State → Prop} {kc ks : Nat} {ck : Bool}
theorem moth36 (C : vs_X p s m args meth c b D aC "VeilSearchModel" c_M_isOther 2) (S : vs_S) (K0 : ∀ i : Nat, eqR (S.1 36) (S.1 39) 16 = false → vs_G p l e R s m args below meth c b D aC 2 Q kc ks ck (vs_mem S) 23 [some (.ref 35), some (.int (nI i))] []) (K1 : eqR (S.1 36) (S.1 39) 16 = true → vs_G p l e R s m args below meth c b D aC 2 Q kc ks ck (vs_mem S) 31 [some (.ref 35), some (.int (nI 16))] []) : ∀ n i : Nat, i ≤ 16 → 16 - i < n → eqR (S.1 36) (S.1 39) i = true → vs_G p l e R s m args below meth c b D aC 2 Q kc ks ck (vs_mem S) 2 [some (.ref 35), some (.int (nI i))] [] := by
  intro n
  induction n with
  | zero => intro i _ h; omega
  | succ n ih =>
    intro i hi hn he
    refine vs_iload_n C rfl d_M_isOther_2 ?_
    refine vs_bipush (v := 16) C (by decide) d_M_isOther_3 ?_
    refine vs_icmp_ge (tgt := 31) C d_M_isOther_5 (by decide) (fun h1 => ?_) (fun h1 => ?_)
    · have h2 := n_ge (N := 16) (i := i) h1 rfl rfl (by decide) (by omega)
      obtain rfl : i = 16 := by omega
      exact K1 he
    · have hlt := n_lt (N := 16) (i := i) h1 rfl rfl (by decide) (by omega)
      refine vs_aload_n C rfl d_M_isOther_8 ?_
      refine vs_get C fl_M_7 d_M_isOther_9 rfl rfl ?_
      refine vs_iload_n C rfl d_M_isOther_12 ?_
      refine vs_ialdN C d_M_isOther_13 rfl (rfl) (hlt) (by decide) ?_
      refine vs_aload_n C rfl d_M_isOther_14 ?_
      refine vs_get C fl_M_19 d_M_isOther_15 rfl rfl ?_
      refine vs_iload_n C rfl d_M_isOther_18 ?_
      refine vs_ialdN C d_M_isOther_19 rfl (rfl) (hlt) (by decide) ?_
      refine vs_icmp_eq (tgt := 25) C d_M_isOther_20 (by decide) (fun h3 => ?_) (fun h3 => ?_)
      · refine vs_iinc C d_M_isOther_25 rfl (nI_1 i) (by decide) ?_
        refine vs_goto (tgt := 2) C d_M_isOther_28 (by decide) ?_
        exact ih (i + 1) (by omega) (by omega) (by simp [eqR, he, h3])
      · refine K0 i ?_
        cases hq : eqR (S.1 36) (S.1 39) 16 with
        | false => rfl
        | true => exact absurd (eqR_iff.mp hq i hlt) h3
theorem moth37 (C : vs_X p s m args meth c b D aC "VeilSearchModel" c_M_isOther 2) (S : vs_S) (K0 : ∀ i : Nat, eqR (S.1 37) (S.1 40) 3 = false → vs_G p l e R s m args below meth c b D aC 2 Q kc ks ck (vs_mem S) 53 [some (.ref 35), some (.int (nI i))] []) (K1 : eqR (S.1 37) (S.1 40) 3 = true → vs_G p l e R s m args below meth c b D aC 2 Q kc ks ck (vs_mem S) 61 [some (.ref 35), some (.int (nI 3))] []) : ∀ n i : Nat, i ≤ 3 → 3 - i < n → eqR (S.1 37) (S.1 40) i = true → vs_G p l e R s m args below meth c b D aC 2 Q kc ks ck (vs_mem S) 33 [some (.ref 35), some (.int (nI i))] [] := by
  intro n
  induction n with
  | zero => intro i _ h; omega
  | succ n ih =>
    intro i hi hn he
    refine vs_iload_n C rfl d_M_isOther_33 ?_
    refine vs_iconst (v := 3) C (by decide) d_M_isOther_34 ?_
    refine vs_icmp_ge (tgt := 61) C d_M_isOther_35 (by decide) (fun h1 => ?_) (fun h1 => ?_)
    · have h2 := n_ge (N := 3) (i := i) h1 rfl rfl (by decide) (by omega)
      obtain rfl : i = 3 := by omega
      exact K1 he
    · have hlt := n_lt (N := 3) (i := i) h1 rfl rfl (by decide) (by omega)
      refine vs_aload_n C rfl d_M_isOther_38 ?_
      refine vs_get C fl_M_13 d_M_isOther_39 rfl rfl ?_
      refine vs_iload_n C rfl d_M_isOther_42 ?_
      refine vs_ialdN C d_M_isOther_43 rfl (rfl) (hlt) (by decide) ?_
      refine vs_aload_n C rfl d_M_isOther_44 ?_
      refine vs_get C fl_M_22 d_M_isOther_45 rfl rfl ?_
      refine vs_iload_n C rfl d_M_isOther_48 ?_
      refine vs_ialdN C d_M_isOther_49 rfl (rfl) (hlt) (by decide) ?_
      refine vs_icmp_eq (tgt := 55) C d_M_isOther_50 (by decide) (fun h3 => ?_) (fun h3 => ?_)
      · refine vs_iinc C d_M_isOther_55 rfl (nI_1 i) (by decide) ?_
        refine vs_goto (tgt := 33) C d_M_isOther_58 (by decide) ?_
        exact ih (i + 1) (by omega) (by omega) (by simp [eqR, he, h3])
      · refine K0 i ?_
        cases hq : eqR (S.1 37) (S.1 40) 3 with
        | false => rfl
        | true => exact absurd (eqR_iff.mp hq i hlt) h3
theorem moth38 (C : vs_X p s m args meth c b D aC "VeilSearchModel" c_M_isOther 2) (S : vs_S) (K0 : ∀ i : Nat, eqR (S.1 38) (S.1 41) 8 = false → vs_G p l e R s m args below meth c b D aC 2 Q kc ks ck (vs_mem S) 84 [some (.ref 35), some (.int (nI i))] []) (K1 : eqR (S.1 38) (S.1 41) 8 = true → vs_G p l e R s m args below meth c b D aC 2 Q kc ks ck (vs_mem S) 92 [some (.ref 35), some (.int (nI 8))] []) : ∀ n i : Nat, i ≤ 8 → 8 - i < n → eqR (S.1 38) (S.1 41) i = true → vs_G p l e R s m args below meth c b D aC 2 Q kc ks ck (vs_mem S) 63 [some (.ref 35), some (.int (nI i))] [] := by
  intro n
  induction n with
  | zero => intro i _ h; omega
  | succ n ih =>
    intro i hi hn he
    refine vs_iload_n C rfl d_M_isOther_63 ?_
    refine vs_bipush (v := 8) C (by decide) d_M_isOther_64 ?_
    refine vs_icmp_ge (tgt := 92) C d_M_isOther_66 (by decide) (fun h1 => ?_) (fun h1 => ?_)
    · have h2 := n_ge (N := 8) (i := i) h1 rfl rfl (by decide) (by omega)
      obtain rfl : i = 8 := by omega
      exact K1 he
    · have hlt := n_lt (N := 8) (i := i) h1 rfl rfl (by decide) (by omega)
      refine vs_aload_n C rfl d_M_isOther_69 ?_
      refine vs_get C fl_M_16 d_M_isOther_70 rfl rfl ?_
      refine vs_iload_n C rfl d_M_isOther_73 ?_
      refine vs_ialdN C d_M_isOther_74 rfl (rfl) (hlt) (by decide) ?_
      refine vs_aload_n C rfl d_M_isOther_75 ?_
      refine vs_get C fl_M_25 d_M_isOther_76 rfl rfl ?_
      refine vs_iload_n C rfl d_M_isOther_79 ?_
      refine vs_ialdN C d_M_isOther_80 rfl (rfl) (hlt) (by decide) ?_
      refine vs_icmp_eq (tgt := 86) C d_M_isOther_81 (by decide) (fun h3 => ?_) (fun h3 => ?_)
      · refine vs_iinc C d_M_isOther_86 rfl (nI_1 i) (by decide) ?_
        refine vs_goto (tgt := 63) C d_M_isOther_89 (by decide) ?_
        exact ih (i + 1) (by omega) (by omega) (by simp [eqR, he, h3])
      · refine K0 i ?_
        cases hq : eqR (S.1 38) (S.1 41) 8 with
        | false => rfl
        | true => exact absurd (eqR_iff.mp hq i hlt) h3
end MOth
def sameM (S : vs_S) : Bool := eqR (S.1 36) (S.1 39) 16 && (eqR (S.1 37) (S.1 40) 3 && eqR (S.1 38) (S.1 41) 8)
set_option maxRecDepth 100000 in
set_option maxHeartbeats 4000000 in
theorem k_M_isOther (l : Launch) (b : Nat) (D : va_G) (aC : Nat → ClassId) (S : vs_S)  : vs_M l b D aC false true y_M_isOther (.code y_M_isOther c_M_isOther 2 (Option.some Jvm.ClassFile.FieldType.boolean)) { frames := 0, cells := 0, slots := 0, locals := 0 } [.ref 35] (vs_mem S) (vs_ret (some (.int (b01 (¬ sameM S = true)))) (vs_mem S)) := by
  refine vs_M.of (by decide) (Nat.le_of_ble_eq_true rfl) ?_
  intro p e s m args below meth c C hmn hr hx htg
  generalize hQ : vs_E below args s b D aC false true (vs_ret (some (.int (b01 (¬ sameM S = true)))) (vs_mem S)) { frames := 0, cells := 0, slots := 0, locals := 0 } = Q
  refine vs_iconst (v := 0) C (by decide) d_M_isOther_0 ?_
  refine vs_istore_n C d_M_isOther_1 (by decide) ?_
  refine moth36 C S (fun i h => ?_) (fun ha => ?_) 17 0 (by decide) (by decide) rfl
  · refine vs_iconst (v := 1) C (by decide) d_M_isOther_23 ?_
    subst hQ
    exact vs_zret C hr (by first | rfl | exact nr01) d_M_isOther_24 ⟨Nat.le_of_ble_eq_true rfl, Nat.le_of_ble_eq_true rfl⟩ (fun h => by cases h) (by first | exact (fun _ => rfl) | exact (fun h => by cases h)) (vs_rti (b01_t (by unfold sameM; rw [h]; simp)).symm)
  · refine vs_iconst (v := 0) C (by decide) d_M_isOther_31 ?_
    refine vs_istore_n C d_M_isOther_32 (by decide) ?_
    refine moth37 C S (fun i h => ?_) (fun hb => ?_) 4 0 (by decide) (by decide) rfl
    · refine vs_iconst (v := 1) C (by decide) d_M_isOther_53 ?_
      subst hQ
      exact vs_zret C hr (by first | rfl | exact nr01) d_M_isOther_54 ⟨Nat.le_of_ble_eq_true rfl, Nat.le_of_ble_eq_true rfl⟩ (fun h => by cases h) (by first | exact (fun _ => rfl) | exact (fun h => by cases h)) (vs_rti (b01_t (by unfold sameM; rw [h, ha]; simp)).symm)
    · refine vs_iconst (v := 0) C (by decide) d_M_isOther_61 ?_
      refine vs_istore_n C d_M_isOther_62 (by decide) ?_
      refine moth38 C S (fun i h => ?_) (fun hc => ?_) 9 0 (by decide) (by decide) rfl
      · refine vs_iconst (v := 1) C (by decide) d_M_isOther_84 ?_
        subst hQ
        exact vs_zret C hr (by first | rfl | exact nr01) d_M_isOther_85 ⟨Nat.le_of_ble_eq_true rfl, Nat.le_of_ble_eq_true rfl⟩ (fun h => by cases h) (by first | exact (fun _ => rfl) | exact (fun h => by cases h)) (vs_rti (b01_t (by unfold sameM; rw [h, ha, hb]; decide)).symm)
      · refine vs_iconst (v := 0) C (by decide) d_M_isOther_92 ?_
        subst hQ
        exact vs_zret C hr (by first | rfl | exact nr01) d_M_isOther_93 ⟨Nat.le_of_ble_eq_true rfl, Nat.le_of_ble_eq_true rfl⟩ (fun h => by cases h) (by first | exact (fun _ => rfl) | exact (fun h => by cases h)) (vs_rti (b01_f (by unfold sameM; rw [hc, ha, hb]; decide)).symm)
section MShown
variable {p : Program} {l : Launch} {e : Env} {R : Room} {s : State} {m : MethodId} {args : Array Value} {below : List Frame} {meth : Method} {c : Code} {b : Nat} {D : va_G} {aC : Nat → ClassId} {Q : State → Prop} {kc ks : Nat} {ck : Bool}
theorem mshown (C : vs_X p s m args meth c b D aC "VeilSearchModel" c_M_isShown 3) (S : vs_S) (x : Int32) (k : Nat) (hk : (S.2.2.2.2.1 35 29) = nI k) (hk6 : k ≤ 6) (K1 : ∀ i : Nat, has_i (S.1 52) x k = true → vs_G p l e R s m args below meth c b D aC 3 Q kc ks ck (vs_mem S) 20 [some (.ref 35), some (.int x), some (.int (nI i))] []) (K0 : has_i (S.1 52) x k = false → vs_G p l e R s m args below meth c b D aC 3 Q kc ks ck (vs_mem S) 28 [some (.ref 35), some (.int x), some (.int (nI k))] []) : ∀ n i : Nat, i ≤ k → k - i < n → has_i (S.1 52) x i = false → vs_G p l e R s m args below meth c b D aC 3 Q kc ks ck (vs_mem S) 2 [some (.ref 35), some (.int x), some (.int (nI i))] [] := by
  intro n
  induction n with
  | zero => intro i _ h; omega
  | succ n ih =>
    intro i hi hn hf
    refine vs_iload_n C rfl d_M_isShown_2 ?_
    refine vs_aload_n C rfl d_M_isShown_3 ?_
    refine vs_get C fl_M_128 d_M_isShown_4 rfl rfl ?_
    refine vs_icmp_ge (tgt := 28) C d_M_isShown_7 (by decide) (fun h1 => ?_) (fun h1 => ?_)
    · have h2 := n_ge (N := k) (i := i) h1 hk rfl (by omega) (by omega)
      obtain rfl : i = k := by omega
      exact K0 hf
    · have hlt := n_lt (N := k) (i := i) h1 hk rfl (by omega) (by omega)
      refine vs_aload_n C rfl d_M_isShown_10 ?_
      refine vs_get C fl_M_59 d_M_isShown_11 rfl rfl ?_
      refine vs_iload_n C rfl d_M_isShown_14 ?_
      refine vs_ialdN C d_M_isShown_15 rfl (rfl) ((by omega)) (by decide) ?_
      refine vs_iload_n C rfl d_M_isShown_16 ?_
      refine vs_icmp_ne (tgt := 22) C d_M_isShown_17 (by decide) (fun h2 => ?_) (fun h2 => ?_)
      · refine vs_iinc C d_M_isShown_22 rfl (nI_1 i) (by decide) ?_
        refine vs_goto (tgt := 2) C d_M_isShown_25 (by decide) ?_
        refine ih (i + 1) (by omega) (by omega) ?_
        cases hq : has_i (S.1 52) x (i + 1) with
        | false => rfl
        | true =>
          obtain ⟨j, hj, e⟩ := has_i_iff.mp hq
          rcases Nat.lt_or_ge j i with h | h
          · have := has_i_iff.mpr ⟨j, h, e⟩
            rw [hf] at this
            exact absurd this (by decide)
          · obtain rfl : j = i := by omega
            exact absurd e h2
      · exact K1 i (has_i_iff.mpr ⟨i, hlt, h2⟩)
end MShown
set_option maxRecDepth 100000 in
set_option maxHeartbeats 4000000 in
theorem k_M_isShown (l : Launch) (b : Nat) (D : va_G) (aC : Nat → ClassId) (S : vs_S) (x : Int32) (k : Nat) (hk : (S.2.2.2.2.1 35 29) = nI k) (hk6 : k ≤ 6) : vs_M l b D aC false true y_M_isShown (.code y_M_isShown c_M_isShown 3 (Option.some Jvm.ClassFile.FieldType.boolean)) { frames := 0, cells := 0, slots := 0, locals := 0 } [.ref 35, .int x] (vs_mem S) (vs_ret (some (.int (b01 (has_i (S.1 52) x k = true)))) (vs_mem S)) := by
  refine vs_M.of (by decide) (Nat.le_of_ble_eq_true rfl) ?_
  intro p e s m args below meth c C hmn hr hx htg
  generalize hQ : vs_E below args s b D aC false true (vs_ret (some (.int (b01 (has_i (S.1 52) x k = true)))) (vs_mem S)) { frames := 0, cells := 0, slots := 0, locals := 0 } = Q
  refine vs_iconst (v := 0) C (by decide) d_M_isShown_0 ?_
  refine vs_istore_n C d_M_isShown_1 (by decide) ?_
  refine mshown C S x k hk hk6 (fun i h => ?_) (fun h => ?_) (k + 1) 0 (Nat.zero_le _) (by omega) rfl
  · refine vs_iconst (v := 1) C (by decide) d_M_isShown_20 ?_
    subst hQ
    exact vs_zret C hr (by first | rfl | exact nr01) d_M_isShown_21 ⟨Nat.le_of_ble_eq_true rfl, Nat.le_of_ble_eq_true rfl⟩ (fun h => by cases h) (by first | exact (fun _ => rfl) | exact (fun h => by cases h)) (vs_rti (b01_t h).symm)
  · refine vs_iconst (v := 0) C (by decide) d_M_isShown_28 ?_
    subst hQ
    exact vs_zret C hr (by first | rfl | exact nr01) d_M_isShown_29 ⟨Nat.le_of_ble_eq_true rfl, Nat.le_of_ble_eq_true rfl⟩ (fun h => by cases h) (by first | exact (fun _ => rfl) | exact (fun h => by cases h)) (vs_rti (b01_f (by rw [h]; decide)).symm)
def mfSh (S : vs_S) (j i : Nat) : vs_S := vs_uI (vs_uI (vs_uI S 60 (sh (S.1 60) j i)) 61 (sh (S.1 61) j i)) 62 (sh (S.1 62) j i)
def mfD (S : vs_S) (j k : Nat) : vs_S := mfSh (vs_ui S 35 35 (nI (k - 1))) j (k - 1)
theorem mfSh_0 (S : vs_S) (j : Nat) : vs_mem (mfSh S j j) = vs_mem S := by
  have : mfSh S j j = vs_uI (vs_uI (vs_uI S 60 (S.1 60)) 61 (S.1 61)) 62 (S.1 62) := by
    simp only [mfSh, sh_0]
  rw [this]
  rfl
section MDrop
variable {p : Program} {l : Launch} {e : Env} {R : Room} {s : State} {m : MethodId} {args : Array Value} {below : List Frame} {meth : Method} {c : Code} {b : Nat} {D : va_G} {aC : Nat → ClassId} {Q : State → Prop} {kc ks : Nat} {ck : Bool}
theorem mdrop (C : vs_X p s m args meth c b D aC "VeilSearchModel" c_M_drop 3) (S : vs_S) (k j : Nat) (hk : (S.2.2.2.2.1 35 35) = nI k) (hk5 : k < 5) (hj : j ≤ k) (K : vs_G p l e { frames := 0, cells := 0, slots := 0, locals := 0 } s m args below meth c b D aC 3 Q 0 0 false (vs_mem (mfSh S j k)) 68 [some (.ref 35), some (.int (nI j)), some (.int (nI k))] []) : ∀ n i : Nat, j ≤ i → i ≤ k → k - i < n → vs_G p l e { frames := 0, cells := 0, slots := 0, locals := 0 } s m args below meth c b D aC 3 Q 0 0 false (vs_mem (mfSh S j i)) 12 [some (.ref 35), some (.int (nI j)), some (.int (nI i))] [] := by
  intro n
  induction n with
  | zero => intro i _ _ h; omega
  | succ n ih =>
    intro i hji hi hn
    refine vs_iload_n C rfl d_M_drop_12 ?_
    refine vs_aload_n C rfl d_M_drop_13 ?_
    refine vs_get C fl_M_131 d_M_drop_14 rfl rfl ?_
    refine vs_icmp_ge (tgt := 68) C d_M_drop_17 (by decide) (fun h1 => ?_) (fun h1 => ?_)
    · have h2 := n_ge (N := k) (i := i) h1 hk rfl (by omega) (by omega)
      obtain rfl : i = k := by omega
      exact K
    · have hlt := n_lt (N := k) (i := i) h1 hk rfl (by omega) (by omega)
      refine vs_aload_n C rfl d_M_drop_20 ?_
      refine vs_get C fl_M_85 d_M_drop_21 rfl rfl ?_
      refine vs_iload_n C rfl d_M_drop_24 ?_
      refine vs_aload_n C rfl d_M_drop_25 ?_
      refine vs_get C fl_M_85 d_M_drop_26 rfl rfl ?_
      refine vs_iload_n C rfl d_M_drop_29 ?_
      refine vs_iconst (v := 1) C (by decide) d_M_drop_30 ?_
      refine vs_iadd C d_M_drop_31 ?_
      refine vs_ialdN C d_M_drop_32 rfl (nI_1 i) ((by omega)) (by decide) ?_
      refine vs_iastN C d_M_drop_33 rfl (rfl) ((by omega)) (by decide) ?_
      refine vs_aload_n C rfl d_M_drop_34 ?_
      refine vs_get C fl_M_88 d_M_drop_35 rfl rfl ?_
      refine vs_iload_n C rfl d_M_drop_38 ?_
      refine vs_aload_n C rfl d_M_drop_39 ?_
      refine vs_get C fl_M_88 d_M_drop_40 rfl rfl ?_
      refine vs_iload_n C rfl d_M_drop_43 ?_
      refine vs_iconst (v := 1) C (by decide) d_M_drop_44 ?_
      refine vs_iadd C d_M_drop_45 ?_
      refine vs_ialdN C d_M_drop_46 rfl (nI_1 i) ((by omega)) (by decide) ?_
      refine vs_iastN C d_M_drop_47 rfl (rfl) ((by omega)) (by decide) ?_
      refine vs_aload_n C rfl d_M_drop_48 ?_
      refine vs_get C fl_M_91 d_M_drop_49 rfl rfl ?_
      refine vs_iload_n C rfl d_M_drop_52 ?_
      refine vs_aload_n C rfl d_M_drop_53 ?_
      refine vs_get C fl_M_91 d_M_drop_54 rfl rfl ?_
      refine vs_iload_n C rfl d_M_drop_57 ?_
      refine vs_iconst (v := 1) C (by decide) d_M_drop_58 ?_
      refine vs_iadd C d_M_drop_59 ?_
      refine vs_ialdN C d_M_drop_60 rfl (nI_1 i) ((by omega)) (by decide) ?_
      refine vs_iastN C d_M_drop_61 rfl (rfl) ((by omega)) (by decide) ?_
      refine vs_iinc C d_M_drop_62 rfl (nI_1 i) (by decide) ?_
      refine vs_goto (tgt := 12) C d_M_drop_65 (by decide) ?_
      have := ih (i + 1) (by omega) (by omega) (by omega)
      refine vs_mem_eq ?_ this
      show vs_mem (mfSh S j (i + 1)) = vs_mem (vs_uI (vs_uI (vs_uI S 60 (upd (sh (S.1 60) j i) i (sh (S.1 60) j i (i + 1)))) 61 (upd (sh (S.1 61) j i) i (sh (S.1 61) j i (i + 1)))) 62 (upd (sh (S.1 62) j i) i (sh (S.1 62) j i (i + 1))))
      rw [sh_i hji, sh_i hji, sh_i hji]
      rfl
end MDrop
set_option maxRecDepth 100000 in
set_option maxHeartbeats 4000000 in
theorem k_M_drop (l : Launch) (b : Nat) (D : va_G) (aC : Nat → ClassId) (S : vs_S) (k j : Nat) (hk : (S.2.2.2.2.1 35 35) = nI k) (hk5 : k ≤ 5) (hj : j < k) : vs_M l b D aC false false y_M_drop (.code y_M_drop c_M_drop 3 (Option.none : Option Jvm.ClassFile.FieldType)) { frames := 0, cells := 0, slots := 0, locals := 0 } [.ref 35, .int (nI j)] (vs_mem S) (vs_ret none (vs_mem (mfD S j k))) := by
  refine vs_M.of (by decide) (Nat.le_of_ble_eq_true rfl) ?_
  intro p e s m args below meth c C hmn hr hx htg
  generalize hQ : vs_E below args s b D aC false false (vs_ret none (vs_mem (mfD S j k))) { frames := 0, cells := 0, slots := 0, locals := 0 } = Q
  refine vs_aload_n C rfl d_M_drop_0 ?_
  refine vs_dup C rfl d_M_drop_1 ?_
  refine vs_get C fl_M_131 d_M_drop_2 rfl rfl ?_
  refine vs_iconst (v := 1) C (by decide) d_M_drop_5 ?_
  refine vs_isub C d_M_drop_6 ?_
  refine vs_st_eq (st2 := [.int (nI (k - 1)), .ref 35]) (by rw [← pk_sub (a := k) (b := 1) (by omega), ← hk]; rfl) ?_
  refine vs_put C fl_M_131 d_M_drop_7 rfl rfl rfl (Nat.le_of_ble_eq_true rfl) ?_
  refine vs_iload_n C rfl d_M_drop_10 ?_
  refine vs_istore_n C d_M_drop_11 (by decide) ?_
  refine vs_mem_eq (mem2 := vs_mem (mfSh (vs_ui S 35 35 (nI (k - 1))) j j)) (by rw [mfSh_0]; rfl) (vs_ck (mdrop C (vs_ui S 35 35 (nI (k - 1))) (k - 1) j rfl (by omega) (by omega) ?_ (k + 1) j (Nat.le_refl _) (by omega) (by omega)))
  subst hQ
  exact vs_vret C hr d_M_drop_68 ⟨Nat.le_of_ble_eq_true rfl, Nat.le_of_ble_eq_true rfl⟩ (fun h => by cases h) (by first | exact (fun _ => rfl) | exact (fun h => by cases h)) (⟨rfl, rfl⟩)
def cpI (f g : Nat → Int32) (n : Nat) : Nat → Int32 := fun d => if d < n then f d else g d
theorem cpI_0 (f g : Nat → Int32) : cpI f g 0 = g := by
  funext d
  exact if_neg (by omega)
theorem cpI_s (f g : Nat → Int32) (i : Nat) : upd (cpI f g i) i (f i) = cpI f g (i + 1) := by
  funext d
  simp only [upd, cpI]
  by_cases h1 : d = i
  · subst h1
    rw [if_pos rfl, if_pos (by omega)]
  · rw [if_neg h1]
    by_cases h2 : d < i
    · rw [if_pos h2, if_pos (by omega)]
    · rw [if_neg h2, if_neg (by omega)]
theorem cpI_at (f g : Nat → Int32) (i : Nat) : cpI f g (i + 1) i = f i := if_pos (by omega)
def ra (S : vs_S) (i : Nat) : vs_S := vs_uI S 52 (cpI (S.1 51) (S.1 52) i)
def rb (S : vs_S) (i : Nat) : vs_S := vs_uI (vs_uI S 48 (cpI (S.1 47) (S.1 48) i)) 50 (cpI (S.1 49) (S.1 50) i)
def liv (S : vs_S) (d : Nat) : Bool := decide (¬ S.1 47 d < 0) && decide (S.1 49 d = 0)
section MRef
variable {p : Program} {l : Launch} {e : Env} {R : Room} {s : State} {m : MethodId} {args : Array Value} {below : List Frame} {meth : Method} {c : Code} {b : Nat} {D : va_G} {aC : Nat → ClassId} {Q : State → Prop} {kc ks : Nat} {ck : Bool}
theorem mrf_a (C : vs_X p s m args meth c b D aC "VeilSearchModel" c_M_refresh 5) (S : vs_S) (o : Int32) (kn : Nat) (hkn : (S.2.2.2.2.1 35 28) = nI kn) (hkn6 : kn ≤ 6) (K : vs_G p l e { frames := 1, cells := 0, slots := 0, locals := 22 } s m args below meth c b D aC 5 Q 0 0 false (vs_mem (ra S kn)) 46 [some (.ref 35), some (.int o), some (.int (nI kn)), none, none] []) : ∀ n i : Nat, i ≤ kn → kn - i < n → vs_G p l e { frames := 1, cells := 0, slots := 0, locals := 22 } s m args below meth c b D aC 5 Q 0 0 false (vs_mem (ra S i)) 20 [some (.ref 35), some (.int o), some (.int (nI i)), none, none] [] := by
  intro n
  induction n with
  | zero => intro i _ h; omega
  | succ n ih =>
    intro i hi hn
    refine vs_iload_n C rfl d_M_refresh_20 ?_
    refine vs_aload_n C rfl d_M_refresh_21 ?_
    refine vs_get C fl_M_119 d_M_refresh_22 rfl rfl ?_
    refine vs_icmp_ge (tgt := 46) C d_M_refresh_25 (by decide) (fun h1 => ?_) (fun h1 => ?_)
    · have h2 := n_ge (N := kn) (i := i) h1 hkn rfl (by omega) (by omega)
      obtain rfl : i = kn := by omega
      exact K
    · have hlt := n_lt (N := kn) (i := i) h1 hkn rfl (by omega) (by omega)
      refine vs_aload_n C rfl d_M_refresh_28 ?_
      refine vs_get C fl_M_59 d_M_refresh_29 rfl rfl ?_
      refine vs_iload_n C rfl d_M_refresh_32 ?_
      refine vs_aload_n C rfl d_M_refresh_33 ?_
      refine vs_get C fl_M_56 d_M_refresh_34 rfl rfl ?_
      refine vs_iload_n C rfl d_M_refresh_37 ?_
      refine vs_ialdN C d_M_refresh_38 rfl (rfl) ((by omega)) (by decide) ?_
      refine vs_iastN C d_M_refresh_39 rfl (rfl) ((by omega)) (by decide) ?_
      refine vs_iinc C d_M_refresh_40 rfl (nI_1 i) (by decide) ?_
      refine vs_goto (tgt := 20) C d_M_refresh_43 (by decide) ?_
      refine vs_mem_eq (mem2 := vs_mem (ra S (i + 1))) (by unfold ra; rw [← cpI_s]; rfl) (ih (i + 1) (by omega) (by omega))
theorem mrf_b (C : vs_X p s m args meth c b D aC "VeilSearchModel" c_M_refresh 5) (S : vs_S) (o : Int32) (kd : Nat) (hkd : (S.2.2.2.2.1 35 27) = nI kd) (hkd40 : kd ≤ 40) (h01 : ∀ d, d < kd → vp_nar .boolean (S.1 49 d) = S.1 49 d) (K : vs_G p l e { frames := 1, cells := 0, slots := 0, locals := 22 } s m args below meth c b D aC 5 Q 0 0 false (vs_mem (rb S kd)) 109 [some (.ref 35), some (.int o), some (.int (nI (cn (liv S) kd))), some (.int (nI kd)), none] []) : ∀ n i : Nat, i ≤ kd → kd - i < n → vs_G p l e { frames := 1, cells := 0, slots := 0, locals := 22 } s m args below meth c b D aC 5 Q 0 0 false (vs_mem (rb S i)) 50 [some (.ref 35), some (.int o), some (.int (nI (cn (liv S) i))), some (.int (nI i)), none] [] := by
  intro n
  induction n with
  | zero => intro i _ h; omega
  | succ n ih =>
    intro i hi hn
    refine vs_iload_n C rfl d_M_refresh_50 ?_
    refine vs_aload_n C rfl d_M_refresh_51 ?_
    refine vs_get C fl_M_116 d_M_refresh_52 rfl rfl ?_
    refine vs_icmp_ge (tgt := 109) C d_M_refresh_55 (by decide) (fun h1 => ?_) (fun h1 => ?_)
    · have h2 := n_ge (N := kd) (i := i) h1 hkd rfl (by omega) (by omega)
      obtain rfl : i = kd := by omega
      exact K
    · have hlt := n_lt (N := kd) (i := i) h1 hkd rfl (by omega) (by omega)
      refine vs_aload_n C rfl d_M_refresh_58 ?_
      refine vs_get C fl_M_46 d_M_refresh_59 rfl rfl ?_
      refine vs_iload_n C rfl d_M_refresh_62 ?_
      refine vs_aload_n C rfl d_M_refresh_63 ?_
      refine vs_get C fl_M_43 d_M_refresh_64 rfl rfl ?_
      refine vs_iload_n C rfl d_M_refresh_67 ?_
      refine vs_ialdN C d_M_refresh_68 rfl (rfl) ((by omega)) (by decide) ?_
      refine vs_iastN C d_M_refresh_69 rfl (rfl) ((by omega)) (by decide) ?_
      refine vs_aload_n C rfl d_M_refresh_70 ?_
      refine vs_get C fl_M_53 d_M_refresh_71 rfl rfl ?_
      refine vs_iload_n C rfl d_M_refresh_74 ?_
      refine vs_aload_n C rfl d_M_refresh_75 ?_
      refine vs_get C fl_M_49 d_M_refresh_76 rfl rfl ?_
      refine vs_iload_n C rfl d_M_refresh_79 ?_
      refine vs_zaldN C d_M_refresh_80 rfl (rfl) ((by omega)) (by decide) ?_
      refine vs_zastN C d_M_refresh_81 rfl (rfl) ((by omega)) (by decide) ?_
      refine vs_mem_eq (mem2 := vs_mem (rb S (i + 1))) ?_ ?_
      · unfold rb
        rw [← cpI_s, ← cpI_s, ← h01 i hlt]
        rfl
      · have e1 : (rb S (i + 1)).1 48 i = S.1 47 i := cpI_at _ _ _
        have hgo : ∀ q : Nat, q = cn (liv S) (i + 1) → vs_G p l e { frames := 1, cells := 0, slots := 0, locals := 22 } s m args below meth c b D aC 5 Q 0 0 false (vs_mem (rb S (i + 1))) 103 [some (.ref 35), some (.int o), some (.int (nI q)), some (.int (nI i)), none] [] := by
          intro q hq
          subst hq
          refine vs_iinc C d_M_refresh_103 rfl (nI_1 i) (by decide) ?_
          refine vs_goto (tgt := 50) C d_M_refresh_106 (by decide) ?_
          exact ih (i + 1) (by omega) (by omega)
        refine vs_aload_n C rfl d_M_refresh_82 ?_
        refine vs_get C fl_M_46 d_M_refresh_83 rfl rfl ?_
        refine vs_iload_n C rfl d_M_refresh_86 ?_
        refine vs_ialdN C d_M_refresh_87 rfl (rfl) ((by omega)) (by decide) ?_
        refine vs_if_lt (tgt := 103) C d_M_refresh_88 (by decide) (fun h2 => ?_) (fun h2 => ?_)
        · have h2' : (rb S (i + 1)).1 48 i < 0 := h2
          rw [e1] at h2'
          exact hgo _ (if_neg (by unfold liv; rw [Bool.and_eq_true, decide_eq_true_eq]; exact fun h => h.1 h2')).symm
        · have h2' : ¬ (rb S (i + 1)).1 48 i < 0 := h2
          rw [e1] at h2'
          refine vs_aload_n C rfl d_M_refresh_91 ?_
          refine vs_get C fl_M_49 d_M_refresh_92 rfl rfl ?_
          refine vs_iload_n C rfl d_M_refresh_95 ?_
          refine vs_zaldN C d_M_refresh_96 rfl (rfl) ((by omega)) (by decide) ?_
          refine vs_if_ne (tgt := 103) C d_M_refresh_97 (by decide) (fun h3 => ?_) (fun h3 => ?_)
          · exact hgo _ (if_neg (by unfold liv; rw [Bool.and_eq_true, decide_eq_true_eq, decide_eq_true_eq]; exact fun h => h3 h.2)).symm
          · refine vs_iinc C d_M_refresh_100 rfl (nI_1 (cn (liv S) i)) (by decide) ?_
            exact hgo _ (if_pos (by unfold liv; rw [Bool.and_eq_true, decide_eq_true_eq, decide_eq_true_eq]; exact ⟨h2', h3⟩)).symm
def rc36 (S : vs_S) (i : Nat) : vs_S := vs_uI S 39 (cpI (S.1 36) (S.1 39) i)
theorem mrf36 (C : vs_X p s m args meth c b D aC "VeilSearchModel" c_M_refresh 5) (S : vs_S) (o z : Int32) (K : vs_G p l e { frames := 1, cells := 0, slots := 0, locals := 22 } s m args below meth c b D aC 5 Q 0 0 false (vs_mem (rc36 S 16)) 135 [some (.ref 35), some (.int o), some (.int z), some (.int (nI 16)), none] []) : ∀ n i : Nat, i ≤ 16 → 16 - i < n → vs_G p l e { frames := 1, cells := 0, slots := 0, locals := 22 } s m args below meth c b D aC 5 Q 0 0 false (vs_mem (rc36 S i)) 111 [some (.ref 35), some (.int o), some (.int z), some (.int (nI i)), none] [] := by
  intro n
  induction n with
  | zero => intro i _ h; omega
  | succ n ih =>
    intro i hi hn
    refine vs_iload_n C rfl d_M_refresh_111 ?_
    refine vs_bipush (v := 16) C (by decide) d_M_refresh_112 ?_
    refine vs_icmp_ge (tgt := 135) C d_M_refresh_114 (by decide) (fun h1 => ?_) (fun h1 => ?_)
    · have h2 := n_ge (N := 16) (i := i) h1 rfl rfl (by decide) (by omega)
      obtain rfl : i = 16 := by omega
      exact K
    · have hlt := n_lt (N := 16) (i := i) h1 rfl rfl (by decide) (by omega)
      refine vs_aload_n C rfl d_M_refresh_117 ?_
      refine vs_get C fl_M_19 d_M_refresh_118 rfl rfl ?_
      refine vs_iload_n C rfl d_M_refresh_121 ?_
      refine vs_aload_n C rfl d_M_refresh_122 ?_
      refine vs_get C fl_M_7 d_M_refresh_123 rfl rfl ?_
      refine vs_iload_n C rfl d_M_refresh_126 ?_
      refine vs_ialdN C d_M_refresh_127 rfl (rfl) ((by omega)) (by decide) ?_
      refine vs_iastN C d_M_refresh_128 rfl (rfl) ((by omega)) (by decide) ?_
      refine vs_iinc C d_M_refresh_129 rfl (nI_1 i) (by decide) ?_
      refine vs_goto (tgt := 111) C d_M_refresh_132 (by decide) ?_
      refine vs_mem_eq (mem2 := vs_mem (rc36 S (i + 1))) (by unfold rc36; rw [← cpI_s]; rfl) (ih (i + 1) (by omega) (by omega))
def rc37 (S : vs_S) (i : Nat) : vs_S := vs_uI S 40 (cpI (S.1 37) (S.1 40) i)
theorem mrf37 (C : vs_X p s m args meth c b D aC "VeilSearchModel" c_M_refresh 5) (S : vs_S) (o z : Int32) (K : vs_G p l e { frames := 1, cells := 0, slots := 0, locals := 22 } s m args below meth c b D aC 5 Q 0 0 false (vs_mem (rc37 S 3)) 160 [some (.ref 35), some (.int o), some (.int z), some (.int (nI 3)), none] []) : ∀ n i : Nat, i ≤ 3 → 3 - i < n → vs_G p l e { frames := 1, cells := 0, slots := 0, locals := 22 } s m args below meth c b D aC 5 Q 0 0 false (vs_mem (rc37 S i)) 137 [some (.ref 35), some (.int o), some (.int z), some (.int (nI i)), none] [] := by
  intro n
  induction n with
  | zero => intro i _ h; omega
  | succ n ih =>
    intro i hi hn
    refine vs_iload_n C rfl d_M_refresh_137 ?_
    refine vs_iconst (v := 3) C (by decide) d_M_refresh_138 ?_
    refine vs_icmp_ge (tgt := 160) C d_M_refresh_139 (by decide) (fun h1 => ?_) (fun h1 => ?_)
    · have h2 := n_ge (N := 3) (i := i) h1 rfl rfl (by decide) (by omega)
      obtain rfl : i = 3 := by omega
      exact K
    · have hlt := n_lt (N := 3) (i := i) h1 rfl rfl (by decide) (by omega)
      refine vs_aload_n C rfl d_M_refresh_142 ?_
      refine vs_get C fl_M_22 d_M_refresh_143 rfl rfl ?_
      refine vs_iload_n C rfl d_M_refresh_146 ?_
      refine vs_aload_n C rfl d_M_refresh_147 ?_
      refine vs_get C fl_M_13 d_M_refresh_148 rfl rfl ?_
      refine vs_iload_n C rfl d_M_refresh_151 ?_
      refine vs_ialdN C d_M_refresh_152 rfl (rfl) ((by omega)) (by decide) ?_
      refine vs_iastN C d_M_refresh_153 rfl (rfl) ((by omega)) (by decide) ?_
      refine vs_iinc C d_M_refresh_154 rfl (nI_1 i) (by decide) ?_
      refine vs_goto (tgt := 137) C d_M_refresh_157 (by decide) ?_
      refine vs_mem_eq (mem2 := vs_mem (rc37 S (i + 1))) (by unfold rc37; rw [← cpI_s]; rfl) (ih (i + 1) (by omega) (by omega))
def rc38 (S : vs_S) (i : Nat) : vs_S := vs_uI S 41 (cpI (S.1 38) (S.1 41) i)
theorem mrf38 (C : vs_X p s m args meth c b D aC "VeilSearchModel" c_M_refresh 5) (S : vs_S) (o z : Int32) (K : vs_G p l e { frames := 1, cells := 0, slots := 0, locals := 22 } s m args below meth c b D aC 5 Q 0 0 false (vs_mem (rc38 S 8)) 186 [some (.ref 35), some (.int o), some (.int z), some (.int (nI 8)), none] []) : ∀ n i : Nat, i ≤ 8 → 8 - i < n → vs_G p l e { frames := 1, cells := 0, slots := 0, locals := 22 } s m args below meth c b D aC 5 Q 0 0 false (vs_mem (rc38 S i)) 162 [some (.ref 35), some (.int o), some (.int z), some (.int (nI i)), none] [] := by
  intro n
  induction n with
  | zero => intro i _ h; omega
  | succ n ih =>
    intro i hi hn
    refine vs_iload_n C rfl d_M_refresh_162 ?_
    refine vs_bipush (v := 8) C (by decide) d_M_refresh_163 ?_
    refine vs_icmp_ge (tgt := 186) C d_M_refresh_165 (by decide) (fun h1 => ?_) (fun h1 => ?_)
    · have h2 := n_ge (N := 8) (i := i) h1 rfl rfl (by decide) (by omega)
      obtain rfl : i = 8 := by omega
      exact K
    · have hlt := n_lt (N := 8) (i := i) h1 rfl rfl (by decide) (by omega)
      refine vs_aload_n C rfl d_M_refresh_168 ?_
      refine vs_get C fl_M_25 d_M_refresh_169 rfl rfl ?_
      refine vs_iload_n C rfl d_M_refresh_172 ?_
      refine vs_aload_n C rfl d_M_refresh_173 ?_
      refine vs_get C fl_M_16 d_M_refresh_174 rfl rfl ?_
      refine vs_iload_n C rfl d_M_refresh_177 ?_
      refine vs_ialdN C d_M_refresh_178 rfl (rfl) ((by omega)) (by decide) ?_
      refine vs_iastN C d_M_refresh_179 rfl (rfl) ((by omega)) (by decide) ?_
      refine vs_iinc C d_M_refresh_180 rfl (nI_1 i) (by decide) ?_
      refine vs_goto (tgt := 162) C d_M_refresh_183 (by decide) ?_
      refine vs_mem_eq (mem2 := vs_mem (rc38 S (i + 1))) (by unfold rc38; rw [← cpI_s]; rfl) (ih (i + 1) (by omega) (by omega))
def fAllM (o : Int32) (n : Nat) : Nat → vs_S → vs_S
  | 0, S => S
  | i + 1, S => fAllM o n i (if ¬ o = 0 ∨ ¬ has_i (S.1 52) (S.1 60 i) n = true then mfD S i ((S.2.2.2.2.1 35 35)).toNatClampNeg else S)
theorem mrf_f (C : vs_X p s m args meth c b D aC "VeilSearchModel" c_M_refresh 5) (o z : Int32) (n : Nat) (hn6 : n ≤ 6) : ∀ (i : Nat) (S : vs_S) (k : Nat) (o4 : Option Value), (S.2.2.2.2.1 35 29) = nI n → (S.2.2.2.2.1 35 35) = nI k → k ≤ 5 → i ≤ k → (∀ o4, vs_G p l e { frames := 1, cells := 0, slots := 0, locals := 22 } s m args below meth c b D aC 5 Q 0 0 false (vs_mem (fAllM o n i S)) 229 [some (.ref 35), some (.int o), some (.int z), some (.int (-1)), o4] []) → vs_G p l e { frames := 1, cells := 0, slots := 0, locals := 22 } s m args below meth c b D aC 5 Q 0 0 false (vs_mem S) 193 [some (.ref 35), some (.int o), some (.int z), some (.int (nI i - 1)), o4] [] := by
  intro i
  induction i with
  | zero =>
    intro S k o4 h1 h2 h3 h4 hK
    refine vs_iload_n C rfl d_M_refresh_193 ?_
    refine vs_if_lt (tgt := 229) C d_M_refresh_194 (by decide) (fun h5 => ?_) (fun h5 => ?_)
    · exact hK _
    · exact absurd (show (nI 0 - 1 : Int32) < 0 by decide) h5
  | succ i ih =>
    intro S k o4 h1 h2 h3 h4 hK
    have hi : nI (i + 1) - 1 = nI i := nI_pred i
    simp only [fAllM] at hK
    rw [h2, nI_clamp (show k < 2 ^ 31 by omega)] at hK
    refine vs_iload_n C rfl d_M_refresh_193 ?_
    refine vs_if_lt (tgt := 229) C d_M_refresh_194 (by decide) (fun h5 => ?_) (fun h5 => ?_)
    · exact absurd h5 (by rw [hi]; exact nI_pos (by omega))
    · refine vs_aload_n C rfl d_M_refresh_197 ?_
      refine vs_aload_n C rfl d_M_refresh_198 ?_
      refine vs_get C fl_M_85 d_M_refresh_199 rfl rfl ?_
      refine vs_iload_n C rfl d_M_refresh_202 ?_
      refine vs_ialdN C d_M_refresh_203 rfl (hi) ((by omega)) (by decide) ?_
      refine vs_cV C (k_M_isShown l b D aC S (S.1 60 i) n h1 hn6) yk_M_isShown ml_M_138 im_M_isShown se_M_isShown d_M_refresh_204 rfl rfl rfl rfl (by exact Nat.le_of_ble_eq_true rfl) (by exact ⟨Nat.le_of_ble_eq_true rfl, Nat.le_of_ble_eq_true rfl⟩) (by exact ⟨Nat.le_of_ble_eq_true rfl, Nat.le_of_ble_eq_true rfl⟩) (fun h => by cases h) ?_
      refine vs_istore C d_M_refresh_207 (by decide) ?_
      refine vs_iload_n C rfl d_M_refresh_209 ?_
      have h218 : (¬ o = 0 ∨ ¬ has_i (S.1 52) (S.1 60 i) n = true) → vs_G p l e { frames := 1, cells := 0, slots := 0, locals := 22 } s m args below meth c b D aC 5 Q 0 0 false (vs_mem S) 218 [some (.ref 35), some (.int o), some (.int z), some (.int (nI (i + 1) - 1)), some (.int (b01 (has_i (S.1 52) (S.1 60 i) n = true)))] [] := by
        intro hc
        rw [if_pos hc] at hK
        refine vs_aload_n C rfl d_M_refresh_218 ?_
        refine vs_iload_n C rfl d_M_refresh_219 ?_
        refine vs_st_eq (st2 := [.int (nI i), .ref 35]) (by rw [← hi] <;> rfl) ?_
        refine vs_cV C (k_M_drop l b D aC S k i h2 h3 (by omega)) yk_M_drop ml_M_142 im_M_drop se_M_drop d_M_refresh_220 rfl rfl rfl rfl (by exact Nat.le_of_ble_eq_true rfl) (by exact ⟨Nat.le_of_ble_eq_true rfl, Nat.le_of_ble_eq_true rfl⟩) (by exact ⟨Nat.le_of_ble_eq_true rfl, Nat.le_of_ble_eq_true rfl⟩) (fun h => by cases h) ?_
        refine vs_iinc C d_M_refresh_223 rfl ((show nI (i + 1) - 1 + Int32.ofInt (-1) = nI i - 1 by rw [hi]; exact dec1 _)) (by decide) ?_
        refine vs_goto (tgt := 193) C d_M_refresh_226 (by decide) ?_
        exact vs_ck (ih (mfD S i k) (k - 1) _ h1 rfl (by omega) (by omega) hK)
      refine vs_if_ne (tgt := 218) C d_M_refresh_210 (by decide) (fun h6 => ?_) (fun h6 => ?_)
      · exact h218 (Or.inl h6)
      · refine vs_iload C rfl d_M_refresh_213 ?_
        refine vs_if_ne (tgt := 223) C d_M_refresh_215 (by decide) (fun h7 => ?_) (fun h7 => ?_)
        · have hh : has_i (S.1 52) (S.1 60 i) n = true := b01_n h7
          rw [if_neg (fun h => h.elim (fun q => q h6) (fun q => q hh))] at hK
          refine vs_iinc C d_M_refresh_223 rfl ((show nI (i + 1) - 1 + Int32.ofInt (-1) = nI i - 1 by rw [hi]; exact dec1 _)) (by decide) ?_
          refine vs_goto (tgt := 193) C d_M_refresh_226 (by decide) ?_
          exact vs_ck (ih S k _ h1 h2 h3 (by omega) hK)
        · exact h218 (Or.inr (b01_0.mp h7))
end MRef
def mrfT (S : vs_S) (kn kd : Nat) : vs_S := rc38 (rc37 (rc36 (rb (ra (vs_ui (mTh S 0) 35 29 (nI kn)) kn) kd) 16) 3) 8
set_option maxRecDepth 100000 in
set_option maxHeartbeats 4000000 in
theorem k_M_refresh (l : Launch) (b : Nat) (D : va_G) (aC : Nat → ClassId) (S : vs_S) (kn kd kf : Nat) (hkn : (S.2.2.2.2.1 35 28) = nI kn) (hkn6 : kn ≤ 6) (hkd : (S.2.2.2.2.1 35 27) = nI kd) (hkd40 : kd ≤ 40) (hkf : (S.2.2.2.2.1 35 35) = nI kf) (hkf5 : kf ≤ 5) (h01 : ∀ d, d < kd → vp_nar .boolean (S.1 49 d) = S.1 49 d) : vs_M l b D aC false false y_M_refresh (.code y_M_refresh c_M_refresh 5 (Option.some Jvm.ClassFile.FieldType.int)) { frames := 1, cells := 0, slots := 0, locals := 22 } [.ref 35] (vs_mem S) (vs_ret (some (.int (nI (cn (liv S) kd)))) (vs_mem (fAllM (b01 (¬ sameM S = true)) kn kf (mrfT S kn kd)))) := by
  refine vs_M.of (by decide) (Nat.le_of_ble_eq_true rfl) ?_
  intro p e s m args below meth c C hmn hr hx htg
  generalize hQ : vs_E below args s b D aC false false (vs_ret (some (.int (nI (cn (liv S) kd)))) (vs_mem (fAllM (b01 (¬ sameM S = true)) kn kf (mrfT S kn kd)))) { frames := 1, cells := 0, slots := 0, locals := 22 } = Q
  refine vs_aload_n C rfl d_M_refresh_0 ?_
  refine vs_iconst (v := 0) C (by decide) d_M_refresh_1 ?_
  refine vs_put C fl_M_94 d_M_refresh_2 rfl rfl rfl (Nat.le_of_ble_eq_true rfl) ?_
  refine vs_aload_n C rfl d_M_refresh_5 ?_
  refine vs_mem_eq (mem2 := vs_mem (mTh S 0)) rfl ?_
  refine vs_cV C (k_M_isOther l b D aC (mTh S 0)) yk_M_isOther ml_M_134 im_M_isOther se_M_isOther d_M_refresh_6 rfl rfl rfl rfl (by exact Nat.le_of_ble_eq_true rfl) (by exact ⟨Nat.le_of_ble_eq_true rfl, Nat.le_of_ble_eq_true rfl⟩) (by exact ⟨Nat.le_of_ble_eq_true rfl, Nat.le_of_ble_eq_true rfl⟩) (fun h => by cases h) ?_
  rw [show sameM (mTh S 0) = sameM S from rfl]
  refine vs_istore_n C d_M_refresh_9 (by decide) ?_
  refine vs_aload_n C rfl d_M_refresh_10 ?_
  refine vs_aload_n C rfl d_M_refresh_11 ?_
  refine vs_get C fl_M_119 d_M_refresh_12 rfl rfl ?_
  refine vs_st_eq (st2 := [.int (nI kn), .ref 35]) (by rw [← hkn]; rfl) ?_
  refine vs_put C fl_M_128 d_M_refresh_15 rfl rfl rfl (Nat.le_of_ble_eq_true rfl) ?_
  refine vs_iconst (v := 0) C (by decide) d_M_refresh_18 ?_
  refine vs_istore_n C d_M_refresh_19 (by decide) ?_
  refine vs_mem_eq (mem2 := vs_mem (ra (vs_ui (mTh S 0) 35 29 (nI kn)) 0)) (by unfold ra; rw [cpI_0]; rfl) ?_
  generalize b01 (¬ sameM S = true) = o at hQ ⊢
  refine vs_ck (mrf_a C (vs_ui (mTh S 0) 35 29 (nI kn)) o kn hkn hkn6 ?_ (kn + 1) 0 (Nat.zero_le _) (by omega))
  refine vs_iconst (v := 0) C (by decide) d_M_refresh_46 ?_
  refine vs_istore_n C d_M_refresh_47 (by decide) ?_
  refine vs_iconst (v := 0) C (by decide) d_M_refresh_48 ?_
  refine vs_istore_n C d_M_refresh_49 (by decide) ?_
  refine vs_mem_eq (mem2 := vs_mem (rb (ra (vs_ui (mTh S 0) 35 29 (nI kn)) kn) 0)) (by unfold rb; rw [cpI_0, cpI_0]; rfl) ?_
  refine mrf_b C (ra (vs_ui (mTh S 0) 35 29 (nI kn)) kn) o kd hkd hkd40 h01 ?_ (kd + 1) 0 (Nat.zero_le _) (by omega)
  rw [show cn (liv (ra (vs_ui (mTh S 0) 35 29 (nI kn)) kn)) kd = cn (liv S) kd from rfl]
  generalize nI (cn (liv S) kd) = z at hQ ⊢
  refine vs_iconst (v := 0) C (by decide) d_M_refresh_109 ?_
  refine vs_istore_n C d_M_refresh_110 (by decide) ?_
  refine vs_mem_eq (mem2 := vs_mem (rc36 (rb (ra (vs_ui (mTh S 0) 35 29 (nI kn)) kn) kd) 0)) (by unfold rc36; rw [cpI_0]; rfl) ?_
  refine mrf36 C (rb (ra (vs_ui (mTh S 0) 35 29 (nI kn)) kn) kd) o z ?_ 17 0 (by decide) (by decide)
  refine vs_iconst (v := 0) C (by decide) d_M_refresh_135 ?_
  refine vs_istore_n C d_M_refresh_136 (by decide) ?_
  refine vs_mem_eq (mem2 := vs_mem (rc37 (rc36 (rb (ra (vs_ui (mTh S 0) 35 29 (nI kn)) kn) kd) 16) 0)) (by unfold rc37; rw [cpI_0]; rfl) ?_
  refine mrf37 C (rc36 (rb (ra (vs_ui (mTh S 0) 35 29 (nI kn)) kn) kd) 16) o z ?_ 4 0 (by decide) (by decide)
  refine vs_iconst (v := 0) C (by decide) d_M_refresh_160 ?_
  refine vs_istore_n C d_M_refresh_161 (by decide) ?_
  refine vs_mem_eq (mem2 := vs_mem (rc38 (rc37 (rc36 (rb (ra (vs_ui (mTh S 0) 35 29 (nI kn)) kn) kd) 16) 3) 0)) (by unfold rc38; rw [cpI_0]; rfl) ?_
  refine mrf38 C (rc37 (rc36 (rb (ra (vs_ui (mTh S 0) 35 29 (nI kn)) kn) kd) 16) 3) o z ?_ 9 0 (by decide) (by decide)
  refine vs_aload_n C rfl d_M_refresh_186 ?_
  refine vs_get C fl_M_131 d_M_refresh_187 rfl rfl ?_
  refine vs_iconst (v := 1) C (by decide) d_M_refresh_190 ?_
  refine vs_isub C d_M_refresh_191 ?_
  refine vs_istore_n C d_M_refresh_192 (by decide) ?_
  refine vs_lv_eq (lv2 := [some (.ref 35), some (.int o), some (.int z), some (.int (nI kf - 1)), none]) (by rw [← hkf]; rfl) ?_
  refine mrf_f C o z kn hkn6 kf (mrfT S kn kd) kf none rfl hkf hkf5 (Nat.le_refl _) (fun o4 => ?_)
  refine vs_iload_n C rfl d_M_refresh_229 ?_
  subst hQ
  exact vs_iret C hr d_M_refresh_230 ⟨Nat.le_of_ble_eq_true rfl, Nat.le_of_ble_eq_true rfl⟩ (fun h => by cases h) (by first | exact (fun _ => rfl) | exact (fun h => by cases h)) (⟨rfl, rfl⟩)

