/-- places from j up to i moved down by one -/
def sh {α : Type} (f : Nat → α) (j i : Nat) : Nat → α := fun q => if j ≤ q ∧ q < i then f (q + 1) else f q
theorem sh_0 {α : Type} (f : Nat → α) (j : Nat) : sh f j j = f := by
  funext q
  simp only [sh]
  rw [if_neg (by omega)]
theorem sh_i {f : Nat → Int32} {j i : Nat} (h : j ≤ i) : upd (sh f j i) i (sh f j i (i + 1)) = sh f j (i + 1) := by
  funext q
  simp only [sh, upd]
  by_cases h1 : q = i
  · subst h1
    rw [if_pos rfl, if_neg (by omega), if_pos (by omega)]
  · rw [if_neg h1]
    by_cases h2 : j ≤ q ∧ q < i
    · rw [if_pos h2, if_pos (by omega)]
    · rw [if_neg h2, if_neg (by omega)]
theorem sh_l {f : Nat → Int64} {j i : Nat} (h : j ≤ i) : vp_updL (sh f j i) i (sh f j i (i + 1)) = sh f j (i + 1) := by
  funext q
  simp only [sh, vp_updL]
  by_cases h1 : q = i
  · subst h1
    rw [if_pos rfl, if_neg (by omega), if_pos (by omega)]
  · rw [if_neg h1]
    by_cases h2 : j ≤ q ∧ q < i
    · rw [if_pos h2, if_pos (by omega)]
    · rw [if_neg h2, if_neg (by omega)]
def fApp (S : vs_S) (k : Nat) (x u : Int32) (ids : Int64) : vs_S := vs_ui (vs_uL (vs_uI (vs_uI S 7 (upd (S.1 7) k x)) 8 (upd (S.1 8) k u)) 9 (vp_updL (S.2.1 9) k ids)) 6 3 ((S.2.2.2.2.1 6 3) + 1)
set_option maxRecDepth 100000 in
set_option maxHeartbeats 4000000 in
theorem k_F_append (l : Launch) (b : Nat) (D : va_G) (aC : Nat → ClassId) (S : vs_S) (k : Nat) (x u : Int32) (ids : Int64) (hk : (S.2.2.2.2.1 6 3) = nI k) (hk5 : k < 5) : vs_M l b D aC false false y_F_append (.code y_F_append c_F_append 5 (Option.none : Option Jvm.ClassFile.FieldType)) { frames := 0, cells := 0, slots := 0, locals := 0 } [.ref 6, .int x, .int u, .long ids] (vs_mem S) (vs_ret none (vs_mem (fApp S k x u ids))) := by
  refine vs_M.of (by decide) (Nat.le_of_ble_eq_true rfl) ?_
  intro p e s m args below meth c C hmn hr hx htg
  generalize hQ : vs_E below args s b D aC false false (vs_ret none (vs_mem (fApp S k x u ids))) { frames := 0, cells := 0, slots := 0, locals := 0 } = Q
  refine vs_aload_n C rfl d_F_append_0 ?_
  refine vs_get C fl_F_9 d_F_append_1 rfl rfl ?_
  refine vs_aload_n C rfl d_F_append_4 ?_
  refine vs_get C fl_F_22 d_F_append_5 rfl rfl ?_
  refine vs_iload_n C rfl d_F_append_8 ?_
  refine vs_iastN C d_F_append_9 rfl (hk) (hk5) (by decide) ?_
  refine vs_aload_n C rfl d_F_append_10 ?_
  refine vs_get C fl_F_15 d_F_append_11 rfl rfl ?_
  refine vs_aload_n C rfl d_F_append_14 ?_
  refine vs_get C fl_F_22 d_F_append_15 rfl rfl ?_
  refine vs_iload_n C rfl d_F_append_18 ?_
  refine vs_iastN C d_F_append_19 rfl (hk) (hk5) (by decide) ?_
  refine vs_aload_n C rfl d_F_append_20 ?_
  refine vs_get C fl_F_18 d_F_append_21 rfl rfl ?_
  refine vs_aload_n C rfl d_F_append_24 ?_
  refine vs_get C fl_F_22 d_F_append_25 rfl rfl ?_
  refine vs_lload_n C rfl d_F_append_28 ?_
  refine vs_lastN C d_F_append_29 rfl (hk) (hk5) (by decide) ?_
  refine vs_aload_n C rfl d_F_append_30 ?_
  refine vs_dup C rfl d_F_append_31 ?_
  refine vs_get C fl_F_22 d_F_append_32 rfl rfl ?_
  refine vs_iconst (v := 1) C (by decide) d_F_append_35 ?_
  refine vs_iadd C d_F_append_36 ?_
  refine vs_put C fl_F_22 d_F_append_37 rfl rfl rfl (Nat.le_of_ble_eq_true rfl) ?_
  subst hQ
  exact vs_vret C hr d_F_append_40 ⟨Nat.le_of_ble_eq_true rfl, Nat.le_of_ble_eq_true rfl⟩ (fun h => by cases h) (by first | exact (fun _ => rfl) | exact (fun h => by cases h)) (⟨rfl, rfl⟩)
def fSh (S : vs_S) (j i : Nat) : vs_S := vs_uL (vs_uI (vs_uI S 7 (sh (S.1 7) j i)) 8 (sh (S.1 8) j i)) 9 (sh (S.2.1 9) j i)
def fDrop (S : vs_S) (j k : Nat) : vs_S := vs_ui (fSh S j (k - 1)) 6 3 ((S.2.2.2.2.1 6 3) - 1)
theorem fSh_0 (S : vs_S) (j : Nat) : vs_mem (fSh S j j) = vs_mem S := by
  have : fSh S j j = vs_uL (vs_uI (vs_uI S 7 (S.1 7)) 8 (S.1 8)) 9 (S.2.1 9) := by
    simp only [fSh, sh_0]
  rw [this]
  rfl
section Drop
variable {p : Program} {l : Launch} {e : Env} {R : Room} {s : State} {m : MethodId} {args : Array Value} {below : List Frame} {meth : Method} {c : Code} {b : Nat} {D : va_G} {aC : Nat → ClassId} {Q : State → Prop} {kc ks : Nat} {ck : Bool}
theorem drop_l (C : vs_X p s m args meth c b D aC "VeilSearch$Filters" c_F_drop 3) (S : vs_S) (k j : Nat) (hk : (S.2.2.2.2.1 6 3) = nI k) (hk5 : k ≤ 5) (hj : j < k) (K : vs_G p l e R s m args below meth c b D aC 3 Q kc ks ck (vs_mem (fSh S j (k - 1))) 60 [some (.ref 6), some (.int (nI j)), some (.int (nI (k - 1)))] []) (hck : ck = false) : ∀ n i : Nat, j ≤ i → i ≤ k - 1 → k - 1 - i < n → vs_G p l e R s m args below meth c b D aC 3 Q kc ks ck (vs_mem (fSh S j i)) 2 [some (.ref 6), some (.int (nI j)), some (.int (nI i))] [] := by
  subst hck
  intro n
  induction n with
  | zero => intro i _ _ h; omega
  | succ n ih =>
    intro i hji hi hn
    have hs : (S.2.2.2.2.1 6 3) - 1 = nI (k - 1) := by
      rw [hk]
      exact pk_sub (a := k) (b := 1) (by omega)
    refine vs_iload_n C rfl d_F_drop_2 ?_
    refine vs_aload_n C rfl d_F_drop_3 ?_
    refine vs_get C fl_F_22 d_F_drop_4 rfl rfl ?_
    refine vs_iconst (v := 1) C (by decide) d_F_drop_7 ?_
    refine vs_isub C d_F_drop_8 ?_
    refine vs_icmp_ge (tgt := 60) C d_F_drop_9 (by decide) (fun h1 => ?_) (fun h1 => ?_)
    · have h2 := n_ge (N := k - 1) (i := i) h1 hs rfl (by omega) (by omega)
      obtain rfl : i = k - 1 := by omega
      exact K
    · have hlt := n_lt (N := k - 1) (i := i) h1 hs rfl (by omega) (by omega)
      refine vs_aload_n C rfl d_F_drop_12 ?_
      refine vs_get C fl_F_9 d_F_drop_13 rfl rfl ?_
      refine vs_iload_n C rfl d_F_drop_16 ?_
      refine vs_aload_n C rfl d_F_drop_17 ?_
      refine vs_get C fl_F_9 d_F_drop_18 rfl rfl ?_
      refine vs_iload_n C rfl d_F_drop_21 ?_
      refine vs_iconst (v := 1) C (by decide) d_F_drop_22 ?_
      refine vs_iadd C d_F_drop_23 ?_
      refine vs_ialdN C d_F_drop_24 rfl (nI_1 i) ((by omega)) (by decide) ?_
      refine vs_iastN C d_F_drop_25 rfl (rfl) ((by omega)) (by decide) ?_
      refine vs_aload_n C rfl d_F_drop_26 ?_
      refine vs_get C fl_F_15 d_F_drop_27 rfl rfl ?_
      refine vs_iload_n C rfl d_F_drop_30 ?_
      refine vs_aload_n C rfl d_F_drop_31 ?_
      refine vs_get C fl_F_15 d_F_drop_32 rfl rfl ?_
      refine vs_iload_n C rfl d_F_drop_35 ?_
      refine vs_iconst (v := 1) C (by decide) d_F_drop_36 ?_
      refine vs_iadd C d_F_drop_37 ?_
      refine vs_ialdN C d_F_drop_38 rfl (nI_1 i) ((by omega)) (by decide) ?_
      refine vs_iastN C d_F_drop_39 rfl (rfl) ((by omega)) (by decide) ?_
      refine vs_aload_n C rfl d_F_drop_40 ?_
      refine vs_get C fl_F_18 d_F_drop_41 rfl rfl ?_
      refine vs_iload_n C rfl d_F_drop_44 ?_
      refine vs_aload_n C rfl d_F_drop_45 ?_
      refine vs_get C fl_F_18 d_F_drop_46 rfl rfl ?_
      refine vs_iload_n C rfl d_F_drop_49 ?_
      refine vs_iconst (v := 1) C (by decide) d_F_drop_50 ?_
      refine vs_iadd C d_F_drop_51 ?_
      refine vs_laldN C d_F_drop_52 rfl (nI_1 i) ((by omega)) (by decide) ?_
      refine vs_lastN C d_F_drop_53 rfl (rfl) ((by omega)) (by decide) ?_
      refine vs_iinc C d_F_drop_54 rfl (nI_1 i) (by decide) ?_
      refine vs_goto (tgt := 2) C d_F_drop_57 (by decide) ?_
      have := ih (i + 1) (by omega) (by omega) (by omega)
      refine vs_mem_eq ?_ this
      show vs_mem (fSh S j (i + 1)) = vs_mem (vs_uL (vs_uI (vs_uI S 7 (upd (sh (S.1 7) j i) i (sh (S.1 7) j i (i + 1)))) 8 (upd (sh (S.1 8) j i) i (sh (S.1 8) j i (i + 1)))) 9 (vp_updL (sh (S.2.1 9) j i) i (sh (S.2.1 9) j i (i + 1))))
      rw [sh_i hji, sh_i hji, sh_l hji]
      rfl
end Drop
set_option maxRecDepth 100000 in
set_option maxHeartbeats 4000000 in
theorem k_F_drop (l : Launch) (b : Nat) (D : va_G) (aC : Nat → ClassId) (S : vs_S) (k j : Nat) (hk : (S.2.2.2.2.1 6 3) = nI k) (hk5 : k ≤ 5) (hj : j < k) : vs_M l b D aC false false y_F_drop (.code y_F_drop c_F_drop 3 (Option.none : Option Jvm.ClassFile.FieldType)) { frames := 0, cells := 0, slots := 0, locals := 0 } [.ref 6, .int (nI j)] (vs_mem S) (vs_ret none (vs_mem (fDrop S j k))) := by
  refine vs_M.of (by decide) (Nat.le_of_ble_eq_true rfl) ?_
  intro p e s m args below meth c C hmn hr hx htg
  generalize hQ : vs_E below args s b D aC false false (vs_ret none (vs_mem (fDrop S j k))) { frames := 0, cells := 0, slots := 0, locals := 0 } = Q
  refine vs_iload_n C rfl d_F_drop_0 ?_
  refine vs_istore_n C d_F_drop_1 (by decide) ?_
  refine vs_ck (vs_mem_eq (fSh_0 S j) (drop_l C S k j hk hk5 hj ?_ rfl (k + 1) j (Nat.le_refl _) (by omega) (by omega)))
  refine vs_aload_n C rfl d_F_drop_60 ?_
  refine vs_dup C rfl d_F_drop_61 ?_
  refine vs_get C fl_F_22 d_F_drop_62 rfl rfl ?_
  refine vs_iconst (v := 1) C (by decide) d_F_drop_65 ?_
  refine vs_isub C d_F_drop_66 ?_
  refine vs_put C fl_F_22 d_F_drop_67 rfl rfl rfl (Nat.le_of_ble_eq_true rfl) ?_
  subst hQ
  exact vs_vret C hr d_F_drop_70 ⟨Nat.le_of_ble_eq_true rfl, Nat.le_of_ble_eq_true rfl⟩ (fun h => by cases h) (by first | exact (fun _ => rfl) | exact (fun h => by cases h)) (⟨rfl, rfl⟩)
/-- the first place with (x, u) below n -/
def pl (f g : Nat → Int32) (x u : Int32) : Nat → Option Nat
  | 0 => none
  | n + 1 => match pl f g x u n with
    | some i => some i
    | none => if f n = x ∧ g n = u then some n else none
def plV (o : Option Nat) : Int32 := match o with
  | some i => nI i
  | none => -1
theorem pl_none {f g : Nat → Int32} {x u : Int32} : ∀ {n : Nat}, pl f g x u n = none ↔ ∀ i, i < n → ¬ (f i = x ∧ g i = u)
  | 0 => ⟨(fun _ i h => by omega), fun _ => rfl⟩
  | n + 1 => by
    simp only [pl]
    cases hp : pl f g x u n with
    | some j =>
      have h1 : ¬ ∀ i, i < n → ¬ (f i = x ∧ g i = u) := fun h => by rw [pl_none.mpr h] at hp; cases hp
      exact ⟨(fun h => by cases h), fun h => absurd (fun i hi => h i (by omega)) h1⟩
    | none =>
      have h1 := pl_none.mp hp
      by_cases hc : f n = x ∧ g n = u
      · simp only [if_pos hc]
        exact ⟨(fun h => by cases h), fun h => absurd hc (h n (by omega))⟩
      · simp only [if_neg hc]
        refine ⟨fun _ i hi => ?_, fun _ => trivial⟩
        rcases Nat.lt_or_ge i n with h | h
        · exact h1 i h
        · have : i = n := by omega
          subst this
          exact hc
theorem pl_some {f g : Nat → Int32} {x u : Int32} : ∀ {n i : Nat}, pl f g x u n = some i ↔ i < n ∧ (f i = x ∧ g i = u) ∧ ∀ j, j < i → ¬ (f j = x ∧ g j = u)
  | 0, i => ⟨(fun h => by cases h), fun h => by omega⟩
  | n + 1, i => by
    simp only [pl]
    cases hp : pl f g x u n with
    | some j =>
      have h1 := pl_some.mp hp
      constructor
      · intro h
        cases h
        exact ⟨by omega, h1.2⟩
      · rintro ⟨h2, h3, h4⟩
        have : i = j := by
          rcases Nat.lt_trichotomy i j with h | h | h
          · exact absurd h3 (h1.2.2 i h)
          · exact h
          · exact absurd h1.2.1 (h4 j h)
        rw [this]
    | none =>
      have h1 := pl_none.mp hp
      by_cases hc : f n = x ∧ g n = u
      · simp only [if_pos hc, Option.some.injEq]
        constructor
        · rintro rfl
          exact ⟨by omega, hc, h1⟩
        · rintro ⟨h2, h3, h4⟩
          rcases Nat.lt_or_ge i n with h | h
          · exact absurd h3 (h1 i h)
          · omega
      · simp only [if_neg hc]
        constructor
        · intro h; cases h
        · rintro ⟨h2, h3, h4⟩
          rcases Nat.lt_or_ge i n with h | h
          · exact absurd h3 (h1 i h)
          · have : i = n := by omega
            subst this
            exact absurd h3 hc
section Place
variable {p : Program} {l : Launch} {e : Env} {R : Room} {s : State} {m : MethodId} {args : Array Value} {below : List Frame} {meth : Method} {c : Code} {b : Nat} {D : va_G} {aC : Nat → ClassId} {Q : State → Prop} {kc ks : Nat} {ck : Bool}
theorem place_l (C : vs_X p s m args meth c b D aC "VeilSearch$Filters" c_F_placeOf 4) (S : vs_S) (x u : Int32) (k : Nat) (hk : (S.2.2.2.2.1 6 3) = nI k) (hk5 : k ≤ 5) (K1 : ∀ i : Nat, pl (S.1 7) (S.1 8) x u k = some i → vs_G p l e R s m args below meth c b D aC 4 Q kc ks ck (vs_mem S) 31 [some (.ref 6), some (.int x), some (.int u), some (.int (nI i))] [.int (nI i)]) (K0 : pl (S.1 7) (S.1 8) x u k = none → vs_G p l e R s m args below meth c b D aC 4 Q kc ks ck (vs_mem S) 38 [some (.ref 6), some (.int x), some (.int u), some (.int (nI k))] []) : ∀ n i : Nat, i ≤ k → k - i < n → pl (S.1 7) (S.1 8) x u i = none → vs_G p l e R s m args below meth c b D aC 4 Q kc ks ck (vs_mem S) 2 [some (.ref 6), some (.int x), some (.int u), some (.int (nI i))] [] := by
  intro n
  induction n with
  | zero => intro i _ h; omega
  | succ n ih =>
    intro i hi hn hh
    refine vs_iload_n C rfl d_F_placeOf_2 ?_
    refine vs_aload_n C rfl d_F_placeOf_3 ?_
    refine vs_get C fl_F_22 d_F_placeOf_4 rfl rfl ?_
    refine vs_icmp_ge (tgt := 38) C d_F_placeOf_7 (by decide) (fun h1 => ?_) (fun h1 => ?_)
    · have h2 := n_ge (N := k) (i := i) h1 hk rfl (by omega) (by omega)
      obtain rfl : i = k := by omega
      exact K0 hh
    · have hlt := n_lt (N := k) (i := i) h1 hk rfl (by omega) (by omega)
      refine vs_aload_n C rfl d_F_placeOf_10 ?_
      refine vs_get C fl_F_9 d_F_placeOf_11 rfl rfl ?_
      refine vs_iload_n C rfl d_F_placeOf_14 ?_
      refine vs_ialdN C d_F_placeOf_15 rfl (rfl) ((by omega)) (by decide) ?_
      refine vs_iload_n C rfl d_F_placeOf_16 ?_
      refine vs_icmp_ne (tgt := 32) C d_F_placeOf_17 (by decide) (fun h2 => ?_) (fun h2 => ?_)
      · refine vs_iinc C d_F_placeOf_32 rfl (nI_1 i) (by decide) ?_
        refine vs_goto (tgt := 2) C d_F_placeOf_35 (by decide) ?_
        exact ih (i + 1) (by omega) (by omega) (by simp [pl, hh, h2])
      · refine vs_aload_n C rfl d_F_placeOf_20 ?_
        refine vs_get C fl_F_15 d_F_placeOf_21 rfl rfl ?_
        refine vs_iload_n C rfl d_F_placeOf_24 ?_
        refine vs_ialdN C d_F_placeOf_25 rfl (rfl) ((by omega)) (by decide) ?_
        refine vs_iload_n C rfl d_F_placeOf_26 ?_
        refine vs_icmp_ne (tgt := 32) C d_F_placeOf_27 (by decide) (fun h3 => ?_) (fun h3 => ?_)
        · refine vs_iinc C d_F_placeOf_32 rfl (nI_1 i) (by decide) ?_
          refine vs_goto (tgt := 2) C d_F_placeOf_35 (by decide) ?_
          exact ih (i + 1) (by omega) (by omega) (by simp [pl, hh, h3])
        · refine vs_iload_n C rfl d_F_placeOf_30 ?_
          exact K1 i (pl_some.mpr ⟨hlt, ⟨h2, h3⟩, pl_none.mp hh⟩)
end Place
set_option maxRecDepth 100000 in
set_option maxHeartbeats 4000000 in
theorem k_F_placeOf (l : Launch) (b : Nat) (D : va_G) (aC : Nat → ClassId) (S : vs_S) (x u : Int32) (k : Nat) (hk : (S.2.2.2.2.1 6 3) = nI k) (hk5 : k ≤ 5) : vs_M l b D aC false true y_F_placeOf (.code y_F_placeOf c_F_placeOf 4 (Option.some Jvm.ClassFile.FieldType.int)) { frames := 0, cells := 0, slots := 0, locals := 0 } [.ref 6, .int x, .int u] (vs_mem S) (vs_ret (some (.int (plV (pl (S.1 7) (S.1 8) x u k)))) (vs_mem S)) := by
  refine vs_M.of (by decide) (Nat.le_of_ble_eq_true rfl) ?_
  intro p e s m args below meth c C hmn hr hx htg
  generalize hQ : vs_E below args s b D aC false true (vs_ret (some (.int (plV (pl (S.1 7) (S.1 8) x u k)))) (vs_mem S)) { frames := 0, cells := 0, slots := 0, locals := 0 } = Q
  refine vs_iconst (v := 0) C (by decide) d_F_placeOf_0 ?_
  refine vs_istore_n C d_F_placeOf_1 (by decide) ?_
  refine place_l C S x u k hk hk5 (fun i h => ?_) (fun h => ?_) (k + 1) 0 (Nat.zero_le _) (by omega) rfl
  · subst hQ
    exact vs_iret C hr d_F_placeOf_31 ⟨Nat.le_of_ble_eq_true rfl, Nat.le_of_ble_eq_true rfl⟩ (fun h => by cases h) (by first | exact (fun _ => rfl) | exact (fun h => by cases h)) (vs_rti (by rw [h]; rfl))
  · refine vs_iconst (v := (-1)) C (by decide) d_F_placeOf_38 ?_
    subst hQ
    exact vs_iret C hr d_F_placeOf_39 ⟨Nat.le_of_ble_eq_true rfl, Nat.le_of_ble_eq_true rfl⟩ (fun h => by cases h) (by first | exact (fun _ => rfl) | exact (fun h => by cases h)) (vs_rti (by rw [h]; rfl))
def fRe (S : vs_S) (j k : Nat) : vs_S := vs_ui (fApp (fDrop S j k) (k - 1) (S.1 7 j) (S.1 8 j) (S.2.1 9 j)) 6 5 ((S.2.2.2.2.1 6 5) + 1)
theorem fDrop_kept {S : vs_S} {j k : Nat} (hk : (S.2.2.2.2.1 6 3) = nI k) (h : 0 < k) : ((fDrop S j k).2.2.2.2.1 6 3) = nI (k - 1) := by
  show (S.2.2.2.2.1 6 3) - 1 = nI (k - 1)
  rw [hk]
  exact pk_sub (a := k) (b := 1) (by omega)
set_option maxRecDepth 100000 in
set_option maxHeartbeats 4000000 in
theorem k_F_reuse (l : Launch) (b : Nat) (D : va_G) (aC : Nat → ClassId) (S : vs_S) (k j : Nat) (hk : (S.2.2.2.2.1 6 3) = nI k) (hk5 : k ≤ 5) (hj : j < k) : vs_M l b D aC false false y_F_reuse (.code y_F_reuse c_F_reuse 6 (Option.some Jvm.ClassFile.FieldType.long)) { frames := 1, cells := 0, slots := 0, locals := 24 } [.ref 6, .int (nI j)] (vs_mem S) (vs_ret (some (.long (S.2.1 9 j))) (vs_mem (fRe S j k))) := by
  refine vs_M.of (by decide) (Nat.le_of_ble_eq_true rfl) ?_
  intro p e s m args below meth c C hmn hr hx htg
  generalize hQ : vs_E below args s b D aC false false (vs_ret (some (.long (S.2.1 9 j))) (vs_mem (fRe S j k))) { frames := 1, cells := 0, slots := 0, locals := 24 } = Q
  refine vs_aload_n C rfl d_F_reuse_0 ?_
  refine vs_get C fl_F_9 d_F_reuse_1 rfl rfl ?_
  refine vs_iload_n C rfl d_F_reuse_4 ?_
  refine vs_ialdN C d_F_reuse_5 rfl (rfl) ((by omega)) (by decide) ?_
  refine vs_istore_n C d_F_reuse_6 (by decide) ?_
  refine vs_aload_n C rfl d_F_reuse_7 ?_
  refine vs_get C fl_F_15 d_F_reuse_8 rfl rfl ?_
  refine vs_iload_n C rfl d_F_reuse_11 ?_
  refine vs_ialdN C d_F_reuse_12 rfl (rfl) ((by omega)) (by decide) ?_
  refine vs_istore_n C d_F_reuse_13 (by decide) ?_
  refine vs_aload_n C rfl d_F_reuse_14 ?_
  refine vs_get C fl_F_18 d_F_reuse_15 rfl rfl ?_
  refine vs_iload_n C rfl d_F_reuse_18 ?_
  refine vs_laldN C d_F_reuse_19 rfl (rfl) ((by omega)) (by decide) ?_
  refine vs_lstore C d_F_reuse_20 (by decide) ?_
  refine vs_aload_n C rfl d_F_reuse_22 ?_
  refine vs_iload_n C rfl d_F_reuse_23 ?_
  refine vs_cV C (k_F_drop l b D aC S k j hk hk5 hj) yk_F_drop ml_F_32 im_F_drop se_F_drop d_F_reuse_24 rfl rfl rfl rfl (by exact Nat.le_of_ble_eq_true rfl) (by exact ⟨Nat.le_of_ble_eq_true rfl, Nat.le_of_ble_eq_true rfl⟩) (by exact ⟨Nat.le_of_ble_eq_true rfl, Nat.le_of_ble_eq_true rfl⟩) (fun h => by cases h) ?_
  refine vs_aload_n C rfl d_F_reuse_27 ?_
  refine vs_iload_n C rfl d_F_reuse_28 ?_
  refine vs_iload_n C rfl d_F_reuse_29 ?_
  refine vs_lload C rfl d_F_reuse_30 ?_
  refine vs_cV C (k_F_append l b D aC (fDrop S j k) (k - 1) (S.1 7 j) (S.1 8 j) (S.2.1 9 j) (fDrop_kept hk (by omega)) (by omega)) yk_F_append ml_F_36 im_F_append se_F_append d_F_reuse_32 rfl rfl rfl rfl (by exact Nat.le_of_ble_eq_true rfl) (by exact ⟨Nat.le_of_ble_eq_true rfl, Nat.le_of_ble_eq_true rfl⟩) (by exact ⟨Nat.le_of_ble_eq_true rfl, Nat.le_of_ble_eq_true rfl⟩) (fun h => by cases h) ?_
  refine vs_aload_n C rfl d_F_reuse_35 ?_
  refine vs_dup C rfl d_F_reuse_36 ?_
  refine vs_get C fl_F_29 d_F_reuse_37 rfl rfl ?_
  refine vs_iconst (v := 1) C (by decide) d_F_reuse_40 ?_
  refine vs_iadd C d_F_reuse_41 ?_
  refine vs_put C fl_F_29 d_F_reuse_42 rfl rfl rfl (Nat.le_of_ble_eq_true rfl) ?_
  refine vs_lload C rfl d_F_reuse_45 ?_
  subst hQ
  exact vs_lret C hr d_F_reuse_47 ⟨Nat.le_of_ble_eq_true rfl, Nat.le_of_ble_eq_true rfl⟩ (fun h => by cases h) (by first | exact (fun _ => rfl) | exact (fun h => by cases h)) (⟨rfl, rfl⟩)
def fNew (S : vs_S) (k : Nat) (x u : Int32) (ids : Int64) : vs_S := if k = 5 then vs_ui (fApp (fDrop S 0 5) 4 x u ids) 6 4 ((S.2.2.2.2.1 6 4) + 1) else vs_ui (fApp S k x u ids) 6 4 ((S.2.2.2.2.1 6 4) + 1)
set_option maxRecDepth 100000 in
set_option maxHeartbeats 4000000 in
theorem k_F_keepNew (l : Launch) (b : Nat) (D : va_G) (aC : Nat → ClassId) (S : vs_S) (k : Nat) (x u : Int32) (ids : Int64) (hk : (S.2.2.2.2.1 6 3) = nI k) (hk5 : k ≤ 5) : vs_M l b D aC false false y_F_keepNew (.code y_F_keepNew c_F_keepNew 5 (Option.none : Option Jvm.ClassFile.FieldType)) { frames := 1, cells := 0, slots := 0, locals := 24 } [.ref 6, .int x, .int u, .long ids] (vs_mem S) (vs_ret none (vs_mem (fNew S k x u ids))) := by
  refine vs_M.of (by decide) (Nat.le_of_ble_eq_true rfl) ?_
  intro p e s m args below meth c C hmn hr hx htg
  generalize hQ : vs_E below args s b D aC false false (vs_ret none (vs_mem (fNew S k x u ids))) { frames := 1, cells := 0, slots := 0, locals := 24 } = Q
  refine vs_aload_n C rfl d_F_keepNew_0 ?_
  refine vs_get C fl_F_22 d_F_keepNew_1 rfl rfl ?_
  refine vs_iconst (v := 5) C (by decide) d_F_keepNew_4 ?_
  refine vs_icmp_ne (tgt := 13) C d_F_keepNew_5 (by decide) (fun h1 => ?_) (fun h1 => ?_)
  · have hne : ¬ k = 5 := fun h => h1 (by rw [hk, h]; rfl)
    rw [show fNew S k x u ids = vs_ui (fApp S k x u ids) 6 4 ((S.2.2.2.2.1 6 4) + 1) from if_neg hne] at hQ
    refine vs_aload_n C rfl d_F_keepNew_13 ?_
    refine vs_iload_n C rfl d_F_keepNew_14 ?_
    refine vs_iload_n C rfl d_F_keepNew_15 ?_
    refine vs_lload_n C rfl d_F_keepNew_16 ?_
    refine vs_cV C (k_F_append l b D aC S k x u ids hk (by omega)) yk_F_append ml_F_36 im_F_append se_F_append d_F_keepNew_17 rfl rfl rfl rfl (by exact Nat.le_of_ble_eq_true rfl) (by exact ⟨Nat.le_of_ble_eq_true rfl, Nat.le_of_ble_eq_true rfl⟩) (by exact ⟨Nat.le_of_ble_eq_true rfl, Nat.le_of_ble_eq_true rfl⟩) (fun h => by cases h) ?_
    refine vs_aload_n C rfl d_F_keepNew_20 ?_
    refine vs_dup C rfl d_F_keepNew_21 ?_
    refine vs_get C fl_F_26 d_F_keepNew_22 rfl rfl ?_
    refine vs_iconst (v := 1) C (by decide) d_F_keepNew_25 ?_
    refine vs_iadd C d_F_keepNew_26 ?_
    refine vs_put C fl_F_26 d_F_keepNew_27 rfl rfl rfl (Nat.le_of_ble_eq_true rfl) ?_
    subst hQ
    exact vs_vret C hr d_F_keepNew_30 ⟨Nat.le_of_ble_eq_true rfl, Nat.le_of_ble_eq_true rfl⟩ (fun h => by cases h) (by first | exact (fun _ => rfl) | exact (fun h => by cases h)) (⟨rfl, rfl⟩)
  · obtain rfl : k = 5 := (nI_eq (by omega) (by decide)).mp (hk.symm.trans h1)
    refine vs_aload_n C rfl d_F_keepNew_8 ?_
    refine vs_iconst (v := 0) C (by decide) d_F_keepNew_9 ?_
    refine vs_cV C (k_F_drop l b D aC S 5 0 hk (by decide) (by decide)) yk_F_drop ml_F_32 im_F_drop se_F_drop d_F_keepNew_10 rfl rfl rfl rfl (by exact Nat.le_of_ble_eq_true rfl) (by exact ⟨Nat.le_of_ble_eq_true rfl, Nat.le_of_ble_eq_true rfl⟩) (by exact ⟨Nat.le_of_ble_eq_true rfl, Nat.le_of_ble_eq_true rfl⟩) (fun h => by cases h) ?_
    refine vs_aload_n C rfl d_F_keepNew_13 ?_
    refine vs_iload_n C rfl d_F_keepNew_14 ?_
    refine vs_iload_n C rfl d_F_keepNew_15 ?_
    refine vs_lload_n C rfl d_F_keepNew_16 ?_
    refine vs_cV C (k_F_append l b D aC (fDrop S 0 5) 4 x u ids (fDrop_kept hk (by decide)) (by decide)) yk_F_append ml_F_36 im_F_append se_F_append d_F_keepNew_17 rfl rfl rfl rfl (by exact Nat.le_of_ble_eq_true rfl) (by exact ⟨Nat.le_of_ble_eq_true rfl, Nat.le_of_ble_eq_true rfl⟩) (by exact ⟨Nat.le_of_ble_eq_true rfl, Nat.le_of_ble_eq_true rfl⟩) (fun h => by cases h) ?_
    refine vs_aload_n C rfl d_F_keepNew_20 ?_
    refine vs_dup C rfl d_F_keepNew_21 ?_
    refine vs_get C fl_F_26 d_F_keepNew_22 rfl rfl ?_
    refine vs_iconst (v := 1) C (by decide) d_F_keepNew_25 ?_
    refine vs_iadd C d_F_keepNew_26 ?_
    refine vs_put C fl_F_26 d_F_keepNew_27 rfl rfl rfl (Nat.le_of_ble_eq_true rfl) ?_
    subst hQ
    exact vs_vret C hr d_F_keepNew_30 ⟨Nat.le_of_ble_eq_true rfl, Nat.le_of_ble_eq_true rfl⟩ (fun h => by cases h) (by first | exact (fun _ => rfl) | exact (fun h => by cases h)) (⟨rfl, rfl⟩)
/-- from place i down: what isn't wanted goes -/
def fAll (n : Nat) : Nat → vs_S → vs_S
  | 0, S => S
  | i + 1, S => fAll n i (if has_i (S.1 33) (S.1 7 i) n = true then S else fDrop S i ((S.2.2.2.2.1 6 3)).toNatClampNeg)
theorem dec1 (x : Int32) : x + Int32.ofInt (-1) = x - 1 := by
  rw [Int32.sub_eq_add_neg]
  rfl
section All
variable {p : Program} {l : Launch} {e : Env} {R : Room} {s : State} {m : MethodId} {args : Array Value} {below : List Frame} {meth : Method} {c : Code} {b : Nat} {D : va_G} {aC : Nat → ClassId} {Q : State → Prop} {kc ks : Nat} {ck : Bool}
theorem dropAll_l (C : vs_X p s m args meth c b D aC "VeilSearch$Filters" c_F_dropAllBut 3) (n : Nat) (hn6 : n ≤ 6) : ∀ (i : Nat) (S : vs_S) (k : Nat), (S.2.2.2.2.1 32 2) = nI n → (S.2.2.2.2.1 6 3) = nI k → k ≤ 5 → i ≤ k → vs_G p l e { frames := 1, cells := 0, slots := 0, locals := 22 } s m args below meth c b D aC 3 Q 0 0 false (vs_mem (fAll n i S)) 35 [some (.ref 6), some (.ref 32), some (.int (-1))] [] → vs_G p l e { frames := 1, cells := 0, slots := 0, locals := 22 } s m args below meth c b D aC 3 Q 0 0 false (vs_mem S) 7 [some (.ref 6), some (.ref 32), some (.int (nI i - 1))] [] := by
  intro i
  induction i with
  | zero =>
    intro S k h1 h2 h3 h4 hK
    refine vs_iload_n C rfl d_F_dropAllBut_7 ?_
    refine vs_if_lt (tgt := 35) C d_F_dropAllBut_8 (by decide) (fun h5 => ?_) (fun h5 => ?_)
    · exact hK
    · exact absurd (show (nI 0 - 1 : Int32) < 0 by decide) h5
  | succ i ih =>
    intro S k h1 h2 h3 h4 hK
    have hi : nI (i + 1) - 1 = nI i := nI_pred i
    refine vs_iload_n C rfl d_F_dropAllBut_7 ?_
    refine vs_if_lt (tgt := 35) C d_F_dropAllBut_8 (by decide) (fun h5 => ?_) (fun h5 => ?_)
    · exact absurd h5 (by rw [hi]; exact nI_pos (by omega))
    · refine vs_aload_n C rfl d_F_dropAllBut_11 ?_
      refine vs_aload_n C rfl d_F_dropAllBut_12 ?_
      refine vs_get C fl_F_9 d_F_dropAllBut_13 rfl rfl ?_
      refine vs_iload_n C rfl d_F_dropAllBut_16 ?_
      refine vs_ialdN C d_F_dropAllBut_17 rfl (hi) ((by omega)) (by decide) ?_
      refine vs_cV C (k_S_hasNumber l b D aC S (S.1 7 i) n h1 hn6) yk_S_hasNumber ml_F_40 im_S_hasNumber se_S_hasNumber d_F_dropAllBut_18 rfl rfl rfl rfl (by exact Nat.le_of_ble_eq_true rfl) (by exact ⟨Nat.le_of_ble_eq_true rfl, Nat.le_of_ble_eq_true rfl⟩) (by exact ⟨Nat.le_of_ble_eq_true rfl, Nat.le_of_ble_eq_true rfl⟩) (fun h => by cases h) ?_
      refine vs_if_ne (tgt := 29) C d_F_dropAllBut_21 (by decide) (fun h6 => ?_) (fun h6 => ?_)
      · have hh : has_i (S.1 33) (S.1 7 i) n = true := Decidable.not_not.mp (fun h => h6 (b01_f h))
        refine vs_iinc C d_F_dropAllBut_29 rfl ((show nI (i + 1) - 1 + Int32.ofInt (-1) = nI i - 1 by rw [hi]; exact dec1 _)) (by decide) ?_
        refine vs_goto (tgt := 7) C d_F_dropAllBut_32 (by decide) ?_
        refine vs_ck (ih S k h1 h2 h3 (by omega) ?_)
        have e : fAll n (i + 1) S = fAll n i S := by simp only [fAll, if_pos hh]
        rw [e] at hK
        exact hK
      · have hh : ¬ has_i (S.1 33) (S.1 7 i) n = true := b01_0.mp h6
        refine vs_aload_n C rfl d_F_dropAllBut_24 ?_
        refine vs_iload_n C rfl d_F_dropAllBut_25 ?_
        refine vs_st_eq (st2 := [.int (nI i), .ref 6]) (by rw [← hi]; rfl) ?_
        refine vs_cV C (k_F_drop l b D aC S k i h2 h3 (by omega)) yk_F_drop ml_F_32 im_F_drop se_F_drop d_F_dropAllBut_26 rfl rfl rfl rfl (by exact Nat.le_of_ble_eq_true rfl) (by exact ⟨Nat.le_of_ble_eq_true rfl, Nat.le_of_ble_eq_true rfl⟩) (by exact ⟨Nat.le_of_ble_eq_true rfl, Nat.le_of_ble_eq_true rfl⟩) (fun h => by cases h) ?_
        refine vs_iinc C d_F_dropAllBut_29 rfl ((show nI (i + 1) - 1 + Int32.ofInt (-1) = nI i - 1 by rw [hi]; exact dec1 _)) (by decide) ?_
        refine vs_goto (tgt := 7) C d_F_dropAllBut_32 (by decide) ?_
        refine vs_ck (ih (fDrop S i k) (k - 1) h1 (fDrop_kept h2 (by omega)) (by omega) (by omega) ?_)
        have e : fAll n (i + 1) S = fAll n i (fDrop S i k) := by
          simp only [fAll, if_neg hh, h2, nI_clamp (show k < 2 ^ 31 by omega)]
        rw [e] at hK
        exact hK
end All
set_option maxRecDepth 100000 in
set_option maxHeartbeats 4000000 in
theorem k_F_dropAllBut (l : Launch) (b : Nat) (D : va_G) (aC : Nat → ClassId) (S : vs_S) (n k : Nat) (hn : (S.2.2.2.2.1 32 2) = nI n) (hn6 : n ≤ 6) (hk : (S.2.2.2.2.1 6 3) = nI k) (hk5 : k ≤ 5) : vs_M l b D aC false false y_F_dropAllBut (.code y_F_dropAllBut c_F_dropAllBut 3 (Option.none : Option Jvm.ClassFile.FieldType)) { frames := 1, cells := 0, slots := 0, locals := 22 } [.ref 6, .ref 32] (vs_mem S) (vs_ret none (vs_mem (fAll n k S))) := by
  refine vs_M.of (by decide) (Nat.le_of_ble_eq_true rfl) ?_
  intro p e s m args below meth c C hmn hr hx htg
  generalize hQ : vs_E below args s b D aC false false (vs_ret none (vs_mem (fAll n k S))) { frames := 1, cells := 0, slots := 0, locals := 22 } = Q
  refine vs_aload_n C rfl d_F_dropAllBut_0 ?_
  refine vs_get C fl_F_22 d_F_dropAllBut_1 rfl rfl ?_
  refine vs_iconst (v := 1) C (by decide) d_F_dropAllBut_4 ?_
  refine vs_isub C d_F_dropAllBut_5 ?_
  refine vs_istore_n C d_F_dropAllBut_6 (by decide) ?_
  refine vs_ck (vs_lv_eq (lv2 := [some (.ref 6), some (.ref 32), some (.int (nI k - 1))]) (by rw [← hk]; rfl) (dropAll_l C n hn6 k S k hn hk hk5 (Nat.le_refl _) ?_))
  subst hQ
  exact vs_vret C hr d_F_dropAllBut_35 ⟨Nat.le_of_ble_eq_true rfl, Nat.le_of_ble_eq_true rfl⟩ (fun h => by cases h) (by first | exact (fun _ => rfl) | exact (fun h => by cases h)) (⟨rfl, rfl⟩)

