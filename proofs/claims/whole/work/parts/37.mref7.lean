def xM3 (S : vs_S) (n : Nat) (lo ma : Int32) : vs_S := vs_ui (vs_ui (vs_ui S 35 32 (nI n)) 35 33 lo) 35 34 ma
def xM (S : vs_S) (h : hp) (lo ma : Int32) : vs_S := vs_uF (vs_uI (xM3 S h.2.2 lo ma) 57 h.1) 59 h.2.1
def meI (d : Int32) (v : UInt32) : Nat → (Nat → Int32) → (Nat → UInt32) → Nat × (Nat → Int32) × (Nat → UInt32)
  | 0, a, s => (0, a, s)
  | i + 1, a, s => if cmpG (s i) v < 0 ∨ (cmpL (s i) v = 0 ∧ ¬ a i ≤ d) then meI d v i (upd a (i + 1) (a i)) (vf_upd s (i + 1) (s i)) else (i + 1, a, s)
theorem meI_le (d : Int32) (v : UInt32) : ∀ (i : Nat) (a : Nat → Int32) (s : Nat → UInt32), (meI d v i a s).1 ≤ i
  | 0, a, s => Nat.le_refl _
  | i + 1, a, s => by
    simp only [meI]
    by_cases h : cmpG (s i) v < 0 ∨ (cmpL (s i) v = 0 ∧ ¬ a i ≤ d)
    · rw [if_pos h]
      exact Nat.le_succ_of_le (meI_le d v i _ _)
    · rw [if_neg h]
      exact Nat.le_refl _
def mEnt (d : Int32) (v : UInt32) (M : Nat) (h : hp) : hp := (upd (meI d v h.2.2 h.1 h.2.1).2.1 (meI d v h.2.2 h.1 h.2.1).1 d, vf_upd (meI d v h.2.2 h.1 h.2.1).2.2 (meI d v h.2.2 h.1 h.2.1).1 v, if h.2.2 < M then h.2.2 + 1 else h.2.2)
theorem mEnt_le {d : Int32} {v : UInt32} {M : Nat} {h : hp} (hM : h.2.2 ≤ M) : (mEnt d v M h).2.2 ≤ M := by
  show (if h.2.2 < M then h.2.2 + 1 else h.2.2) ≤ M
  split <;> omega
section MEnt
variable {p : Program} {l : Launch} {e : Env} {R : Room} {s : State} {m : MethodId} {args : Array Value} {below : List Frame} {meth : Method} {c : Code} {b : Nat} {D : va_G} {aC : Nat → ClassId} {Q : State → Prop} {kc ks : Nat} {ck : Bool}
theorem ment (C : vs_X p s m args meth c b D aC "VeilSearchModel" c_M_enter 5) (S : vs_S) (d : Int32) (v : UInt32) (M : Int32) : ∀ (i : Nat) (a : Nat → Int32) (sc : Nat → UInt32), i ≤ 8 → vs_G p l e { frames := 0, cells := 0, slots := 0, locals := 0 } s m args below meth c b D aC 5 Q 0 0 false (vs_mem (vs_uF (vs_uI S 57 (meI d v i a sc).2.1) 59 (meI d v i a sc).2.2)) 90 [some (.ref 35), some (.int d), some (.float v), some (.int M), some (.int (nI (meI d v i a sc).1))] [] → vs_G p l e { frames := 0, cells := 0, slots := 0, locals := 0 } s m args below meth c b D aC 5 Q 0 0 false (vs_mem (vs_uF (vs_uI S 57 a) 59 sc)) 6 [some (.ref 35), some (.int d), some (.float v), some (.int M), some (.int (nI i))] [] := by
  intro i
  induction i with
  | zero =>
    intro a sc hi hK
    refine vs_iload C rfl d_M_enter_6 ?_
    refine vs_if_le (tgt := 90) C d_M_enter_8 (by decide) (fun h1 => ?_) (fun h1 => ?_)
    · exact hK
    · exact absurd (Int32.le_refl _) h1
  | succ i ih =>
    intro a sc hi hK
    simp only [meI] at hK
    refine vs_iload C rfl d_M_enter_6 ?_
    refine vs_if_le (tgt := 90) C d_M_enter_8 (by decide) (fun h1 => ?_) (fun h1 => ?_)
    · exact absurd h1 (nI_nle (by omega) (by omega))
    · refine vs_aload_n C rfl d_M_enter_11 ?_
      refine vs_get C fl_M_81 d_M_enter_12 rfl rfl ?_
      refine vs_iload C rfl d_M_enter_15 ?_
      refine vs_iconst (v := 1) C (by decide) d_M_enter_17 ?_
      refine vs_isub C d_M_enter_18 ?_
      refine vs_faldN C d_M_enter_19 rfl (nI_pred i) ((by omega)) (by decide) ?_
      refine vs_fload_n C rfl d_M_enter_20 ?_
      refine vs_fcmp C d_M_enter_21 ?_
      have h52 : (cmpG (sc i) v < 0 ∨ (cmpL (sc i) v = 0 ∧ ¬ a i ≤ d)) → vs_G p l e { frames := 0, cells := 0, slots := 0, locals := 0 } s m args below meth c b D aC 5 Q 0 0 false (vs_mem (vs_uF (vs_uI S 57 a) 59 sc)) 52 [some (.ref 35), some (.int d), some (.float v), some (.int M), some (.int (nI (i + 1)))] [] := by
        intro hc
        rw [if_pos hc] at hK
        refine vs_aload_n C rfl d_M_enter_52 ?_
        refine vs_get C fl_M_81 d_M_enter_53 rfl rfl ?_
        refine vs_iload C rfl d_M_enter_56 ?_
        refine vs_aload_n C rfl d_M_enter_58 ?_
        refine vs_get C fl_M_81 d_M_enter_59 rfl rfl ?_
        refine vs_iload C rfl d_M_enter_62 ?_
        refine vs_iconst (v := 1) C (by decide) d_M_enter_64 ?_
        refine vs_isub C d_M_enter_65 ?_
        refine vs_faldN C d_M_enter_66 rfl (nI_pred i) ((by omega)) (by decide) ?_
        refine vs_fastN C d_M_enter_67 rfl (rfl) ((by omega)) (by decide) ?_
        refine vs_aload_n C rfl d_M_enter_68 ?_
        refine vs_get C fl_M_74 d_M_enter_69 rfl rfl ?_
        refine vs_iload C rfl d_M_enter_72 ?_
        refine vs_aload_n C rfl d_M_enter_74 ?_
        refine vs_get C fl_M_74 d_M_enter_75 rfl rfl ?_
        refine vs_iload C rfl d_M_enter_78 ?_
        refine vs_iconst (v := 1) C (by decide) d_M_enter_80 ?_
        refine vs_isub C d_M_enter_81 ?_
        refine vs_ialdN C d_M_enter_82 rfl (nI_pred i) ((by omega)) (by decide) ?_
        refine vs_iastN C d_M_enter_83 rfl (rfl) ((by omega)) (by decide) ?_
        refine vs_iinc C d_M_enter_84 rfl ((show nI (i + 1) + Int32.ofInt (-1) = nI i by rw [dec1]; exact nI_pred i)) (by decide) ?_
        refine vs_goto (tgt := 6) C d_M_enter_87 (by decide) ?_
        refine vs_mem_eq (mem2 := vs_mem (vs_uF (vs_uI S 57 (upd a (i + 1) (a i))) 59 (vf_upd sc (i + 1) (sc i)))) rfl ?_
        exact ih (upd a (i + 1) (a i)) (vf_upd sc (i + 1) (sc i)) (by omega) hK
      have h90 : ¬ (cmpG (sc i) v < 0 ∨ (cmpL (sc i) v = 0 ∧ ¬ a i ≤ d)) → vs_G p l e { frames := 0, cells := 0, slots := 0, locals := 0 } s m args below meth c b D aC 5 Q 0 0 false (vs_mem (vs_uF (vs_uI S 57 a) 59 sc)) 90 [some (.ref 35), some (.int d), some (.float v), some (.int M), some (.int (nI (i + 1)))] [] := by
        intro hc
        rw [if_neg hc] at hK
        exact hK
      refine vs_if_lt (tgt := 52) C d_M_enter_22 (by decide) (fun h2 => ?_) (fun h2 => ?_)
      · exact h52 (Or.inl h2)
      · refine vs_aload_n C rfl d_M_enter_25 ?_
        refine vs_get C fl_M_81 d_M_enter_26 rfl rfl ?_
        refine vs_iload C rfl d_M_enter_29 ?_
        refine vs_iconst (v := 1) C (by decide) d_M_enter_31 ?_
        refine vs_isub C d_M_enter_32 ?_
        refine vs_faldN C d_M_enter_33 rfl (nI_pred i) ((by omega)) (by decide) ?_
        refine vs_fload_n C rfl d_M_enter_34 ?_
        refine vs_fcmp C d_M_enter_35 ?_
        refine vs_if_ne (tgt := 90) C d_M_enter_36 (by decide) (fun h3 => ?_) (fun h3 => ?_)
        · exact h90 (fun h => h.elim h2 (fun q => h3 q.1))
        · refine vs_aload_n C rfl d_M_enter_39 ?_
          refine vs_get C fl_M_74 d_M_enter_40 rfl rfl ?_
          refine vs_iload C rfl d_M_enter_43 ?_
          refine vs_iconst (v := 1) C (by decide) d_M_enter_45 ?_
          refine vs_isub C d_M_enter_46 ?_
          refine vs_ialdN C d_M_enter_47 rfl (nI_pred i) ((by omega)) (by decide) ?_
          refine vs_iload_n C rfl d_M_enter_48 ?_
          refine vs_icmp_le (tgt := 90) C d_M_enter_49 (by decide) (fun h4 => ?_) (fun h4 => ?_)
          · exact h90 (fun h => h.elim h2 (fun q => q.2 h4))
          · exact h52 (Or.inr ⟨h3, h4⟩)
end MEnt
set_option maxRecDepth 100000 in
set_option maxHeartbeats 4000000 in
theorem k_M_enter (l : Launch) (b : Nat) (D : va_G) (aC : Nat → ClassId) (S : vs_S) (h : hp) (lo ma d : Int32) (v : UInt32) (M : Nat) (hM8 : M ≤ 8) (hh : h.2.2 ≤ M) : vs_M l b D aC false false y_M_enter (.code y_M_enter c_M_enter 5 (Option.none : Option Jvm.ClassFile.FieldType)) { frames := 0, cells := 0, slots := 0, locals := 0 } [.ref 35, .int d, .float v, .int (nI M)] (vs_mem (xM S h lo ma)) (vs_ret none (vs_mem (xM S (mEnt d v M h) lo ma))) := by
  refine vs_M.of (by decide) (Nat.le_of_ble_eq_true rfl) ?_
  intro p e s m args below meth c C hmn hr hx htg
  generalize hQ : vs_E below args s b D aC false false (vs_ret none (vs_mem (xM S (mEnt d v M h) lo ma))) { frames := 0, cells := 0, slots := 0, locals := 0 } = Q
  refine vs_aload_n C rfl d_M_enter_0 ?_
  refine vs_get C fl_M_157 d_M_enter_1 rfl rfl ?_
  refine vs_istore C d_M_enter_4 (by decide) ?_
  refine vs_ck (ment C (xM3 S h.2.2 lo ma) d v (nI M) h.2.2 h.1 h.2.1 (by omega) ?_)
  have hle := meI_le d v h.2.2 h.1 h.2.1
  unfold mEnt at hQ
  generalize meI d v h.2.2 h.1 h.2.1 = r at hQ hle ⊢
  refine vs_aload_n C rfl d_M_enter_90 ?_
  refine vs_get C fl_M_81 d_M_enter_91 rfl rfl ?_
  refine vs_iload C rfl d_M_enter_94 ?_
  refine vs_fload_n C rfl d_M_enter_96 ?_
  refine vs_fastN C d_M_enter_97 rfl (rfl) ((by omega)) (by decide) ?_
  refine vs_aload_n C rfl d_M_enter_98 ?_
  refine vs_get C fl_M_74 d_M_enter_99 rfl rfl ?_
  refine vs_iload C rfl d_M_enter_102 ?_
  refine vs_iload_n C rfl d_M_enter_104 ?_
  refine vs_iastN C d_M_enter_105 rfl (rfl) ((by omega)) (by decide) ?_
  refine vs_aload_n C rfl d_M_enter_106 ?_
  refine vs_get C fl_M_157 d_M_enter_107 rfl rfl ?_
  refine vs_iload_n C rfl d_M_enter_110 ?_
  refine vs_icmp_ge (tgt := 124) C d_M_enter_111 (by decide) (fun h1 => ?_) (fun h1 => ?_)
  · have h2 : ¬ h.2.2 < M := fun q => absurd (n_ge (N := M) (i := h.2.2) h1 rfl rfl (by omega) (by omega)) (by omega)
    rw [if_neg h2] at hQ
    subst hQ
    exact vs_vret C hr d_M_enter_124 ⟨Nat.le_of_ble_eq_true rfl, Nat.le_of_ble_eq_true rfl⟩ (fun h => by cases h) (by first | exact (fun _ => rfl) | exact (fun h => by cases h)) (⟨rfl, rfl⟩)
  · have h2 : h.2.2 < M := n_lt (N := M) (i := h.2.2) h1 rfl rfl (by omega) (by omega)
    rw [if_pos h2] at hQ
    refine vs_aload_n C rfl d_M_enter_114 ?_
    refine vs_dup C rfl d_M_enter_115 ?_
    refine vs_get C fl_M_157 d_M_enter_116 rfl rfl ?_
    refine vs_iconst (v := 1) C (by decide) d_M_enter_119 ?_
    refine vs_iadd C d_M_enter_120 ?_
    refine vs_st_eq (st2 := [.int (nI (h.2.2 + 1)), .ref 35]) (by rw [← nI_1 h.2.2] <;> rfl) ?_
    refine vs_put C fl_M_157 d_M_enter_121 rfl rfl rfl (Nat.le_of_ble_eq_true rfl) ?_
    subst hQ
    exact vs_vret C hr d_M_enter_124 ⟨Nat.le_of_ble_eq_true rfl, Nat.le_of_ble_eq_true rfl⟩ (fun h => by cases h) (by first | exact (fun _ => rfl) | exact (fun h => by cases h)) (⟨rfl, rfl⟩)
theorem scM_x (S : vs_S) (h : hp) (lo ma : Int32) (o : Nat → Nat) (u : Nat) (x : Int32) (a n : Nat) : ∀ k, scM (xM S h lo ma) o u x a n k = scM S o u x a n k
  | 0 => rfl
  | k + 1 => by
    simp only [scM, scM_x S h lo ma o u x a n k]
    rfl
theorem scMK_x {S : vs_S} {h : hp} {lo ma : Int32} {o : Nat → Nat} {u : Nat} {x : Int32} {a n i : Nat} (hh : scMK S o u x a n i) : scMK (xM S h lo ma) o u x a n i := by
  unfold scMK
  rw [scM_x]
  exact hh
def gd (S : vs_S) (u kq N : Nat) (x : Int32) (d : Nat) : Bool := sP S x d && (decide (S.1 50 d = 0) && (fndM S u d kq && mr S d (mTok S u N)))
def lkM (G : Nat → Bool) (g : Nat → UInt32) (M a : Nat) : Nat → hp × Int32 → hp × Int32
  | 0, y => y
  | n + 1, y => if G (a + n) = true then (mEnt (nI (a + n)) (g (a + n)) M (lkM G g M a n y).1, (lkM G g M a n y).2 + 1) else lkM G g M a n y
theorem lkM_le {G : Nat → Bool} {g : Nat → UInt32} {M a : Nat} : ∀ {n : Nat} {y : hp × Int32}, y.1.2.2 ≤ M → (lkM G g M a n y).1.2.2 ≤ M
  | 0, _, h => h
  | n + 1, y, h => by
    simp only [lkM]
    by_cases q : G (a + n) = true
    · rw [if_pos q]; exact mEnt_le (lkM_le h)
    · rw [if_neg q]; exact lkM_le h
/-- what a search wants of the memory, for user u -/
def sH (S : vs_S) (o : Nat → Nat) (u kq N kd : Nat) : Prop := u < 8 ∧ S.2.2.2.2.1 35 31 = nI kq ∧ kq ≤ 6 ∧ (S.1 56 = fun i => nI (o i)) ∧ (∀ i, i < kq → o i < kq) ∧ (∀ i, i < kq → (∃ f, f < 3 ∧ S.1 55 i = nI f) ∧ ∃ t, t < 8 ∧ S.1 54 i = nI t) ∧ (∀ x a n, ∀ i, i < kq → scMK S o u x a n i) ∧ tokH S u N ∧ kd ≤ 40 ∧ (∀ d, d < kd → setl S d) ∧ S.2.2.2.2.1 35 27 = nI kd
section MLook
variable {p : Program} {l : Launch} {e : Env} {R : Room} {s : State} {m : MethodId} {args : Array Value} {below : List Frame} {meth : Method} {c : Code} {b : Nat} {D : va_G} {aC : Nat → ClassId} {Q : State → Prop} {kc ks : Nat} {ck : Bool}
theorem mlook (C : vs_X p s m args meth c b D aC "VeilSearchModel" c_M_lookAt 8) (S : vs_S) (o : Nat → Nat) (u kq N kd M a n0 : Nat) (x lo : Int32) (y : hp × Int32) (H : sH S o u kq N kd) (hM8 : M ≤ 8) (hy : y.1.2.2 ≤ M) (han : a + n0 ≤ kd) (K : ∀ o7, vs_G p l e { frames := 2, cells := 0, slots := 0, locals := 53 } s m args below meth c b D aC 8 Q 0 0 false (vs_mem (xM S (lkM (gd S u kq N x) (fun d => scM S o u x d 1 kq) M a n0 y).1 lo (lkM (gd S u kq N x) (fun d => scM S o u x d 1 kq) M a n0 y).2)) 113 [some (.ref 35), some (.int (nI u)), some (.int (nI M)), some (.int (nI a)), some (.int (nI (a + n0))), some (.int x), some (.int (nI (a + n0))), o7] []) : ∀ n j : Nat, j ≤ n0 → n0 - j < n → ∀ o7, vs_G p l e { frames := 2, cells := 0, slots := 0, locals := 53 } s m args below meth c b D aC 8 Q 0 0 false (vs_mem (xM S (lkM (gd S u kq N x) (fun d => scM S o u x d 1 kq) M a j y).1 lo (lkM (gd S u kq N x) (fun d => scM S o u x d 1 kq) M a j y).2)) 13 [some (.ref 35), some (.int (nI u)), some (.int (nI M)), some (.int (nI a)), some (.int (nI (a + n0))), some (.int x), some (.int (nI (a + j))), o7] [] := by
  obtain ⟨hu, hk, hk6, ho, hob, hfl, hok, hN, hkd, hs, hid⟩ := H
  intro n
  induction n with
  | zero => intro j _ h; omega
  | succ n ih =>
    intro j hj hn o7
    have ih2 := ih (j + 1)
    simp only [lkM] at ih2
    have hle := lkM_le (G := gd S u kq N x) (g := fun d => scM S o u x d 1 kq) (a := a) (n := j) hy
    have K2 := K o7
    by_cases hlast : j = n0
    · subst hlast
      generalize lkM (gd S u kq N x) (fun d => scM S o u x d 1 kq) M a j y = z at K2 ⊢
      refine vs_iload C rfl d_M_lookAt_13 ?_
      refine vs_iload C rfl d_M_lookAt_15 ?_
      refine vs_icmp_ge (tgt := 113) C d_M_lookAt_17 (by decide) (fun h1 => ?_) (fun h1 => ?_)
      · exact K2
      · exact absurd (n_lt (N := a + j) (i := a + j) h1 rfl rfl (by omega) (by omega)) (by omega)
    · clear K2
      generalize lkM (gd S u kq N x) (fun d => scM S o u x d 1 kq) M a j y = z at ih2 hle ⊢
      refine vs_iload C rfl d_M_lookAt_13 ?_
      refine vs_iload C rfl d_M_lookAt_15 ?_
      refine vs_icmp_ge (tgt := 113) C d_M_lookAt_17 (by decide) (fun h1 => ?_) (fun h1 => ?_)
      · exact absurd (n_ge (N := a + n0) (i := a + j) h1 rfl rfl (by omega) (by omega)) (by omega)
      · have hbad : ∀ o7, ¬ gd S u kq N x (a + j) = true → vs_G p l e { frames := 2, cells := 0, slots := 0, locals := 53 } s m args below meth c b D aC 8 Q 0 0 false (vs_mem (xM S z.1 lo z.2)) 107 [some (.ref 35), some (.int (nI u)), some (.int (nI M)), some (.int (nI a)), some (.int (nI (a + n0))), some (.int x), some (.int (nI (a + j))), o7] [] := by
          intro o7 hg
          rw [if_neg hg] at ih2
          refine vs_iinc C d_M_lookAt_107 rfl (nI_1 (a + j)) (by decide) ?_
          refine vs_goto (tgt := 13) C d_M_lookAt_110 (by decide) ?_
          exact ih2 (by omega) (by omega) _
        have h66 : ¬ gd S u kq N x (a + j) = true → vs_G p l e { frames := 2, cells := 0, slots := 0, locals := 53 } s m args below meth c b D aC 8 Q 0 0 false (vs_mem (xM S z.1 lo z.2)) 66 [some (.ref 35), some (.int (nI u)), some (.int (nI M)), some (.int (nI a)), some (.int (nI (a + n0))), some (.int x), some (.int (nI (a + j))), o7] [] := by
          intro hg
          refine vs_iconst (v := 0) C (by decide) d_M_lookAt_66 ?_
          refine vs_istore C d_M_lookAt_67 (by decide) ?_
          refine vs_iload C rfl d_M_lookAt_69 ?_
          refine vs_if_ne (tgt := 77) C d_M_lookAt_71 (by decide) (fun h3 => ?_) (fun h3 => ?_)
          · exact absurd rfl h3
          · refine vs_goto (tgt := 107) C d_M_lookAt_74 (by decide) ?_
            exact hbad _ hg
        refine vs_aload_n C rfl d_M_lookAt_20 ?_
        refine vs_get C fl_M_46 d_M_lookAt_21 rfl rfl ?_
        refine vs_iload C rfl d_M_lookAt_24 ?_
        refine vs_ialdN C d_M_lookAt_26 rfl (rfl) ((by omega)) (by decide) ?_
        refine vs_iload C rfl d_M_lookAt_27 ?_
        refine vs_icmp_ne (tgt := 66) C d_M_lookAt_29 (by decide) (fun h2 => ?_) (fun h2 => ?_)
        · have h2' : ¬ S.1 48 (a + j) = x := h2
          exact h66 (fun h => by simp [gd, sP, h2'] at h)
        · have h2' : S.1 48 (a + j) = x := h2
          refine vs_aload_n C rfl d_M_lookAt_32 ?_
          refine vs_get C fl_M_53 d_M_lookAt_33 rfl rfl ?_
          refine vs_iload C rfl d_M_lookAt_36 ?_
          refine vs_zaldN C d_M_lookAt_38 rfl (rfl) ((by omega)) (by decide) ?_
          refine vs_if_ne (tgt := 66) C d_M_lookAt_39 (by decide) (fun h3 => ?_) (fun h3 => ?_)
          · have h3' : ¬ S.1 50 (a + j) = 0 := h3
            exact h66 (fun h => by simp [gd, h3'] at h)
          · have h3' : S.1 50 (a + j) = 0 := h3
            refine vs_aload_n C rfl d_M_lookAt_42 ?_
            refine vs_iload_n C rfl d_M_lookAt_43 ?_
            refine vs_iload C rfl d_M_lookAt_44 ?_
            refine vs_cV C (k_M_isFound l b D aC (xM S z.1 lo z.2) u (a + j) kq hu (by omega) hk hk6 hfl) yk_M_isFound ml_M_172 im_M_isFound se_M_isFound d_M_lookAt_46 rfl rfl rfl rfl (by exact Nat.le_of_ble_eq_true rfl) (by exact ⟨Nat.le_of_ble_eq_true rfl, Nat.le_of_ble_eq_true rfl⟩) (by exact ⟨Nat.le_of_ble_eq_true rfl, Nat.le_of_ble_eq_true rfl⟩) (fun h => by cases h) ?_
            refine vs_if_eq (tgt := 66) C d_M_lookAt_49 (by decide) (fun h4 => ?_) (fun h4 => ?_)
            · have h4' : ¬ fndM S u (a + j) kq = true := b01_0.mp h4
              exact h66 (fun h => by simp [gd, h4'] at h)
            · have h4' : fndM S u (a + j) kq = true := b01_n h4
              refine vs_aload_n C rfl d_M_lookAt_52 ?_
              refine vs_iload_n C rfl d_M_lookAt_53 ?_
              refine vs_iload C rfl d_M_lookAt_54 ?_
              refine vs_cV C (k_M_mayRead l b D aC (xM S z.1 lo z.2) u (a + j) N kd hu hN (by omega) hkd hs) yk_M_mayRead ml_M_175 im_M_mayRead se_M_mayRead d_M_lookAt_56 rfl rfl rfl rfl (by exact Nat.le_of_ble_eq_true rfl) (by exact ⟨Nat.le_of_ble_eq_true rfl, Nat.le_of_ble_eq_true rfl⟩) (by exact ⟨Nat.le_of_ble_eq_true rfl, Nat.le_of_ble_eq_true rfl⟩) (fun h => by cases h) ?_
              refine vs_if_eq (tgt := 66) C d_M_lookAt_59 (by decide) (fun h5 => ?_) (fun h5 => ?_)
              · have h5' : ¬ mr S (a + j) (mTok S u N) = true := b01_0.mp h5
                exact h66 (fun h => by simp [gd, h5'] at h)
              · have h5' : mr S (a + j) (mTok S u N) = true := b01_n h5
                have hg : gd S u kq N x (a + j) = true := by simp [gd, sP, h2', h3', h4', h5']
                rw [if_pos hg] at ih2
                refine vs_iconst (v := 1) C (by decide) d_M_lookAt_62 ?_
                refine vs_goto (tgt := 67) C d_M_lookAt_63 (by decide) ?_
                refine vs_istore C d_M_lookAt_67 (by decide) ?_
                refine vs_iload C rfl d_M_lookAt_69 ?_
                refine vs_if_ne (tgt := 77) C d_M_lookAt_71 (by decide) (fun h6 => ?_) (fun h6 => ?_)
                · refine vs_aload_n C rfl d_M_lookAt_77 ?_
                  refine vs_dup C rfl d_M_lookAt_78 ?_
                  refine vs_get C fl_M_178 d_M_lookAt_79 rfl rfl ?_
                  refine vs_iconst (v := 1) C (by decide) d_M_lookAt_82 ?_
                  refine vs_iadd C d_M_lookAt_83 ?_
                  generalize hw : z.2 + 1 = w at ih2
                  refine vs_st_eq (st2 := [.int w, .ref 35]) (by rw [← hw] <;> rfl) ?_
                  refine vs_put C fl_M_178 d_M_lookAt_84 rfl rfl rfl (Nat.le_of_ble_eq_true rfl) ?_
                  refine vs_aload_n C rfl d_M_lookAt_87 ?_
                  refine vs_iload C rfl d_M_lookAt_88 ?_
                  refine vs_aload_n C rfl d_M_lookAt_90 ?_
                  refine vs_iload_n C rfl d_M_lookAt_91 ?_
                  refine vs_iload C rfl d_M_lookAt_92 ?_
                  refine vs_iload C rfl d_M_lookAt_94 ?_
                  refine vs_iconst (v := 1) C (by decide) d_M_lookAt_96 ?_
                  refine vs_iadd C d_M_lookAt_97 ?_
                  refine vs_iload C rfl d_M_lookAt_98 ?_
                  refine vs_mem_eq (mem2 := vs_mem (xM S z.1 lo w)) rfl ?_
                  refine vs_st_eq (st2 := [.int x, .int (nI (a + j + 1)), .int (nI (a + j)), .int (nI u), .ref 35, .int (nI (a + j)), .ref 35]) (by rw [← nI_1 (a + j)] <;> rfl) ?_
                  refine vs_cV C (k_M_scoreOf l b D aC (xM S z.1 lo w) o u (a + j) 1 kq x hu (by omega) hk hk6 ho hob hfl (fun i hi => scMK_x (hok x (a + j) 1 i hi))) yk_M_scoreOf ml_M_181 im_M_scoreOf se_M_scoreOf d_M_lookAt_100 rfl rfl rfl rfl (by exact Nat.le_of_ble_eq_true rfl) (by exact ⟨Nat.le_of_ble_eq_true rfl, Nat.le_of_ble_eq_true rfl⟩) (by exact ⟨Nat.le_of_ble_eq_true rfl, Nat.le_of_ble_eq_true rfl⟩) (fun h => by cases h) ?_
                  rw [scM_x]
                  refine vs_iload_n C rfl d_M_lookAt_103 ?_
                  refine vs_cV C (k_M_enter l b D aC S z.1 lo w (nI (a + j)) (scM S o u x (a + j) 1 kq) M hM8 hle) yk_M_enter ml_M_185 im_M_enter se_M_enter d_M_lookAt_104 rfl rfl rfl rfl (by exact Nat.le_of_ble_eq_true rfl) (by exact ⟨Nat.le_of_ble_eq_true rfl, Nat.le_of_ble_eq_true rfl⟩) (by exact ⟨Nat.le_of_ble_eq_true rfl, Nat.le_of_ble_eq_true rfl⟩) (fun h => by cases h) ?_
                  refine vs_iinc C d_M_lookAt_107 rfl (nI_1 (a + j)) (by decide) ?_
                  refine vs_goto (tgt := 13) C d_M_lookAt_110 (by decide) ?_
                  exact ih2 (by omega) (by omega) _
                · exact absurd h6 (by decide)
end MLook
set_option maxRecDepth 100000 in
set_option maxHeartbeats 4000000 in
theorem k_M_lookAt (l : Launch) (b : Nat) (D : va_G) (aC : Nat → ClassId) (S : vs_S) (o : Nat → Nat) (u kq N kd M a n0 : Nat) (x lo ma : Int32) (h : hp) (H : sH S o u kq N kd) (hM8 : M ≤ 8) (hh : h.2.2 ≤ M) (han : a + n0 ≤ kd) : vs_M l b D aC false false y_M_lookAt (.code y_M_lookAt c_M_lookAt 8 (Option.none : Option Jvm.ClassFile.FieldType)) { frames := 2, cells := 0, slots := 0, locals := 53 } [.ref 35, .int (nI u), .int (nI M), .int (nI a), .int (nI (a + n0)), .int x] (vs_mem (xM S h lo ma)) (vs_ret none (vs_mem (xM S (lkM (gd S u kq N x) (fun d => scM S o u x d 1 kq) M a n0 (h, ma)).1 (lo + 1) (lkM (gd S u kq N x) (fun d => scM S o u x d 1 kq) M a n0 (h, ma)).2))) := by
  refine vs_M.of (by decide) (Nat.le_of_ble_eq_true rfl) ?_
  intro p e s m args below meth c C hmn hr hx htg
  generalize hQ : vs_E below args s b D aC false false (vs_ret none (vs_mem (xM S (lkM (gd S u kq N x) (fun d => scM S o u x d 1 kq) M a n0 (h, ma)).1 (lo + 1) (lkM (gd S u kq N x) (fun d => scM S o u x d 1 kq) M a n0 (h, ma)).2))) { frames := 2, cells := 0, slots := 0, locals := 53 } = Q
  refine vs_aload_n C rfl d_M_lookAt_0 ?_
  refine vs_dup C rfl d_M_lookAt_1 ?_
  refine vs_get C fl_M_169 d_M_lookAt_2 rfl rfl ?_
  refine vs_iconst (v := 1) C (by decide) d_M_lookAt_5 ?_
  refine vs_iadd C d_M_lookAt_6 ?_
  generalize hw : lo + 1 = lo1 at hQ
  refine vs_st_eq (st2 := [.int lo1, .ref 35]) (by rw [← hw] <;> rfl) ?_
  refine vs_put C fl_M_169 d_M_lookAt_7 rfl rfl rfl (Nat.le_of_ble_eq_true rfl) ?_
  refine vs_iload_n C rfl d_M_lookAt_10 ?_
  refine vs_istore C d_M_lookAt_11 (by decide) ?_
  refine vs_mem_eq (mem2 := vs_mem (xM S h lo1 ma)) rfl ?_
  refine vs_ck (mlook C S o u kq N kd M a n0 x lo1 (h, ma) H hM8 hh han (fun o7 => ?_) (n0 + 1) 0 (Nat.zero_le _) (by omega) none)
  subst hQ
  exact vs_vret C hr d_M_lookAt_113 ⟨Nat.le_of_ble_eq_true rfl, Nat.le_of_ble_eq_true rfl⟩ (fun h => by cases h) (by first | exact (fun _ => rfl) | exact (fun h => by cases h)) (⟨rfl, rfl⟩)
section MLeft
variable {p : Program} {l : Launch} {e : Env} {R : Room} {s : State} {m : MethodId} {args : Array Value} {below : List Frame} {meth : Method} {c : Code} {b : Nat} {D : va_G} {aC : Nat → ClassId} {Q : State → Prop} {kc ks : Nat} {ck : Bool}
theorem mleft (C : vs_X p s m args meth c b D aC "VeilSearchModel" c_M_isLeft 4) (S : vs_S) (a n0 : Nat) (x : Int32) (hkd : (S.2.2.2.2.1 35 27) = nI (a + n0)) (h40 : a + n0 ≤ 40) (K1 : ∀ lv, anyB (fun i => sP S x (a + i)) n0 = true → vs_G p l e { frames := 0, cells := 0, slots := 0, locals := 0 } s m args below meth c b D aC 4 Q 0 0 true (vs_mem S) 20 lv []) (K0 : ∀ lv, anyB (fun i => sP S x (a + i)) n0 = false → vs_G p l e { frames := 0, cells := 0, slots := 0, locals := 0 } s m args below meth c b D aC 4 Q 0 0 true (vs_mem S) 28 lv []) : ∀ n j : Nat, j ≤ n0 → n0 - j < n → anyB (fun i => sP S x (a + i)) j = false → vs_G p l e { frames := 0, cells := 0, slots := 0, locals := 0 } s m args below meth c b D aC 4 Q 0 0 true (vs_mem S) 2 [some (.ref 35), some (.int (nI a)), some (.int x), some (.int (nI (a + j)))] [] := by
  intro n
  induction n with
  | zero => intro j _ h; omega
  | succ n ih =>
    intro j hj hn hf
    refine vs_iload_n C rfl d_M_isLeft_2 ?_
    refine vs_aload_n C rfl d_M_isLeft_3 ?_
    refine vs_get C fl_M_116 d_M_isLeft_4 rfl rfl ?_
    refine vs_icmp_ge (tgt := 28) C d_M_isLeft_7 (by decide) (fun h1 => ?_) (fun h1 => ?_)
    · have h2 := n_ge (N := a + n0) (i := a + j) h1 hkd rfl (by omega) (by omega)
      obtain rfl : j = n0 := by omega
      exact K0 _ hf
    · have hlt := n_lt (N := a + n0) (i := a + j) h1 hkd rfl (by omega) (by omega)
      refine vs_aload_n C rfl d_M_isLeft_10 ?_
      refine vs_get C fl_M_46 d_M_isLeft_11 rfl rfl ?_
      refine vs_iload_n C rfl d_M_isLeft_14 ?_
      refine vs_ialdN C d_M_isLeft_15 rfl (rfl) ((by omega)) (by decide) ?_
      refine vs_iload_n C rfl d_M_isLeft_16 ?_
      refine vs_icmp_ne (tgt := 22) C d_M_isLeft_17 (by decide) (fun h2 => ?_) (fun h2 => ?_)
      · refine vs_iinc C d_M_isLeft_22 rfl (nI_1 (a + j)) (by decide) ?_
        refine vs_goto (tgt := 2) C d_M_isLeft_25 (by decide) ?_
        exact ih (j + 1) (by omega) (by omega) (by show (anyB _ j || sP S x (a + j)) = false; rw [hf]; simp [sP, h2])
      · exact K1 _ (anyB_iff.mpr ⟨j, by omega, by simp [sP, h2]⟩)
end MLeft
set_option maxRecDepth 100000 in
set_option maxHeartbeats 4000000 in
theorem k_M_isLeft (l : Launch) (b : Nat) (D : va_G) (aC : Nat → ClassId) (S : vs_S) (a n0 : Nat) (x : Int32) (hkd : (S.2.2.2.2.1 35 27) = nI (a + n0)) (h40 : a + n0 ≤ 40) : vs_M l b D aC false true y_M_isLeft (.code y_M_isLeft c_M_isLeft 4 (Option.some Jvm.ClassFile.FieldType.boolean)) { frames := 0, cells := 0, slots := 0, locals := 0 } [.ref 35, .int (nI a), .int x] (vs_mem S) (vs_ret (some (.int (b01 (anyB (fun i => sP S x (a + i)) n0 = true)))) (vs_mem S)) := by
  refine vs_M.of (by decide) (Nat.le_of_ble_eq_true rfl) ?_
  intro p e s m args below meth c C hmn hr hx htg
  generalize hQ : vs_E below args s b D aC false true (vs_ret (some (.int (b01 (anyB (fun i => sP S x (a + i)) n0 = true)))) (vs_mem S)) { frames := 0, cells := 0, slots := 0, locals := 0 } = Q
  refine vs_iload_n C rfl d_M_isLeft_0 ?_
  refine vs_istore_n C d_M_isLeft_1 (by decide) ?_
  refine mleft C S a n0 x hkd h40 (fun lv h => ?_) (fun lv h => ?_) (n0 + 1) 0 (Nat.zero_le _) (by omega) rfl
  · refine vs_iconst (v := 1) C (by decide) d_M_isLeft_20 ?_
    subst hQ
    exact vs_zret C hr (by first | rfl | exact nr01) d_M_isLeft_21 ⟨Nat.le_of_ble_eq_true rfl, Nat.le_of_ble_eq_true rfl⟩ (fun h => by cases h) (by first | exact (fun _ => rfl) | exact (fun h => by cases h)) (vs_rti (b01_t h).symm)
  · refine vs_iconst (v := 0) C (by decide) d_M_isLeft_28 ?_
    subst hQ
    exact vs_zret C hr (by first | rfl | exact nr01) d_M_isLeft_29 ⟨Nat.le_of_ble_eq_true rfl, Nat.le_of_ble_eq_true rfl⟩ (fun h => by cases h) (by first | exact (fun _ => rfl) | exact (fun h => by cases h)) (vs_rti (b01_f (by rw [h]; decide)).symm)
/-- the place behind the BLOCK: r are left, d the next, n found -/
def bb (P : Nat → Bool) : Nat → Nat → Nat → Nat
  | 0, d, _ => d
  | r + 1, d, n => if 4 ≤ n then d else bb P r (d + 1) (if P d = true then n + 1 else n)
theorem bb_le (P : Nat → Bool) : ∀ r d n, d ≤ bb P r d n ∧ bb P r d n ≤ d + r
  | 0, d, n => ⟨Nat.le_refl _, Nat.le_refl _⟩
  | r + 1, d, n => by
    simp only [bb]
    by_cases h : 4 ≤ n
    · rw [if_pos h]; omega
    · rw [if_neg h]
      have := bb_le P r (d + 1) (if P d = true then n + 1 else n)
      omega
section MBeh
variable {p : Program} {l : Launch} {e : Env} {R : Room} {s : State} {m : MethodId} {args : Array Value} {below : List Frame} {meth : Method} {c : Code} {b : Nat} {D : va_G} {aC : Nat → ClassId} {Q : State → Prop} {kc ks : Nat} {ck : Bool}
theorem mbeh (C : vs_X p s m args meth c b D aC "VeilSearchModel" c_M_behindBlock 5) (S : vs_S) (a0 N : Nat) (x : Int32) (hkd : (S.2.2.2.2.1 35 27) = nI N) (h40 : N ≤ 40) (v : Nat) (K : ∀ o4, vs_G p l e { frames := 0, cells := 0, slots := 0, locals := 0 } s m args below meth c b D aC 5 Q 0 0 true (vs_mem S) 38 [some (.ref 35), some (.int (nI a0)), some (.int x), some (.int (nI v)), o4] []) : ∀ r d q : Nat, d + r = N → q ≤ 4 → bb (sP S x) r d q = v → vs_G p l e { frames := 0, cells := 0, slots := 0, locals := 0 } s m args below meth c b D aC 5 Q 0 0 true (vs_mem S) 5 [some (.ref 35), some (.int (nI a0)), some (.int x), some (.int (nI d)), some (.int (nI q))] [] := by
  intro r
  induction r with
  | zero =>
    intro d q hd hq hv
    refine vs_iload_n C rfl d_M_behindBlock_5 ?_
    refine vs_aload_n C rfl d_M_behindBlock_6 ?_
    refine vs_get C fl_M_116 d_M_behindBlock_7 rfl rfl ?_
    refine vs_icmp_ge (tgt := 38) C d_M_behindBlock_10 (by decide) (fun h1 => ?_) (fun h1 => ?_)
    · subst hv
      exact K _
    · exact absurd (n_lt (N := N) (i := d) h1 hkd rfl (by omega) (by omega)) (by omega)
  | succ r ih =>
    intro d q hd hq hv
    simp only [bb] at hv
    refine vs_iload_n C rfl d_M_behindBlock_5 ?_
    refine vs_aload_n C rfl d_M_behindBlock_6 ?_
    refine vs_get C fl_M_116 d_M_behindBlock_7 rfl rfl ?_
    refine vs_icmp_ge (tgt := 38) C d_M_behindBlock_10 (by decide) (fun h1 => ?_) (fun h1 => ?_)
    · exact absurd (n_ge (N := N) (i := d) h1 hkd rfl (by omega) (by omega)) (by omega)
    · refine vs_iload C rfl d_M_behindBlock_13 ?_
      refine vs_iconst (v := 4) C (by decide) d_M_behindBlock_15 ?_
      refine vs_icmp_ge (tgt := 38) C d_M_behindBlock_16 (by decide) (fun h2 => ?_) (fun h2 => ?_)
      · have h3 := n_ge (N := 4) (i := q) h2 rfl rfl (by decide) (by omega)
        rw [if_pos h3] at hv
        subst hv
        exact K _
      · have h3 := n_lt (N := 4) (i := q) h2 rfl rfl (by decide) (by omega)
        rw [if_neg (by omega)] at hv
        refine vs_aload_n C rfl d_M_behindBlock_19 ?_
        refine vs_get C fl_M_46 d_M_behindBlock_20 rfl rfl ?_
        refine vs_iload_n C rfl d_M_behindBlock_23 ?_
        refine vs_ialdN C d_M_behindBlock_24 rfl (rfl) ((by omega)) (by decide) ?_
        refine vs_iload_n C rfl d_M_behindBlock_25 ?_
        refine vs_icmp_ne (tgt := 32) C d_M_behindBlock_26 (by decide) (fun h4 => ?_) (fun h4 => ?_)
        · rw [if_neg (by simp [sP, h4])] at hv
          refine vs_iinc C d_M_behindBlock_32 rfl (nI_1 d) (by decide) ?_
          refine vs_goto (tgt := 5) C d_M_behindBlock_35 (by decide) ?_
          exact ih (d + 1) q (by omega) hq hv
        · rw [if_pos (by simp [sP, h4])] at hv
          refine vs_iinc C d_M_behindBlock_29 rfl (nI_1 q) (by decide) ?_
          refine vs_iinc C d_M_behindBlock_32 rfl (nI_1 d) (by decide) ?_
          refine vs_goto (tgt := 5) C d_M_behindBlock_35 (by decide) ?_
          exact ih (d + 1) (q + 1) (by omega) (by omega) hv
end MBeh
set_option maxRecDepth 100000 in
set_option maxHeartbeats 4000000 in
theorem k_M_behindBlock (l : Launch) (b : Nat) (D : va_G) (aC : Nat → ClassId) (S : vs_S) (a n0 : Nat) (x : Int32) (hkd : (S.2.2.2.2.1 35 27) = nI (a + n0)) (h40 : a + n0 ≤ 40) : vs_M l b D aC false true y_M_behindBlock (.code y_M_behindBlock c_M_behindBlock 5 (Option.some Jvm.ClassFile.FieldType.int)) { frames := 0, cells := 0, slots := 0, locals := 0 } [.ref 35, .int (nI a), .int x] (vs_mem S) (vs_ret (some (.int (nI (bb (sP S x) n0 a 0)))) (vs_mem S)) := by
  refine vs_M.of (by decide) (Nat.le_of_ble_eq_true rfl) ?_
  intro p e s m args below meth c C hmn hr hx htg
  generalize hQ : vs_E below args s b D aC false true (vs_ret (some (.int (nI (bb (sP S x) n0 a 0)))) (vs_mem S)) { frames := 0, cells := 0, slots := 0, locals := 0 } = Q
  refine vs_iload_n C rfl d_M_behindBlock_0 ?_
  refine vs_istore_n C d_M_behindBlock_1 (by decide) ?_
  refine vs_iconst (v := 0) C (by decide) d_M_behindBlock_2 ?_
  refine vs_istore C d_M_behindBlock_3 (by decide) ?_
  refine mbeh C S a (a + n0) x hkd h40 (bb (sP S x) n0 a 0) (fun o4 => ?_) n0 a 0 rfl (by decide) rfl
  refine vs_iload_n C rfl d_M_behindBlock_38 ?_
  subst hQ
  exact vs_iret C hr d_M_behindBlock_39 ⟨Nat.le_of_ble_eq_true rfl, Nat.le_of_ble_eq_true rfl⟩ (fun h => by cases h) (by first | exact (fun _ => rfl) | exact (fun h => by cases h)) (⟨rfl, rfl⟩)

