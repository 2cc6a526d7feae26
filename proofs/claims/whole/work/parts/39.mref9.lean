def updN (o : Nat → Nat) (j v : Nat) : Nat → Nat := fun i => if i = j then v else o i
theorem upd_nI (o : Nat → Nat) (j v : Nat) : upd (fun i => nI (o i)) j (nI v) = fun i => nI (updN o j v i) := by
  funext i
  simp only [upd, updN]
  by_cases h : i = j
  · rw [if_pos h, if_pos h]
  · rw [if_neg h, if_neg h]
def oIN (tm fl : Nat → Int32) (t f : Int32) : Nat → (Nat → Nat) → Nat × (Nat → Nat)
  | 0, o => (0, o)
  | i + 1, o => if later tm fl (o i) t f = true then oIN tm fl t f i (updN o (i + 1) (o i)) else (i + 1, o)
def arrN (tm fl : Nat → Int32) : Nat → (Nat → Nat) → Nat → Nat
  | 0, o => o
  | k + 1, o => updN (oIN tm fl (tm k) (fl k) k (arrN tm fl k o)).2 (oIN tm fl (tm k) (fl k) k (arrN tm fl k o)).1 k
theorem oIN_b {tm fl : Nat → Int32} {t f : Int32} : ∀ (i : Nat) (o : Nat → Nat), (∀ q, o q < 6) → (oIN tm fl t f i o).1 ≤ i ∧ ∀ q, (oIN tm fl t f i o).2 q < 6
  | 0, o, h => ⟨Nat.le_refl _, h⟩
  | i + 1, o, h => by
    simp only [oIN]
    by_cases q : later tm fl (o i) t f = true
    · rw [if_pos q]
      have := oIN_b (tm := tm) (fl := fl) (t := t) (f := f) i (updN o (i + 1) (o i)) (fun j => by unfold updN; split; exact h _; exact h _)
      exact ⟨Nat.le_succ_of_le this.1, this.2⟩
    · rw [if_neg q]
      exact ⟨Nat.le_refl _, h⟩
theorem arrN_b {tm fl : Nat → Int32} {o : Nat → Nat} (h : ∀ q, o q < 6) : ∀ k, k ≤ 6 → ∀ q, arrN tm fl k o q < 6
  | 0, _ => h
  | k + 1, hk => fun q => by
    have := oIN_b (tm := tm) (fl := fl) (t := tm k) (f := fl k) k (arrN tm fl k o) (arrN_b h k (by omega))
    simp only [arrN, updN]
    split
    · omega
    · exact this.2 q
def oS (S : vs_S) (o : Nat → Nat) : vs_S := vs_uI S 56 (fun i => nI (o i))
section MArr
variable {p : Program} {l : Launch} {e : Env} {R : Room} {s : State} {m : MethodId} {args : Array Value} {below : List Frame} {meth : Method} {c : Code} {b : Nat} {D : va_G} {aC : Nat → ClassId} {Q : State → Prop} {kc ks : Nat} {ck : Bool}
theorem marr_i (C : vs_X p s m args meth c b D aC "VeilSearchModel" c_M_arrange 3) (S : vs_S) (k : Nat) (hk6 : k < 6) : ∀ (i : Nat) (o : Nat → Nat), (∀ q, o q < 6) → i ≤ 5 → vs_G p l e { frames := 0, cells := 0, slots := 0, locals := 0 } s m args below meth c b D aC 3 Q 0 0 false (vs_mem (oS S (oIN (S.1 54) (S.1 55) (S.1 54 k) (S.1 55 k) i o).2)) 102 [some (.ref 35), some (.int (nI k)), some (.int (nI (oIN (S.1 54) (S.1 55) (S.1 54 k) (S.1 55 k) i o).1))] [] → vs_G p l e { frames := 0, cells := 0, slots := 0, locals := 0 } s m args below meth c b D aC 3 Q 0 0 false (vs_mem (oS S o)) 12 [some (.ref 35), some (.int (nI k)), some (.int (nI i))] [] := by
  intro i
  induction i with
  | zero =>
    intro o ho hi hK
    refine vs_iload_n C rfl d_M_arrange_12 ?_
    refine vs_if_le (tgt := 102) C d_M_arrange_13 (by decide) (fun h1 => ?_) (fun h1 => ?_)
    · exact hK
    · exact absurd (Int32.le_refl _) h1
  | succ i ih =>
    intro o ho hi hK
    simp only [oIN] at hK
    have hoi := ho i
    refine vs_iload_n C rfl d_M_arrange_12 ?_
    refine vs_if_le (tgt := 102) C d_M_arrange_13 (by decide) (fun h1 => ?_) (fun h1 => ?_)
    · exact absurd h1 (nI_nle (by omega) (by omega))
    · have h82 : later (S.1 54) (S.1 55) (o i) (S.1 54 k) (S.1 55 k) = true → vs_G p l e { frames := 0, cells := 0, slots := 0, locals := 0 } s m args below meth c b D aC 3 Q 0 0 false (vs_mem (oS S o)) 82 [some (.ref 35), some (.int (nI k)), some (.int (nI (i + 1)))] [] := by
        intro hl
        rw [if_pos hl] at hK
        refine vs_aload_n C rfl d_M_arrange_82 ?_
        refine vs_get C fl_M_71 d_M_arrange_83 rfl rfl ?_
        refine vs_iload_n C rfl d_M_arrange_86 ?_
        refine vs_aload_n C rfl d_M_arrange_87 ?_
        refine vs_get C fl_M_71 d_M_arrange_88 rfl rfl ?_
        refine vs_iload_n C rfl d_M_arrange_91 ?_
        refine vs_iconst (v := 1) C (by decide) d_M_arrange_92 ?_
        refine vs_isub C d_M_arrange_93 ?_
        refine vs_ialdN C d_M_arrange_94 rfl (nI_pred i) ((by omega)) (by decide) ?_
        refine vs_iastN C d_M_arrange_95 rfl (rfl) ((by omega)) (by decide) ?_
        refine vs_iinc C d_M_arrange_96 rfl ((show nI (i + 1) + Int32.ofInt (-1) = nI i by rw [dec1]; exact nI_pred i)) (by decide) ?_
        refine vs_goto (tgt := 12) C d_M_arrange_99 (by decide) ?_
        refine vs_mem_eq (mem2 := vs_mem (oS S (updN o (i + 1) (o i)))) (by unfold oS; rw [← upd_nI]; rfl) (ih _ (fun j => by unfold updN; split; exact ho _; exact ho _) (by omega) hK)
      have h102 : ¬ later (S.1 54) (S.1 55) (o i) (S.1 54 k) (S.1 55 k) = true → vs_G p l e { frames := 0, cells := 0, slots := 0, locals := 0 } s m args below meth c b D aC 3 Q 0 0 false (vs_mem (oS S o)) 102 [some (.ref 35), some (.int (nI k)), some (.int (nI (i + 1)))] [] := by
        intro hl
        rw [if_neg hl] at hK
        exact hK
      simp only [later, Bool.or_eq_true, Bool.and_eq_true, decide_eq_true_eq] at h82 h102
      refine vs_aload_n C rfl d_M_arrange_16 ?_
      refine vs_get C fl_M_65 d_M_arrange_17 rfl rfl ?_
      refine vs_aload_n C rfl d_M_arrange_20 ?_
      refine vs_get C fl_M_71 d_M_arrange_21 rfl rfl ?_
      refine vs_iload_n C rfl d_M_arrange_24 ?_
      refine vs_iconst (v := 1) C (by decide) d_M_arrange_25 ?_
      refine vs_isub C d_M_arrange_26 ?_
      refine vs_ialdN C d_M_arrange_27 rfl (nI_pred i) ((by omega)) (by decide) ?_
      refine vs_ialdN C d_M_arrange_28 rfl (rfl) ((by omega)) (by decide) ?_
      refine vs_aload_n C rfl d_M_arrange_29 ?_
      refine vs_get C fl_M_65 d_M_arrange_30 rfl rfl ?_
      refine vs_iload_n C rfl d_M_arrange_33 ?_
      refine vs_ialdN C d_M_arrange_34 rfl (rfl) ((by omega)) (by decide) ?_
      refine vs_icmp_gt (tgt := 82) C d_M_arrange_35 (by decide) (fun h2 => ?_) (fun h2 => ?_)
      · exact h82 (Or.inl h2)
      · refine vs_aload_n C rfl d_M_arrange_38 ?_
        refine vs_get C fl_M_65 d_M_arrange_39 rfl rfl ?_
        refine vs_aload_n C rfl d_M_arrange_42 ?_
        refine vs_get C fl_M_71 d_M_arrange_43 rfl rfl ?_
        refine vs_iload_n C rfl d_M_arrange_46 ?_
        refine vs_iconst (v := 1) C (by decide) d_M_arrange_47 ?_
        refine vs_isub C d_M_arrange_48 ?_
        refine vs_ialdN C d_M_arrange_49 rfl (nI_pred i) ((by omega)) (by decide) ?_
        refine vs_ialdN C d_M_arrange_50 rfl (rfl) ((by omega)) (by decide) ?_
        refine vs_aload_n C rfl d_M_arrange_51 ?_
        refine vs_get C fl_M_65 d_M_arrange_52 rfl rfl ?_
        refine vs_iload_n C rfl d_M_arrange_55 ?_
        refine vs_ialdN C d_M_arrange_56 rfl (rfl) ((by omega)) (by decide) ?_
        refine vs_icmp_ne (tgt := 102) C d_M_arrange_57 (by decide) (fun h3 => ?_) (fun h3 => ?_)
        · exact h102 (fun h => h.elim h2 (fun q => h3 q.1))
        · refine vs_aload_n C rfl d_M_arrange_60 ?_
          refine vs_get C fl_M_68 d_M_arrange_61 rfl rfl ?_
          refine vs_aload_n C rfl d_M_arrange_64 ?_
          refine vs_get C fl_M_71 d_M_arrange_65 rfl rfl ?_
          refine vs_iload_n C rfl d_M_arrange_68 ?_
          refine vs_iconst (v := 1) C (by decide) d_M_arrange_69 ?_
          refine vs_isub C d_M_arrange_70 ?_
          refine vs_ialdN C d_M_arrange_71 rfl (nI_pred i) ((by omega)) (by decide) ?_
          refine vs_ialdN C d_M_arrange_72 rfl (rfl) ((by omega)) (by decide) ?_
          refine vs_aload_n C rfl d_M_arrange_73 ?_
          refine vs_get C fl_M_68 d_M_arrange_74 rfl rfl ?_
          refine vs_iload_n C rfl d_M_arrange_77 ?_
          refine vs_ialdN C d_M_arrange_78 rfl (rfl) ((by omega)) (by decide) ?_
          refine vs_icmp_le (tgt := 102) C d_M_arrange_79 (by decide) (fun h4 => ?_) (fun h4 => ?_)
          · exact h102 (fun h => h.elim h2 (fun q => absurd q.2 (Int32.not_lt.mpr h4)))
          · exact h82 (Or.inr ⟨h3, Int32.not_le.mp h4⟩)
theorem marr_o (C : vs_X p s m args meth c b D aC "VeilSearchModel" c_M_arrange 3) (S : vs_S) (o : Nat → Nat) (kq : Nat) (hob : ∀ q, o q < 6) (hk : (S.2.2.2.2.1 35 31) = nI kq) (hk6 : kq ≤ 6) (K : ∀ o2, vs_G p l e { frames := 0, cells := 0, slots := 0, locals := 0 } s m args below meth c b D aC 3 Q 0 0 false (vs_mem (oS S (arrN (S.1 54) (S.1 55) kq o))) 115 [some (.ref 35), some (.int (nI kq)), o2] []) : ∀ n i : Nat, i ≤ kq → kq - i < n → ∀ o2, vs_G p l e { frames := 0, cells := 0, slots := 0, locals := 0 } s m args below meth c b D aC 3 Q 0 0 false (vs_mem (oS S (arrN (S.1 54) (S.1 55) i o))) 2 [some (.ref 35), some (.int (nI i)), o2] [] := by
  intro n
  induction n with
  | zero => intro i _ h; omega
  | succ n ih =>
    intro i hi hn o2
    have ih2 := ih (i + 1)
    simp only [arrN] at ih2
    have hb := arrN_b (tm := S.1 54) (fl := S.1 55) hob i (by omega)
    have K2 := K o2
    by_cases hlast : i = kq
    · subst hlast
      generalize arrN (S.1 54) (S.1 55) i o = z at K2 ⊢
      refine vs_iload_n C rfl d_M_arrange_2 ?_
      refine vs_aload_n C rfl d_M_arrange_3 ?_
      refine vs_get C fl_M_146 d_M_arrange_4 rfl rfl ?_
      refine vs_icmp_ge (tgt := 115) C d_M_arrange_7 (by decide) (fun h1 => ?_) (fun h1 => ?_)
      · exact K2
      · exact absurd (n_lt (N := i) (i := i) h1 hk rfl (by omega) (by omega)) (by omega)
    · clear K2
      generalize arrN (S.1 54) (S.1 55) i o = z at ih2 hb ⊢
      refine vs_iload_n C rfl d_M_arrange_2 ?_
      refine vs_aload_n C rfl d_M_arrange_3 ?_
      refine vs_get C fl_M_146 d_M_arrange_4 rfl rfl ?_
      refine vs_icmp_ge (tgt := 115) C d_M_arrange_7 (by decide) (fun h1 => ?_) (fun h1 => ?_)
      · exact absurd (n_ge (N := kq) (i := i) h1 hk rfl (by omega) (by omega)) (by omega)
      · refine vs_iload_n C rfl d_M_arrange_10 ?_
        refine vs_istore_n C d_M_arrange_11 (by decide) ?_
        refine marr_i C S i (by omega) i z hb (by omega) ?_
        have hle := (oIN_b (tm := S.1 54) (fl := S.1 55) (t := S.1 54 i) (f := S.1 55 i) i z hb).1
        generalize oIN (S.1 54) (S.1 55) (S.1 54 i) (S.1 55 i) i z = g at ih2 hle ⊢
        refine vs_aload_n C rfl d_M_arrange_102 ?_
        refine vs_get C fl_M_71 d_M_arrange_103 rfl rfl ?_
        refine vs_iload_n C rfl d_M_arrange_106 ?_
        refine vs_iload_n C rfl d_M_arrange_107 ?_
        refine vs_iastN C d_M_arrange_108 rfl (rfl) ((by omega)) (by decide) ?_
        refine vs_iinc C d_M_arrange_109 rfl (nI_1 i) (by decide) ?_
        refine vs_goto (tgt := 2) C d_M_arrange_112 (by decide) ?_
        refine vs_mem_eq (mem2 := vs_mem (oS S (updN g.2 g.1 i))) (by unfold oS; rw [← upd_nI]; rfl) (ih2 (by omega) (by omega) _)
end MArr
set_option maxRecDepth 100000 in
set_option maxHeartbeats 4000000 in
theorem k_M_arrange (l : Launch) (b : Nat) (D : va_G) (aC : Nat → ClassId) (S : vs_S) (o : Nat → Nat) (kq : Nat) (hob : ∀ q, o q < 6) (hk : (S.2.2.2.2.1 35 31) = nI kq) (hk6 : kq ≤ 6) : vs_M l b D aC false false y_M_arrange (.code y_M_arrange c_M_arrange 3 (Option.none : Option Jvm.ClassFile.FieldType)) { frames := 0, cells := 0, slots := 0, locals := 0 } [.ref 35] (vs_mem (oS S o)) (vs_ret none (vs_mem (oS S (arrN (S.1 54) (S.1 55) kq o)))) := by
  refine vs_M.of (by decide) (Nat.le_of_ble_eq_true rfl) ?_
  intro p e s m args below meth c C hmn hr hx htg
  generalize hQ : vs_E below args s b D aC false false (vs_ret none (vs_mem (oS S (arrN (S.1 54) (S.1 55) kq o)))) { frames := 0, cells := 0, slots := 0, locals := 0 } = Q
  refine vs_iconst (v := 0) C (by decide) d_M_arrange_0 ?_
  refine vs_istore_n C d_M_arrange_1 (by decide) ?_
  refine vs_ck (marr_o C S o kq hob hk hk6 (fun o2 => ?_) (kq + 1) 0 (Nat.zero_le _) (by omega) none)
  subst hQ
  exact vs_vret C hr d_M_arrange_115 ⟨Nat.le_of_ble_eq_true rfl, Nat.le_of_ble_eq_true rfl⟩ (fun h => by cases h) (by first | exact (fun _ => rfl) | exact (fun h => by cases h)) (⟨rfl, rfl⟩)
theorem scM_xF (S : vs_S) (f : fm) (o : Nat → Nat) (u : Nat) (x : Int32) (a n : Nat) : ∀ k, scM (xFM S f) o u x a n k = scM S o u x a n k
  | 0 => rfl
  | k + 1 => by
    simp only [scM, scM_xF S f o u x a n k]
    rfl
theorem sH_x {S : vs_S} {f : fm} {o : Nat → Nat} {u kq N kd : Nat} (H : sH S o u kq N kd) : sH (xFM S f) o u kq N kd := by
  obtain ⟨hu, hk, hk6, ho, hob, hfl, hok, hN, hkd, hs, hid⟩ := H
  refine ⟨hu, hk, hk6, ho, hob, hfl, fun x a n i hi => ?_, hN, hkd, hs, hid⟩
  unfold scMK
  rw [scM_xF]
  exact hok x a n i hi
/-- the BLOCKS of a SEGMENT, as the reference goes through them: r bounds how many -/
def psM (S : vs_S) (o : Nat → Nat) (u kq N kd M : Nat) (x : Int32) : Nat → Nat → hp × Int32 × Int32 → hp × Int32 × Int32
  | 0, _, y => y
  | r + 1, a, y => if anyB (fun i => sP S x (a + i)) (kd - a) = true then psM S o u kq N kd M x r (bb (sP S x) (kd - a) a 0) (if y.1.2.2 < M ∨ 0 < cmpL (scM S o u x a (bb (sP S x) (kd - a) a 0 - a) kq) (y.1.2.1 (M - 1)) then ((lkM (gd S u kq N x) (fun d => scM S o u x d 1 kq) M a (bb (sP S x) (kd - a) a 0 - a) (y.1, y.2.2)).1, y.2.1 + 1, (lkM (gd S u kq N x) (fun d => scM S o u x d 1 kq) M a (bb (sP S x) (kd - a) a 0 - a) (y.1, y.2.2)).2) else y) else y
theorem psM_le {S : vs_S} {o : Nat → Nat} {u kq N kd M : Nat} {x : Int32} : ∀ (r a : Nat) (y : hp × Int32 × Int32), y.1.2.2 ≤ M → (psM S o u kq N kd M x r a y).1.2.2 ≤ M
  | 0, _, y, h => h
  | r + 1, a, y, h => by
    simp only [psM]
    split
    · refine psM_le r _ _ ?_
      split
      · exact lkM_le h
      · exact h
    · exact h
theorem bb_lt {P : Nat → Bool} {r d : Nat} (h : 0 < r) : d < bb P r d 0 := by
  obtain ⟨r, rfl⟩ : ∃ q, r = q + 1 := ⟨r - 1, by omega⟩
  simp only [bb]
  rw [if_neg (by omega)]
  have := bb_le P r (d + 1) (if P d = true then 0 + 1 else 0)
  omega
section MSe
variable {p : Program} {l : Launch} {e : Env} {R : Room} {s : State} {m : MethodId} {args : Array Value} {below : List Frame} {meth : Method} {c : Code} {b : Nat} {D : va_G} {aC : Nat → ClassId} {Q : State → Prop} {kc ks : Nat} {ck : Bool}
theorem mps (C : vs_X p s m args meth c b D aC "VeilSearchModel" c_M_search 9) (S : vs_S) (f : fm) (o : Nat → Nat) (u kq N kd M i : Nat) (x : Int32) (H : sH S o u kq N kd) (hM1 : 1 ≤ M) (hM8 : M ≤ 8) (R0 : hp × Int32 × Int32) (K : ∀ o5 o6 o7 o8, vs_G p l e { frames := 3, cells := 0, slots := 0, locals := 80 } s m args below meth c b D aC 9 Q 0 0 false (vs_mem (xM (xFM S f) R0.1 R0.2.1 R0.2.2)) 167 [some (.ref 35), some (.int (nI u)), some (.int (nI M)), some (.int (nI i)), some (.int x), o5, o6, o7, o8] []) : ∀ (r a : Nat) (y : hp × Int32 × Int32) (o7 o8 : Option Value), a ≤ kd → kd - a < r → y.1.2.2 ≤ M → psM S o u kq N kd M x r a y = R0 → vs_G p l e { frames := 3, cells := 0, slots := 0, locals := 80 } s m args below meth c b D aC 9 Q 0 0 false (vs_mem (xM (xFM S f) y.1 y.2.1 y.2.2)) 88 [some (.ref 35), some (.int (nI u)), some (.int (nI M)), some (.int (nI i)), some (.int x), some (.int (nI a)), some (.int (b01 (anyB (fun i => sP S x (a + i)) (kd - a) = true))), o7, o8] [] := by
  intro r
  induction r with
  | zero => intro a y o7 o8 _ h; omega
  | succ r ih =>
    intro a y o7 o8 ha hr hy hR
    have Hx := sH_x (f := f) H
    obtain ⟨hu, hk, hk6, ho, hob, hfl, hok, hN, hkd, hs, hid⟩ := id Hx
    simp only [psM] at hR
    refine vs_iload C rfl d_M_search_88 ?_
    refine vs_if_eq (tgt := 167) C d_M_search_90 (by decide) (fun h1 => ?_) (fun h1 => ?_)
    · rw [if_neg (b01_0.mp h1)] at hR
      subst hR
      exact K _ _ _ _
    · have hany := b01_n h1
      rw [if_pos hany] at hR
      have hpos : 0 < kd - a := by
        obtain ⟨q, hq, _⟩ := anyB_iff.mp hany
        omega
      have hbl := bb_lt (P := sP S x) (d := a) hpos
      have hbu := (bb_le (sP S x) (kd - a) a 0).2
      refine vs_aload_n C rfl d_M_search_93 ?_
      refine vs_iload C rfl d_M_search_94 ?_
      refine vs_iload C rfl d_M_search_96 ?_
      refine vs_cV C (k_M_behindBlock l b D aC (xM (xFM S f) y.1 y.2.1 y.2.2) a (kd - a) x (by show S.2.2.2.2.1 35 27 = _; rw [show a + (kd - a) = kd by omega]; exact hid) (by omega)) yk_M_behindBlock ml_M_199 im_M_behindBlock se_M_behindBlock d_M_search_98 rfl rfl rfl rfl (by exact Nat.le_of_ble_eq_true rfl) (by exact ⟨Nat.le_of_ble_eq_true rfl, Nat.le_of_ble_eq_true rfl⟩) (by exact ⟨Nat.le_of_ble_eq_true rfl, Nat.le_of_ble_eq_true rfl⟩) (fun h => by cases h) ?_
      refine vs_st_eq (st2 := [.int (nI (bb (sP S x) (kd - a) a 0))]) rfl ?_
      generalize bb (sP S x) (kd - a) a 0 = e1 at hR hbl hbu ⊢
      obtain ⟨n0, rfl⟩ : ∃ n0, e1 = a + n0 := ⟨e1 - a, by omega⟩
      rw [show a + n0 - a = n0 by omega] at hR
      refine vs_istore C d_M_search_101 (by decide) ?_
      refine vs_aload_n C rfl d_M_search_103 ?_
      refine vs_iload_n C rfl d_M_search_104 ?_
      refine vs_iload C rfl d_M_search_105 ?_
      refine vs_iload C rfl d_M_search_107 ?_
      refine vs_iload C rfl d_M_search_109 ?_
      refine vs_cV C (k_M_scoreOf l b D aC (xM (xFM S f) y.1 y.2.1 y.2.2) o u a n0 kq x hu (by omega) hk hk6 ho hob hfl (fun i hi => scMK_x (hok x a n0 i hi))) yk_M_scoreOf ml_M_181 im_M_scoreOf se_M_scoreOf d_M_search_111 rfl rfl rfl rfl (by exact Nat.le_of_ble_eq_true rfl) (by exact ⟨Nat.le_of_ble_eq_true rfl, Nat.le_of_ble_eq_true rfl⟩) (by exact ⟨Nat.le_of_ble_eq_true rfl, Nat.le_of_ble_eq_true rfl⟩) (fun h => by cases h) ?_
      rw [scM_x, scM_xF]
      have hgo : ∀ y2 : hp × Int32 × Int32, y2.1.2.2 ≤ M → psM S o u kq N kd M x r (a + n0) y2 = R0 → vs_G p l e { frames := 3, cells := 0, slots := 0, locals := 80 } s m args below meth c b D aC 9 Q 0 0 false (vs_mem (xM (xFM S f) y2.1 y2.2.1 y2.2.2)) 150 [some (.ref 35), some (.int (nI u)), some (.int (nI M)), some (.int (nI i)), some (.int x), some (.int (nI a)), some (.int (b01 (anyB (fun i => sP S x (a + i)) (kd - a) = true))), some (.int (nI (a + n0))), some (.float (scM S o u x a n0 kq))] [] := by
        intro y2 hy2 hR2
        refine vs_iload C rfl d_M_search_150 ?_
        refine vs_istore C d_M_search_152 (by decide) ?_
        refine vs_aload_n C rfl d_M_search_154 ?_
        refine vs_iload C rfl d_M_search_155 ?_
        refine vs_iload C rfl d_M_search_157 ?_
        refine vs_cV C (k_M_isLeft l b D aC (xM (xFM S f) y2.1 y2.2.1 y2.2.2) (a + n0) (kd - (a + n0)) x (by show S.2.2.2.2.1 35 27 = _; rw [show a + n0 + (kd - (a + n0)) = kd by omega]; exact hid) (by omega)) yk_M_isLeft ml_M_196 im_M_isLeft se_M_isLeft d_M_search_159 rfl rfl rfl rfl (by exact Nat.le_of_ble_eq_true rfl) (by exact ⟨Nat.le_of_ble_eq_true rfl, Nat.le_of_ble_eq_true rfl⟩) (by exact ⟨Nat.le_of_ble_eq_true rfl, Nat.le_of_ble_eq_true rfl⟩) (fun h => by cases h) ?_
        refine vs_istore C d_M_search_162 (by decide) ?_
        refine vs_goto (tgt := 88) C d_M_search_164 (by decide) ?_
        exact ih (a + n0) y2 _ _ (by omega) (by omega) hy2 hR2
      refine vs_fstore C d_M_search_114 (by decide) ?_
      refine vs_aload_n C rfl d_M_search_116 ?_
      refine vs_get C fl_M_157 d_M_search_117 rfl rfl ?_
      refine vs_iload_n C rfl d_M_search_120 ?_
      have h138 : (y.1.2.2 < M ∨ 0 < cmpL (scM S o u x a n0 kq) (y.1.2.1 (M - 1))) → vs_G p l e { frames := 3, cells := 0, slots := 0, locals := 80 } s m args below meth c b D aC 9 Q 0 0 false (vs_mem (xM (xFM S f) y.1 y.2.1 y.2.2)) 138 [some (.ref 35), some (.int (nI u)), some (.int (nI M)), some (.int (nI i)), some (.int x), some (.int (nI a)), some (.int (b01 (anyB (fun i => sP S x (a + i)) (kd - a) = true))), some (.int (nI (a + n0))), some (.float (scM S o u x a n0 kq))] [] := by
        intro hc
        rw [if_pos hc] at hR
        have e1 : (fun d => scM (xFM S f) o u x d 1 kq) = (fun d => scM S o u x d 1 kq) := funext (fun d => scM_xF S f o u x d 1 kq)
        have e2 : gd (xFM S f) u kq N x = gd S u kq N x := rfl
        refine vs_aload_n C rfl d_M_search_138 ?_
        refine vs_iload_n C rfl d_M_search_139 ?_
        refine vs_iload_n C rfl d_M_search_140 ?_
        refine vs_iload C rfl d_M_search_141 ?_
        refine vs_iload C rfl d_M_search_143 ?_
        refine vs_iload C rfl d_M_search_145 ?_
        refine vs_cV C (k_M_lookAt l b D aC (xFM S f) o u kq N kd M a n0 x y.2.1 y.2.2 y.1 Hx hM8 hy (by omega)) yk_M_lookAt ml_M_203 im_M_lookAt se_M_lookAt d_M_search_147 rfl rfl rfl rfl (by exact Nat.le_of_ble_eq_true rfl) (by exact ⟨Nat.le_of_ble_eq_true rfl, Nat.le_of_ble_eq_true rfl⟩) (by exact ⟨Nat.le_of_ble_eq_true rfl, Nat.le_of_ble_eq_true rfl⟩) (fun h => by cases h) ?_
        rw [e1, e2]
        have hz := lkM_le (G := gd S u kq N x) (g := fun d => scM S o u x d 1 kq) (a := a) (n := n0) (y := (y.1, y.2.2)) hy
        generalize lkM (gd S u kq N x) (fun d => scM S o u x d 1 kq) M a n0 (y.1, y.2.2) = z at hR hz ⊢
        generalize y.2.1 + 1 = w at hR ⊢
        exact hgo (z.1, w, z.2) hz hR
      refine vs_icmp_lt (tgt := 138) C d_M_search_121 (by decide) (fun h2 => ?_) (fun h2 => ?_)
      · exact h138 (Or.inl ((nI_ltI (by omega) (by omega)).mp h2))
      · refine vs_fload C rfl d_M_search_124 ?_
        refine vs_aload_n C rfl d_M_search_126 ?_
        refine vs_get C fl_M_81 d_M_search_127 rfl rfl ?_
        refine vs_iload_n C rfl d_M_search_130 ?_
        refine vs_iconst (v := 1) C (by decide) d_M_search_131 ?_
        refine vs_isub C d_M_search_132 ?_
        refine vs_faldN C d_M_search_133 rfl ((pk_sub (a := M) (b := 1) (by omega))) ((by omega)) (by decide) ?_
        refine vs_fcmp C d_M_search_134 ?_
        refine vs_if_le (tgt := 150) C d_M_search_135 (by decide) (fun h3 => ?_) (fun h3 => ?_)
        · have hno : ¬ (y.1.2.2 < M ∨ 0 < cmpL (scM S o u x a n0 kq) (y.1.2.1 (M - 1))) := by
            rintro (h | h)
            · exact h2 (nI_lt h (by omega))
            · exact absurd h (Int32.not_lt.mpr h3)
          rw [if_neg hno] at hR
          exact hgo y hy hR
        · exact h138 (Or.inr (Int32.not_le.mp h3))
def sgM (S : vs_S) (o : Nat → Nat) (u kq N kd M : Nat) (y0 : fm × hp × Int32 × Int32) : Nat → fm × hp × Int32 × Int32
  | 0 => y0
  | i + 1 => (mUse (S.1 52 i) (nI u) (sgM S o u kq N kd M y0 i).1, psM S o u kq N kd M (S.1 52 i) (kd + 1) 0 (sgM S o u kq N kd M y0 i).2)
theorem sgM_le {S : vs_S} {o : Nat → Nat} {u kq N kd M : Nat} {y0 : fm × hp × Int32 × Int32} (h1 : y0.1.2.2.2.1 ≤ 5) (h2 : y0.2.1.2.2 ≤ M) : ∀ i, (sgM S o u kq N kd M y0 i).1.2.2.2.1 ≤ 5 ∧ (sgM S o u kq N kd M y0 i).2.1.2.2 ≤ M
  | 0 => ⟨h1, h2⟩
  | i + 1 => ⟨mUse_le (sgM_le h1 h2 i).1, psM_le _ _ _ (sgM_le h1 h2 i).2⟩
theorem mse_o (C : vs_X p s m args meth c b D aC "VeilSearchModel" c_M_search 9) (S : vs_S) (o : Nat → Nat) (u kq N kd M ks0 : Nat) (H : sH S o u kq N kd) (hM1 : 1 ≤ M) (hM8 : M ≤ 8) (hks : (S.2.2.2.2.1 35 29) = nI ks0) (hks6 : ks0 ≤ 6) (y0 : fm × hp × Int32 × Int32) (hy1 : y0.1.2.2.2.1 ≤ 5) (hy2 : y0.2.1.2.2 ≤ M) (K : ∀ o4 o5 o6 o7 o8, vs_G p l e { frames := 3, cells := 0, slots := 0, locals := 80 } s m args below meth c b D aC 9 Q 0 0 false (vs_mem (xM (xFM S (sgM S o u kq N kd M y0 ks0).1) (sgM S o u kq N kd M y0 ks0).2.1 (sgM S o u kq N kd M y0 ks0).2.2.1 (sgM S o u kq N kd M y0 ks0).2.2.2)) 173 [some (.ref 35), some (.int (nI u)), some (.int (nI M)), some (.int (nI ks0)), o4, o5, o6, o7, o8] []) : ∀ n i : Nat, i ≤ ks0 → ks0 - i < n → ∀ o4 o5 o6 o7 o8, vs_G p l e { frames := 3, cells := 0, slots := 0, locals := 80 } s m args below meth c b D aC 9 Q 0 0 false (vs_mem (xM (xFM S (sgM S o u kq N kd M y0 i).1) (sgM S o u kq N kd M y0 i).2.1 (sgM S o u kq N kd M y0 i).2.2.1 (sgM S o u kq N kd M y0 i).2.2.2)) 52 [some (.ref 35), some (.int (nI u)), some (.int (nI M)), some (.int (nI i)), o4, o5, o6, o7, o8] [] := by
  intro n
  induction n with
  | zero => intro i _ h; omega
  | succ n ih =>
    intro i hi hn o4 o5 o6 o7 o8
    have ih2 := ih (i + 1)
    simp only [sgM] at ih2
    have hle := sgM_le (S := S) (o := o) (u := u) (kq := kq) (N := N) (kd := kd) hy1 hy2 i
    have K2 := K o4 o5 o6 o7 o8
    by_cases hlast : i = ks0
    · subst hlast
      generalize sgM S o u kq N kd M y0 i = y at K2 ⊢
      refine vs_iload_n C rfl d_M_search_52 ?_
      refine vs_aload_n C rfl d_M_search_53 ?_
      refine vs_get C fl_M_128 d_M_search_54 rfl rfl ?_
      refine vs_icmp_ge (tgt := 173) C d_M_search_57 (by decide) (fun h1 => ?_) (fun h1 => ?_)
      · exact K2
      · exact absurd (n_lt (N := i) (i := i) h1 hks rfl (by omega) (by omega)) (by omega)
    · clear K2
      generalize sgM S o u kq N kd M y0 i = y at ih2 hle ⊢
      refine vs_iload_n C rfl d_M_search_52 ?_
      refine vs_aload_n C rfl d_M_search_53 ?_
      refine vs_get C fl_M_128 d_M_search_54 rfl rfl ?_
      refine vs_icmp_ge (tgt := 173) C d_M_search_57 (by decide) (fun h1 => ?_) (fun h1 => ?_)
      · exact absurd (n_ge (N := ks0) (i := i) h1 hks rfl (by omega) (by omega)) (by omega)
      · refine vs_aload_n C rfl d_M_search_60 ?_
        refine vs_get C fl_M_59 d_M_search_61 rfl rfl ?_
        refine vs_iload_n C rfl d_M_search_64 ?_
        refine vs_ialdN C d_M_search_65 rfl (rfl) ((by omega)) (by decide) ?_
        refine vs_istore C d_M_search_66 (by decide) ?_
        refine vs_iconst (v := 0) C (by decide) d_M_search_68 ?_
        refine vs_istore C d_M_search_69 (by decide) ?_
        refine vs_aload_n C rfl d_M_search_71 ?_
        refine vs_iload C rfl d_M_search_72 ?_
        refine vs_iload_n C rfl d_M_search_74 ?_
        refine vs_cV C (k_M_useFilter l b D aC S y.1 y.2.1 y.2.2.1 y.2.2.2 (S.1 52 i) (nI u) hle.1) yk_M_useFilter ml_M_192 im_M_useFilter se_M_useFilter d_M_search_75 rfl rfl rfl rfl (by exact Nat.le_of_ble_eq_true rfl) (by exact ⟨Nat.le_of_ble_eq_true rfl, Nat.le_of_ble_eq_true rfl⟩) (by exact ⟨Nat.le_of_ble_eq_true rfl, Nat.le_of_ble_eq_true rfl⟩) (fun h => by cases h) ?_
        generalize mUse (S.1 52 i) (nI u) y.1 = f at ih2 ⊢
        have hid := H.2.2.2.2.2.2.2.2.2.2
        have hkd := H.2.2.2.2.2.2.2.2.1
        refine vs_aload_n C rfl d_M_search_78 ?_
        refine vs_iload C rfl d_M_search_79 ?_
        refine vs_iload C rfl d_M_search_81 ?_
        refine vs_cV C (k_M_isLeft l b D aC (xM (xFM S f) y.2.1 y.2.2.1 y.2.2.2) 0 kd (S.1 52 i) (by show S.2.2.2.2.1 35 27 = _; rw [show 0 + kd = kd by omega]; exact hid) (by omega)) yk_M_isLeft ml_M_196 im_M_isLeft se_M_isLeft d_M_search_83 rfl rfl rfl rfl (by exact Nat.le_of_ble_eq_true rfl) (by exact ⟨Nat.le_of_ble_eq_true rfl, Nat.le_of_ble_eq_true rfl⟩) (by exact ⟨Nat.le_of_ble_eq_true rfl, Nat.le_of_ble_eq_true rfl⟩) (fun h => by cases h) ?_
        refine vs_istore C d_M_search_86 (by decide) ?_
        refine mps C S f o u kq N kd M i (S.1 52 i) H hM1 hM8 (psM S o u kq N kd M (S.1 52 i) (kd + 1) 0 y.2) (fun o5 o6 o7 o8 => ?_) (kd + 1) 0 y.2 _ _ (Nat.zero_le _) (by omega) hle.2 rfl
        refine vs_iinc C d_M_search_167 rfl (nI_1 i) (by decide) ?_
        refine vs_goto (tgt := 52) C d_M_search_170 (by decide) ?_
        exact ih2 (by omega) (by omega) _ _ _ _ _
end MSe
set_option maxRecDepth 100000 in
set_option maxHeartbeats 4000000 in
theorem k_M_search_1 (l : Launch) (b : Nat) (D : va_G) (aC : Nat → ClassId) (S : vs_S) (u k : Int32) (hn : ¬ seaOK u k) : vs_M l b D aC false false y_M_search (.code y_M_search c_M_search 9 (Option.some Jvm.ClassFile.FieldType.int)) { frames := 3, cells := 0, slots := 0, locals := 80 } [.ref 35, .int u, .int k] (vs_mem S) (vs_ret (some (.int 0)) (vs_mem (mTh S 1))) := by
  refine vs_M.of (by decide) (Nat.le_of_ble_eq_true rfl) ?_
  intro p e s m args below meth c C hmn hr hx htg
  generalize hQ : vs_E below args s b D aC false false (vs_ret (some (.int 0)) (vs_mem (mTh S 1))) { frames := 3, cells := 0, slots := 0, locals := 80 } = Q
  have h20 : vs_G p l e { frames := 3, cells := 0, slots := 0, locals := 80 } s m args below meth c b D aC 9 Q 0 0 true (vs_mem S) 20 [some (.ref 35), some (.int u), some (.int k), none, none, none, none, none, none] [] := by
    refine vs_aload_n C rfl d_M_search_20 ?_
    refine vs_iconst (v := 1) C (by decide) d_M_search_21 ?_
    refine vs_cV C (k_M_fail l b D aC S 1) yk_M_fail ml_M_102 im_M_fail se_M_fail d_M_search_22 rfl rfl rfl rfl (by exact Nat.le_of_ble_eq_true rfl) (by exact ⟨Nat.le_of_ble_eq_true rfl, Nat.le_of_ble_eq_true rfl⟩) (by exact ⟨Nat.le_of_ble_eq_true rfl, Nat.le_of_ble_eq_true rfl⟩) (fun h => by cases h) ?_
    subst hQ
    exact vs_iret C hr d_M_search_25 ⟨Nat.le_of_ble_eq_true rfl, Nat.le_of_ble_eq_true rfl⟩ (fun h => by cases h) (by first | exact (fun _ => rfl) | exact (fun h => by cases h)) (⟨rfl, rfl⟩)
  refine vs_iload_n C rfl d_M_search_0 ?_
  refine vs_iconst (v := 0) C (by decide) d_M_search_1 ?_
  refine vs_bipush (v := 7) C (by decide) d_M_search_2 ?_
  refine vs_cS C (k_M_in l b D aC S u 0 7) yk_M_in ml_M_98 st_M_in d_M_search_4 rfl rfl (by exact Nat.le_of_ble_eq_true rfl) (by exact ⟨Nat.le_of_ble_eq_true rfl, Nat.le_of_ble_eq_true rfl⟩) (by exact ⟨Nat.le_of_ble_eq_true rfl, Nat.le_of_ble_eq_true rfl⟩) (fun h => by cases h) ?_
  rw [in_b (b := 8) (by decide)]
  refine vs_if_eq (tgt := 20) C d_M_search_7 (by decide) (fun h1 => ?_) (fun h1 => ?_)
  · exact h20
  · refine vs_iload_n C rfl d_M_search_10 ?_
    refine vs_iconst (v := 1) C (by decide) d_M_search_11 ?_
    refine vs_bipush (v := 8) C (by decide) d_M_search_12 ?_
    refine vs_cS C (k_M_in l b D aC S k 1 8) yk_M_in ml_M_98 st_M_in d_M_search_14 rfl rfl (by exact Nat.le_of_ble_eq_true rfl) (by exact ⟨Nat.le_of_ble_eq_true rfl, Nat.le_of_ble_eq_true rfl⟩) (by exact ⟨Nat.le_of_ble_eq_true rfl, Nat.le_of_ble_eq_true rfl⟩) (fun h => by cases h) ?_
    refine vs_if_ne (tgt := 26) C d_M_search_17 (by decide) (fun h2 => ?_) (fun h2 => ?_)
    · have q := b01_n h2
      exact absurd ⟨b01_n h1, Int32.not_lt.mpr q.1, q.2⟩ hn
    · exact h20
def sqM (S : vs_S) (o : Nat → Nat) (kq : Nat) : vs_S := oS (mTh S 0) (arrN (S.1 54) (S.1 55) kq o)
set_option maxRecDepth 100000 in
set_option maxHeartbeats 4000000 in
theorem k_M_search_0 (l : Launch) (b : Nat) (D : va_G) (aC : Nat → ClassId) (S : vs_S) (o : Nat → Nat) (u M kq N kd kf ks0 : Nat) (hu : u < 8) (hM1 : 1 ≤ M) (hM8 : M ≤ 8) (ho : S.1 56 = fun i => nI (o i)) (hob : ∀ q, o q < 6) (H : sH (sqM S o kq) (arrN (S.1 54) (S.1 55) kq o) u kq N kd) (hks : (S.2.2.2.2.1 35 29) = nI ks0) (hks6 : ks0 ≤ 6) (hkf : (S.2.2.2.2.1 35 35) = nI kf) (hkf5 : kf ≤ 5) (y : fm × hp × Int32 × Int32) (hy : y = sgM (sqM S o kq) (arrN (S.1 54) (S.1 55) kq o) u kq N kd M ((S.1 60, S.1 61, S.1 62, kf, (S.2.2.2.2.1 35 36), (S.2.2.2.2.1 35 37), (S.2.2.2.2.1 35 38)), (S.1 57, S.2.2.1 59, 0), 0, 0) ks0) : vs_M l b D aC false false y_M_search (.code y_M_search c_M_search 9 (Option.some Jvm.ClassFile.FieldType.int)) { frames := 3, cells := 0, slots := 0, locals := 80 } [.ref 35, .int (nI u), .int (nI M)] (vs_mem S) (vs_ret (some (.int (nI y.2.1.2.2))) (vs_mem (xM (xFM (sqM S o kq) y.1) y.2.1 y.2.2.1 y.2.2.2))) := by
  refine vs_M.of (by decide) (Nat.le_of_ble_eq_true rfl) ?_
  intro p e s m args below meth c C hmn hr hx htg
  generalize hQ : vs_E below args s b D aC false false (vs_ret (some (.int (nI y.2.1.2.2))) (vs_mem (xM (xFM (sqM S o kq) y.1) y.2.1 y.2.2.1 y.2.2.2))) { frames := 3, cells := 0, slots := 0, locals := 80 } = Q
  have hk : S.2.2.2.2.1 35 31 = nI kq := H.2.1
  have hk6 := H.2.2.1
  refine vs_iload_n C rfl d_M_search_0 ?_
  refine vs_iconst (v := 0) C (by decide) d_M_search_1 ?_
  refine vs_bipush (v := 7) C (by decide) d_M_search_2 ?_
  refine vs_cS C (k_M_in l b D aC S (nI u) 0 7) yk_M_in ml_M_98 st_M_in d_M_search_4 rfl rfl (by exact Nat.le_of_ble_eq_true rfl) (by exact ⟨Nat.le_of_ble_eq_true rfl, Nat.le_of_ble_eq_true rfl⟩) (by exact ⟨Nat.le_of_ble_eq_true rfl, Nat.le_of_ble_eq_true rfl⟩) (fun h => by cases h) ?_
  rw [in_b (b := 8) (by decide)]
  refine vs_if_eq (tgt := 20) C d_M_search_7 (by decide) (fun h1 => ?_) (fun h1 => ?_)
  · exact absurd ⟨Int32.not_lt.mp (nI_pos (by omega)), nI_lt hu (by decide)⟩ (b01_0.mp h1)
  · refine vs_iload_n C rfl d_M_search_10 ?_
    refine vs_iconst (v := 1) C (by decide) d_M_search_11 ?_
    refine vs_bipush (v := 8) C (by decide) d_M_search_12 ?_
    refine vs_cS C (k_M_in l b D aC S (nI M) 1 8) yk_M_in ml_M_98 st_M_in d_M_search_14 rfl rfl (by exact Nat.le_of_ble_eq_true rfl) (by exact ⟨Nat.le_of_ble_eq_true rfl, Nat.le_of_ble_eq_true rfl⟩) (by exact ⟨Nat.le_of_ble_eq_true rfl, Nat.le_of_ble_eq_true rfl⟩) (fun h => by cases h) ?_
    refine vs_if_ne (tgt := 26) C d_M_search_17 (by decide) (fun h2 => ?_) (fun h2 => ?_)
    · refine vs_aload_n C rfl d_M_search_26 ?_
      refine vs_iconst (v := 0) C (by decide) d_M_search_27 ?_
      refine vs_put C fl_M_94 d_M_search_28 rfl rfl rfl (Nat.le_of_ble_eq_true rfl) ?_
      refine vs_aload_n C rfl d_M_search_31 ?_
      refine vs_iconst (v := 0) C (by decide) d_M_search_32 ?_
      refine vs_put C fl_M_157 d_M_search_33 rfl rfl rfl (Nat.le_of_ble_eq_true rfl) ?_
      refine vs_aload_n C rfl d_M_search_36 ?_
      refine vs_iconst (v := 0) C (by decide) d_M_search_37 ?_
      refine vs_put C fl_M_169 d_M_search_38 rfl rfl rfl (Nat.le_of_ble_eq_true rfl) ?_
      refine vs_aload_n C rfl d_M_search_41 ?_
      refine vs_iconst (v := 0) C (by decide) d_M_search_42 ?_
      refine vs_put C fl_M_178 d_M_search_43 rfl rfl rfl (Nat.le_of_ble_eq_true rfl) ?_
      refine vs_aload_n C rfl d_M_search_46 ?_
      refine vs_mem_eq (mem2 := vs_mem (oS (xM3 (mTh S 0) 0 0 0) o)) (by unfold oS; rw [← ho]; rfl) ?_
      refine vs_cV C (k_M_arrange l b D aC (xM3 (mTh S 0) 0 0 0) o kq hob hk hk6) yk_M_arrange ml_M_189 im_M_arrange se_M_arrange d_M_search_47 rfl rfl rfl rfl (by exact Nat.le_of_ble_eq_true rfl) (by exact ⟨Nat.le_of_ble_eq_true rfl, Nat.le_of_ble_eq_true rfl⟩) (by exact ⟨Nat.le_of_ble_eq_true rfl, Nat.le_of_ble_eq_true rfl⟩) (fun h => by cases h) ?_
      refine vs_iconst (v := 0) C (by decide) d_M_search_50 ?_
      refine vs_istore_n C d_M_search_51 (by decide) ?_
      refine vs_mem_eq (mem2 := vs_mem (xM (xFM (sqM S o kq) (S.1 60, S.1 61, S.1 62, kf, (S.2.2.2.2.1 35 36), (S.2.2.2.2.1 35 37), (S.2.2.2.2.1 35 38))) (S.1 57, S.2.2.1 59, 0) 0 0)) ?_ ?_
      · have e1 : vs_mem (xM (xFM (sqM S o kq) (S.1 60, S.1 61, S.1 62, kf, (S.2.2.2.2.1 35 36), (S.2.2.2.2.1 35 37), (S.2.2.2.2.1 35 38))) (S.1 57, S.2.2.1 59, 0) 0 0) = vs_mem (vs_ui (oS (xM3 (mTh S 0) 0 0 0) (arrN (S.1 54) (S.1 55) kq o)) 35 35 (nI kf)) := rfl
        rw [e1, ← hkf]
        rfl
      · refine vs_ck (mse_o C (sqM S o kq) (arrN (S.1 54) (S.1 55) kq o) u kq N kd M ks0 H hM1 hM8 hks hks6 ((S.1 60, S.1 61, S.1 62, kf, (S.2.2.2.2.1 35 36), (S.2.2.2.2.1 35 37), (S.2.2.2.2.1 35 38)), (S.1 57, S.2.2.1 59, 0), 0, 0) hkf5 (Nat.zero_le _) (fun o4 o5 o6 o7 o8 => ?_) (ks0 + 1) 0 (Nat.zero_le _) (by omega) none none none none none)
        rw [← hy]
        refine vs_aload_n C rfl d_M_search_173 ?_
        refine vs_get C fl_M_157 d_M_search_174 rfl rfl ?_
        subst hQ
        exact vs_iret C hr d_M_search_177 ⟨Nat.le_of_ble_eq_true rfl, Nat.le_of_ble_eq_true rfl⟩ (fun h => by cases h) (by first | exact (fun _ => rfl) | exact (fun h => by cases h)) (⟨rfl, rfl⟩)
    · exact absurd ⟨(nI_leI (by decide) (by omega)).mpr hM1, (nI_leI (by omega) (by decide)).mpr hM8⟩ (b01_0.mp h2)

