def anyB (P : Nat → Bool) : Nat → Bool
  | 0 => false
  | n + 1 => anyB P n || P n
theorem anyB_iff {P : Nat → Bool} : ∀ {n : Nat}, anyB P n = true ↔ ∃ i, i < n ∧ P i = true
  | 0 => ⟨(fun h => by cases h), fun ⟨i, h, _⟩ => by omega⟩
  | n + 1 => by
    simp only [anyB, Bool.or_eq_true, anyB_iff (n := n)]
    constructor
    · rintro (⟨i, h1, h2⟩ | h)
      · exact ⟨i, by omega, h2⟩
      · exact ⟨n, by omega, h⟩
    · rintro ⟨i, h1, h2⟩
      rcases Nat.lt_or_ge i n with h | h
      · exact Or.inl ⟨i, h, h2⟩
      · have : i = n := by omega
        subst this
        exact Or.inr h2
/-- the CODE that CLAUSE i asks DOCUMENT d for -/
def cdx (S : vs_S) (d i : Nat) : Int32 := S.1 2 ((d * 3 + (S.1 13 i).toNatClampNeg) * 8 + (S.1 12 i).toNatClampNeg)
def bad (S : vs_S) (d i : Nat) : Bool := decide (¬ S.1 15 i = 0) && ((decide (S.1 11 i = 1) && decide (cdx S d i ≤ 0)) || (decide (S.1 11 i = 2) && decide (¬ cdx S d i ≤ 0)))
def scs (S : vs_S) (d i : Nat) : Bool := decide (¬ S.1 15 i = 0) && (decide (S.1 11 i = 0) && decide (¬ cdx S d i ≤ 0))
def fnd (S : vs_S) (d k : Nat) : Bool := !anyB (bad S d) k && (anyB (scs S d) k && decide (S.2.2.2.2.1 10 5 = 0))
theorem b01_n {c : Prop} [Decidable c] (h : ¬ b01 c = 0) : c := Decidable.not_not.mp (fun q => h (b01_f q))
section Fnd
variable {p : Program} {l : Launch} {e : Env} {R : Room} {s : State} {m : MethodId} {args : Array Value} {below : List Frame} {meth : Method} {c : Code} {b : Nat} {D : va_G} {aC : Nat → ClassId} {Q : State → Prop} {kc ks : Nat} {ck : Bool}
theorem fnd_l (C : vs_X p s m args meth c b D aC "VeilSearch$Query" c_Q_finds 6) (S : vs_S) (d k : Nat) (hd : d < 41) (hk : (S.2.2.2.2.1 10 6) = nI k) (hk6 : k ≤ 6) (hfl : ∀ i, i < k → (∃ f, f < 3 ∧ S.1 13 i = nI f) ∧ ∃ t, t < 8 ∧ S.1 12 i = nI t) (K0 : ∀ lv, anyB (bad S d) k = true → vs_G p l e { frames := 2, cells := 0, slots := 0, locals := 43 } s m args below meth c b D aC 6 Q 0 0 true (vs_mem S) 90 lv [.int 0]) (K1 : ∀ lv5, anyB (bad S d) k = false → vs_G p l e { frames := 2, cells := 0, slots := 0, locals := 43 } s m args below meth c b D aC 6 Q 0 0 true (vs_mem S) 124 [some (.ref 10), some (.int (nI d)), some (.ref 1), some (.int (b01 (anyB (scs S d) k = true))), some (.int (nI k)), lv5] []) : ∀ n i : Nat, i ≤ k → k - i < n → anyB (bad S d) i = false → ∀ lv5, vs_G p l e { frames := 2, cells := 0, slots := 0, locals := 43 } s m args below meth c b D aC 6 Q 0 0 true (vs_mem S) 5 [some (.ref 10), some (.int (nI d)), some (.ref 1), some (.int (b01 (anyB (scs S d) i = true))), some (.int (nI i)), lv5] [] := by
  intro n
  induction n with
  | zero => intro i _ h; omega
  | succ n ih =>
    intro i hi hn hb lv5
    refine vs_iload C rfl d_Q_finds_5 ?_
    refine vs_aload_n C rfl d_Q_finds_7 ?_
    refine vs_get C fl_Q_33 d_Q_finds_8 rfl rfl ?_
    refine vs_icmp_ge (tgt := 124) C d_Q_finds_11 (by decide) (fun h1 => ?_) (fun h1 => ?_)
    · have h2 := n_ge (N := k) (i := i) h1 hk rfl (by omega) (by omega)
      obtain rfl : i = k := by omega
      exact K1 lv5 hb
    · have hlt := n_lt (N := k) (i := i) h1 hk rfl (by omega) (by omega)
      obtain ⟨⟨f, hf3, hf⟩, t, ht8, ht⟩ := hfl i hlt
      have hcd : cdx S d i = S.1 2 ((d * 3 + f) * 8 + t) := by
        simp only [cdx, hf, ht, nI_clamp (show f < 2 ^ 31 by omega), nI_clamp (show t < 2 ^ 31 by omega)]
      refine vs_aload_n C rfl d_Q_finds_14 ?_
      refine vs_get C fl_Q_51 d_Q_finds_15 rfl rfl ?_
      refine vs_iload_n C rfl d_Q_finds_18 ?_
      refine vs_aload_n C rfl d_Q_finds_19 ?_
      refine vs_get C fl_Q_18 d_Q_finds_20 rfl rfl ?_
      refine vs_iload C rfl d_Q_finds_23 ?_
      refine vs_ialdN C d_Q_finds_25 rfl (rfl) ((by omega)) (by decide) ?_
      refine vs_aload_n C rfl d_Q_finds_26 ?_
      refine vs_get C fl_Q_15 d_Q_finds_27 rfl rfl ?_
      refine vs_iload C rfl d_Q_finds_30 ?_
      refine vs_ialdN C d_Q_finds_32 rfl (rfl) ((by omega)) (by decide) ?_
      refine vs_st_eq (st2 := [.int (nI t), .int (nI f), .int (nI d), .ref 2]) (by rw [← hf, ← ht] <;> rfl) ?_
      refine vs_cS C (k_D_codePlace l b D aC S (nI d) (nI f) (nI t)) yk_D_codePlace ml_Q_56 st_D_codePlace d_Q_finds_33 rfl rfl (by exact Nat.le_of_ble_eq_true rfl) (by exact ⟨Nat.le_of_ble_eq_true rfl, Nat.le_of_ble_eq_true rfl⟩) (by exact ⟨Nat.le_of_ble_eq_true rfl, Nat.le_of_ble_eq_true rfl⟩) (fun h => by cases h) ?_
      refine vs_ialdN C d_Q_finds_36 rfl (cpl) ((by omega)) (by decide) ?_
      rw [← hcd]
      have hgo : ∀ v : Int32, v = b01 (¬ cdx S d i ≤ 0) → vs_G p l e { frames := 2, cells := 0, slots := 0, locals := 43 } s m args below meth c b D aC 6 Q 0 0 true (vs_mem S) 45 [some (.ref 10), some (.int (nI d)), some (.ref 1), some (.int (b01 (anyB (scs S d) i = true))), some (.int (nI i)), lv5] [.int v] := by
        intro v hv
        refine vs_istore C d_Q_finds_45 (by decide) ?_
        refine vs_aload_n C rfl d_Q_finds_47 ?_
        refine vs_get C fl_Q_25 d_Q_finds_48 rfl rfl ?_
        refine vs_iload C rfl d_Q_finds_51 ?_
        refine vs_zaldN C d_Q_finds_53 rfl (rfl) ((by omega)) (by decide) ?_
        -- behind: no more bad
        have hbk : bad S d i = true → anyB (bad S d) k = true := fun h => anyB_iff.mpr ⟨i, hlt, h⟩
        have hnx : bad S d i = false → vs_G p l e { frames := 2, cells := 0, slots := 0, locals := 43 } s m args below meth c b D aC 6 Q 0 0 true (vs_mem S) 91 [some (.ref 10), some (.int (nI d)), some (.ref 1), some (.int (b01 (anyB (scs S d) i = true))), some (.int (nI i)), some (.int v)] [] := by
          intro hbf
          have hst : ∀ w : Int32, w = b01 (anyB (scs S d) (i + 1) = true) → vs_G p l e { frames := 2, cells := 0, slots := 0, locals := 43 } s m args below meth c b D aC 6 Q 0 0 true (vs_mem S) 118 [some (.ref 10), some (.int (nI d)), some (.ref 1), some (.int w), some (.int (nI i)), some (.int v)] [] := by
            intro w hw
            subst hw
            refine vs_iinc C d_Q_finds_118 rfl (nI_1 i) (by decide) ?_
            refine vs_goto (tgt := 5) C d_Q_finds_121 (by decide) ?_
            exact ih (i + 1) (by omega) (by omega) (by simp [anyB, hb, hbf]) (some (.int v))
          have hsame : scs S d i = false → b01 (anyB (scs S d) i = true) = b01 (anyB (scs S d) (i + 1) = true) := by
            intro h
            simp [anyB, h]
          refine vs_aload_n C rfl d_Q_finds_91 ?_
          refine vs_get C fl_Q_25 d_Q_finds_92 rfl rfl ?_
          refine vs_iload C rfl d_Q_finds_95 ?_
          refine vs_zaldN C d_Q_finds_97 rfl (rfl) ((by omega)) (by decide) ?_
          refine vs_if_eq (tgt := 118) C d_Q_finds_98 (by decide) (fun g1 => ?_) (fun g1 => ?_)
          · exact hst _ (hsame (by simp [scs, show S.1 15 i = 0 from g1]))
          · refine vs_aload_n C rfl d_Q_finds_101 ?_
            refine vs_get C fl_Q_9 d_Q_finds_102 rfl rfl ?_
            refine vs_iload C rfl d_Q_finds_105 ?_
            refine vs_ialdN C d_Q_finds_107 rfl (rfl) ((by omega)) (by decide) ?_
            refine vs_if_ne (tgt := 118) C d_Q_finds_108 (by decide) (fun g2 => ?_) (fun g2 => ?_)
            · exact hst _ (hsame (by simp [scs, show ¬ S.1 11 i = 0 from g2]))
            · refine vs_iload C rfl d_Q_finds_111 ?_
              refine vs_if_eq (tgt := 118) C d_Q_finds_113 (by decide) (fun g3 => ?_) (fun g3 => ?_)
              · have g3' : cdx S d i ≤ 0 := by
                  have : v = 0 := g3
                  rw [hv] at this
                  exact Decidable.not_not.mp (b01_0.mp this)
                exact hst _ (hsame (by simp [scs, g3']))
              · have g3' : ¬ cdx S d i ≤ 0 := by
                  have : ¬ v = 0 := g3
                  rw [hv] at this
                  exact b01_n this
                refine vs_iconst (v := 1) C (by decide) d_Q_finds_116 ?_
                refine vs_istore_n C d_Q_finds_117 (by decide) ?_
                have hs : scs S d i = true := by simp [scs, show ¬ S.1 15 i = 0 from g1, show S.1 11 i = 0 from g2, g3']
                exact hst 1 (b01_t (by simp [anyB, hs])).symm
        have hret : ∀ lv, bad S d i = true → vs_G p l e { frames := 2, cells := 0, slots := 0, locals := 43 } s m args below meth c b D aC 6 Q 0 0 true (vs_mem S) 89 lv [] := by
          intro lv h
          refine vs_iconst (v := 0) C (by decide) d_Q_finds_89 ?_
          exact K0 lv (hbk h)
        refine vs_if_eq (tgt := 91) C d_Q_finds_54 (by decide) (fun g1 => ?_) (fun g1 => ?_)
        · exact hnx (by simp [bad, show S.1 15 i = 0 from g1])
        · have g1' : ¬ S.1 15 i = 0 := g1
          refine vs_aload_n C rfl d_Q_finds_57 ?_
          refine vs_get C fl_Q_9 d_Q_finds_58 rfl rfl ?_
          refine vs_iload C rfl d_Q_finds_61 ?_
          refine vs_ialdN C d_Q_finds_63 rfl (rfl) ((by omega)) (by decide) ?_
          refine vs_iconst (v := 1) C (by decide) d_Q_finds_64 ?_
          have h73 : ¬ (S.1 11 i = 1 ∧ cdx S d i ≤ 0) → vs_G p l e { frames := 2, cells := 0, slots := 0, locals := 43 } s m args below meth c b D aC 6 Q 0 0 true (vs_mem S) 73 [some (.ref 10), some (.int (nI d)), some (.ref 1), some (.int (b01 (anyB (scs S d) i = true))), some (.int (nI i)), some (.int v)] [] := by
            intro hno
            refine vs_aload_n C rfl d_Q_finds_73 ?_
            refine vs_get C fl_Q_9 d_Q_finds_74 rfl rfl ?_
            refine vs_iload C rfl d_Q_finds_77 ?_
            refine vs_ialdN C d_Q_finds_79 rfl (rfl) ((by omega)) (by decide) ?_
            refine vs_iconst (v := 2) C (by decide) d_Q_finds_80 ?_
            refine vs_icmp_ne (tgt := 91) C d_Q_finds_81 (by decide) (fun g2 => ?_) (fun g2 => ?_)
            · have g2' : ¬ S.1 11 i = 2 := g2
              refine hnx ?_
              simp only [bad, g1', g2', not_false_eq_true, decide_true, decide_false, Bool.true_and, Bool.false_and, Bool.or_false]
              rw [Bool.and_eq_false_iff]
              by_cases q : S.1 11 i = 1
              · right; simp only [decide_eq_false_iff_not]; exact fun z => hno ⟨q, z⟩
              · left; simp [q]
            · have g2' : S.1 11 i = 2 := g2
              refine vs_iload C rfl d_Q_finds_84 ?_
              refine vs_if_eq (tgt := 91) C d_Q_finds_86 (by decide) (fun g3 => ?_) (fun g3 => ?_)
              · have g3' : cdx S d i ≤ 0 := by
                  have : v = 0 := g3
                  rw [hv] at this
                  exact Decidable.not_not.mp (b01_0.mp this)
                exact hnx (by simp [bad, g1', g2', g3'])
              · have g3' : ¬ cdx S d i ≤ 0 := by
                  have : ¬ v = 0 := g3
                  rw [hv] at this
                  exact b01_n this
                exact hret _ (by simp [bad, g1', g2', g3'])
          refine vs_icmp_ne (tgt := 73) C d_Q_finds_65 (by decide) (fun g2 => ?_) (fun g2 => ?_)
          · exact h73 (fun h => g2 h.1)
          · have g2' : S.1 11 i = 1 := g2
            refine vs_iload C rfl d_Q_finds_68 ?_
            refine vs_if_eq (tgt := 89) C d_Q_finds_70 (by decide) (fun g3 => ?_) (fun g3 => ?_)
            · have g3' : cdx S d i ≤ 0 := by
                have : v = 0 := g3
                rw [hv] at this
                exact Decidable.not_not.mp (b01_0.mp this)
              exact hret _ (by simp [bad, g1', g2', g3'])
            · have g3' : ¬ cdx S d i ≤ 0 := by
                have : ¬ v = 0 := g3
                rw [hv] at this
                exact b01_n this
              exact h73 (fun h => g3' h.2)
      refine vs_if_le (tgt := 44) C d_Q_finds_37 (by decide) (fun h3 => ?_) (fun h3 => ?_)
      · refine vs_iconst (v := 0) C (by decide) d_Q_finds_44 ?_
        exact hgo 0 (b01_f (fun h => h h3)).symm
      · refine vs_iconst (v := 1) C (by decide) d_Q_finds_40 ?_
        refine vs_goto (tgt := 45) C d_Q_finds_41 (by decide) ?_
        exact hgo 1 (b01_t h3).symm
end Fnd
set_option maxRecDepth 100000 in
set_option maxHeartbeats 4000000 in
theorem k_Q_finds (l : Launch) (b : Nat) (D : va_G) (aC : Nat → ClassId) (S : vs_S) (d k : Nat) (hd : d < 41) (hk : (S.2.2.2.2.1 10 6) = nI k) (hk6 : k ≤ 6) (hfl : ∀ i, i < k → (∃ f, f < 3 ∧ S.1 13 i = nI f) ∧ ∃ t, t < 8 ∧ S.1 12 i = nI t) : vs_M l b D aC false true y_Q_finds (.code y_Q_finds c_Q_finds 6 (Option.some Jvm.ClassFile.FieldType.boolean)) { frames := 2, cells := 0, slots := 0, locals := 43 } [.ref 10, .int (nI d), .ref 1] (vs_mem S) (vs_ret (some (.int (b01 (fnd S d k = true)))) (vs_mem S)) := by
  refine vs_M.of (by decide) (Nat.le_of_ble_eq_true rfl) ?_
  intro p e s m args below meth c C hmn hr hx htg
  generalize hQ : vs_E below args s b D aC false true (vs_ret (some (.int (b01 (fnd S d k = true)))) (vs_mem S)) { frames := 2, cells := 0, slots := 0, locals := 43 } = Q
  refine vs_iconst (v := 0) C (by decide) d_Q_finds_0 ?_
  refine vs_istore_n C d_Q_finds_1 (by decide) ?_
  refine vs_iconst (v := 0) C (by decide) d_Q_finds_2 ?_
  refine vs_istore C d_Q_finds_3 (by decide) ?_
  refine fnd_l C S d k hd hk hk6 hfl (fun lv h => ?_) (fun lv5 h => ?_) (k + 1) 0 (Nat.zero_le _) (by omega) rfl none
  · subst hQ
    exact vs_zret C hr (by rfl) d_Q_finds_90 ⟨Nat.le_of_ble_eq_true rfl, Nat.le_of_ble_eq_true rfl⟩ (fun h => by cases h) (by first | exact (fun _ => rfl) | exact (fun h => by cases h)) (vs_rti (b01_f (by simp [fnd, h])).symm)
  · refine vs_iload_n C rfl d_Q_finds_124 ?_
    refine vs_if_eq (tgt := 139) C d_Q_finds_125 (by decide) (fun h1 => ?_) (fun h1 => ?_)
    · refine vs_iconst (v := 0) C (by decide) d_Q_finds_139 ?_
      subst hQ
      exact vs_zret C hr (by rfl) d_Q_finds_140 ⟨Nat.le_of_ble_eq_true rfl, Nat.le_of_ble_eq_true rfl⟩ (fun h => by cases h) (by first | exact (fun _ => rfl) | exact (fun h => by cases h)) (vs_rti (b01_f (by intro q; simp only [fnd, Bool.and_eq_true] at q; exact absurd q.2.1 (b01_0.mp h1))).symm)
    · refine vs_aload_n C rfl d_Q_finds_128 ?_
      refine vs_get C fl_Q_29 d_Q_finds_129 rfl rfl ?_
      refine vs_if_ne (tgt := 139) C d_Q_finds_132 (by decide) (fun h2 => ?_) (fun h2 => ?_)
      · refine vs_iconst (v := 0) C (by decide) d_Q_finds_139 ?_
        subst hQ
        exact vs_zret C hr (by rfl) d_Q_finds_140 ⟨Nat.le_of_ble_eq_true rfl, Nat.le_of_ble_eq_true rfl⟩ (fun h => by cases h) (by first | exact (fun _ => rfl) | exact (fun h => by cases h)) (vs_rti (b01_f (by intro q; simp only [fnd, Bool.and_eq_true, decide_eq_true_eq] at q; exact h2 q.2.2)).symm)
      · refine vs_iconst (v := 1) C (by decide) d_Q_finds_135 ?_
        refine vs_goto (tgt := 140) C d_Q_finds_136 (by decide) ?_
        subst hQ
        exact vs_zret C hr (by rfl) d_Q_finds_140 ⟨Nat.le_of_ble_eq_true rfl, Nat.le_of_ble_eq_true rfl⟩ (fun h => by cases h) (by first | exact (fun _ => rfl) | exact (fun h => by cases h)) (vs_rti (b01_t (by simp only [fnd, Bool.and_eq_true, decide_eq_true_eq, h, Bool.not_false]; exact ⟨trivial, b01_n h1, h2⟩)).symm)
/-- the SCORE of a set of IDS: by the greatest CODES -/
def wor (S : vs_S) (n i : Nat) : UInt32 := FP.fdiv (FP.i2f (gc (S.1 2) (S.1 13 i).toNatClampNeg (S.1 12 i).toNatClampNeg 4 n 0)) 1098907648
def isS (S : vs_S) (i : Nat) : Bool := decide (¬ S.1 15 i = 0) && decide (S.1 11 i = 0)
def scF (S : vs_S) (n : Nat) : Nat → UInt32
  | 0 => FP.fconst0
  | i + 1 => if isS S i = true then FP.fadd (scF S n i) (FP.fmul (S.2.2.1 14 i) (wor S n i)) else scF S n i
def scOK (S : vs_S) (n i : Nat) : Prop := isS S i = true → vf_n32 (wor S n i) ∧ vf_n32 (FP.fmul (S.2.2.1 14 i) (wor S n i)) ∧ vf_n32 (FP.fadd (scF S n i) (FP.fmul (S.2.2.1 14 i) (wor S n i)))
section Sc
variable {p : Program} {l : Launch} {e : Env} {R : Room} {s : State} {m : MethodId} {args : Array Value} {below : List Frame} {meth : Method} {c : Code} {b : Nat} {D : va_G} {aC : Nat → ClassId} {Q : State → Prop} {kc ks : Nat} {ck : Bool}
theorem sc_l (C : vs_X p s m args meth c b D aC "VeilSearch$Query" c_Q_scoreOf 7) (S : vs_S) (n0 k : Nat) (hn0 : n0 < 2 ^ 40) (hk : (S.2.2.2.2.1 10 6) = nI k) (hk6 : k ≤ 6) (hfl : ∀ i, i < k → (∃ f, f < 3 ∧ S.1 13 i = nI f) ∧ ∃ t, t < 8 ∧ S.1 12 i = nI t) (hok : ∀ i, i < k → scOK S n0 i) (K : ∀ lv6, vs_G p l e { frames := 3, cells := 0, slots := 0, locals := 88 } s m args below meth c b D aC 7 Q 0 0 true (vs_mem S) 81 [some (.ref 10), some (.long (lN n0)), none, some (.ref 1), some (.float (scF S n0 k)), some (.int (nI k)), lv6] []) : ∀ n i : Nat, i ≤ k → k - i < n → ∀ lv6, vs_G p l e { frames := 3, cells := 0, slots := 0, locals := 88 } s m args below meth c b D aC 7 Q 0 0 true (vs_mem S) 6 [some (.ref 10), some (.long (lN n0)), none, some (.ref 1), some (.float (scF S n0 i)), some (.int (nI i)), lv6] [] := by
  intro n
  induction n with
  | zero => intro i _ h; omega
  | succ n ih =>
    intro i hi hn lv6
    refine vs_iload C rfl d_Q_scoreOf_6 ?_
    refine vs_aload_n C rfl d_Q_scoreOf_8 ?_
    refine vs_get C fl_Q_33 d_Q_scoreOf_9 rfl rfl ?_
    refine vs_icmp_ge (tgt := 81) C d_Q_scoreOf_12 (by decide) (fun h1 => ?_) (fun h1 => ?_)
    · have h2 := n_ge (N := k) (i := i) h1 hk rfl (by omega) (by omega)
      obtain rfl : i = k := by omega
      exact K lv6
    · have hlt := n_lt (N := k) (i := i) h1 hk rfl (by omega) (by omega)
      obtain ⟨⟨f, hf3, hf⟩, t, ht8, ht⟩ := hfl i hlt
      have hno : ¬ isS S i = true → vs_G p l e { frames := 3, cells := 0, slots := 0, locals := 88 } s m args below meth c b D aC 7 Q 0 0 true (vs_mem S) 75 [some (.ref 10), some (.long (lN n0)), none, some (.ref 1), some (.float (scF S n0 i)), some (.int (nI i)), lv6] [] := by
        intro h
        refine vs_iinc C d_Q_scoreOf_75 rfl (nI_1 i) (by decide) ?_
        refine vs_goto (tgt := 6) C d_Q_scoreOf_78 (by decide) ?_
        have := ih (i + 1) (by omega) (by omega) lv6
        rw [show scF S n0 (i + 1) = scF S n0 i from if_neg h] at this
        exact this
      refine vs_aload_n C rfl d_Q_scoreOf_15 ?_
      refine vs_get C fl_Q_25 d_Q_scoreOf_16 rfl rfl ?_
      refine vs_iload C rfl d_Q_scoreOf_19 ?_
      refine vs_zaldN C d_Q_scoreOf_21 rfl (rfl) ((by omega)) (by decide) ?_
      refine vs_if_eq (tgt := 75) C d_Q_scoreOf_22 (by decide) (fun g1 => ?_) (fun g1 => ?_)
      · exact hno (by simp [isS, show S.1 15 i = 0 from g1])
      · refine vs_aload_n C rfl d_Q_scoreOf_25 ?_
        refine vs_get C fl_Q_9 d_Q_scoreOf_26 rfl rfl ?_
        refine vs_iload C rfl d_Q_scoreOf_29 ?_
        refine vs_ialdN C d_Q_scoreOf_31 rfl (rfl) ((by omega)) (by decide) ?_
        refine vs_if_ne (tgt := 75) C d_Q_scoreOf_32 (by decide) (fun g2 => ?_) (fun g2 => ?_)
        · exact hno (by simp [isS, show ¬ S.1 11 i = 0 from g2])
        · have hs : isS S i = true := by simp [isS, show ¬ S.1 15 i = 0 from g1, show S.1 11 i = 0 from g2]
          obtain ⟨o1, o2, o3⟩ := hok i hlt hs
          have hw : wor S n0 i = FP.fdiv (FP.i2f (gc (S.1 2) f t 4 n0 0)) 1098907648 := by
            simp only [wor, hf, ht, nI_clamp (show f < 2 ^ 31 by omega), nI_clamp (show t < 2 ^ 31 by omega)]
          refine vs_aload_n C rfl d_Q_scoreOf_35 ?_
          refine vs_lload_n C rfl d_Q_scoreOf_36 ?_
          refine vs_aload_n C rfl d_Q_scoreOf_37 ?_
          refine vs_get C fl_Q_18 d_Q_scoreOf_38 rfl rfl ?_
          refine vs_iload C rfl d_Q_scoreOf_41 ?_
          refine vs_ialdN C d_Q_scoreOf_43 rfl (rfl) ((by omega)) (by decide) ?_
          refine vs_aload_n C rfl d_Q_scoreOf_44 ?_
          refine vs_get C fl_Q_15 d_Q_scoreOf_45 rfl rfl ?_
          refine vs_iload C rfl d_Q_scoreOf_48 ?_
          refine vs_ialdN C d_Q_scoreOf_50 rfl (rfl) ((by omega)) (by decide) ?_
          refine vs_st_eq (st2 := [.int (nI t), .int (nI f), .long (lN n0), .ref 1]) (by rw [← hf, ← ht] <;> rfl) ?_
          refine vs_cV C (k_D_greatestCode l b D aC S n0 f t hn0 hf3 ht8) yk_D_greatestCode ml_Q_60 im_D_greatestCode se_D_greatestCode d_Q_scoreOf_51 rfl rfl rfl rfl (by exact Nat.le_of_ble_eq_true rfl) (by exact ⟨Nat.le_of_ble_eq_true rfl, Nat.le_of_ble_eq_true rfl⟩) (by exact ⟨Nat.le_of_ble_eq_true rfl, Nat.le_of_ble_eq_true rfl⟩) (fun h => by cases h) ?_
          refine vs_i2f C d_Q_scoreOf_54 ?_
          refine vs_ldcf C w_578 d_Q_scoreOf_55 ?_
          refine vs_fdiv C ((by rw [← hw]; exact o1)) d_Q_scoreOf_57 ?_
          rw [← hw]
          refine vs_fstore C d_Q_scoreOf_58 (by decide) ?_
          refine vs_fload C rfl d_Q_scoreOf_60 ?_
          refine vs_aload_n C rfl d_Q_scoreOf_62 ?_
          refine vs_get C fl_Q_21 d_Q_scoreOf_63 rfl rfl ?_
          refine vs_iload C rfl d_Q_scoreOf_66 ?_
          refine vs_faldN C d_Q_scoreOf_68 rfl (rfl) ((by omega)) (by decide) ?_
          refine vs_fload C rfl d_Q_scoreOf_69 ?_
          refine vs_fmul C (o2) d_Q_scoreOf_71 ?_
          refine vs_fadd C (o3) d_Q_scoreOf_72 ?_
          refine vs_fstore C d_Q_scoreOf_73 (by decide) ?_
          refine vs_iinc C d_Q_scoreOf_75 rfl (nI_1 i) (by decide) ?_
          refine vs_goto (tgt := 6) C d_Q_scoreOf_78 (by decide) ?_
          have := ih (i + 1) (by omega) (by omega) (some (.float (wor S n0 i)))
          rw [show scF S n0 (i + 1) = FP.fadd (scF S n0 i) (FP.fmul (S.2.2.1 14 i) (wor S n0 i)) from if_pos hs] at this
          exact this
end Sc
set_option maxRecDepth 100000 in
set_option maxHeartbeats 4000000 in
theorem k_Q_scoreOf (l : Launch) (b : Nat) (D : va_G) (aC : Nat → ClassId) (S : vs_S) (n k : Nat) (hn : n < 2 ^ 40) (hk : (S.2.2.2.2.1 10 6) = nI k) (hk6 : k ≤ 6) (hfl : ∀ i, i < k → (∃ f, f < 3 ∧ S.1 13 i = nI f) ∧ ∃ t, t < 8 ∧ S.1 12 i = nI t) (hok : ∀ i, i < k → scOK S n i) : vs_M l b D aC false true y_Q_scoreOf (.code y_Q_scoreOf c_Q_scoreOf 7 (Option.some Jvm.ClassFile.FieldType.float)) { frames := 3, cells := 0, slots := 0, locals := 88 } [.ref 10, .long (lN n), .ref 1] (vs_mem S) (vs_ret (some (.float (scF S n k))) (vs_mem S)) := by
  refine vs_M.of (by decide) (Nat.le_of_ble_eq_true rfl) ?_
  intro p e s m args below meth c C hmn hr hx htg
  generalize hQ : vs_E below args s b D aC false true (vs_ret (some (.float (scF S n k))) (vs_mem S)) { frames := 3, cells := 0, slots := 0, locals := 88 } = Q
  refine vs_fconst0 C d_Q_scoreOf_0 ?_
  refine vs_fstore C d_Q_scoreOf_1 (by decide) ?_
  refine vs_iconst (v := 0) C (by decide) d_Q_scoreOf_3 ?_
  refine vs_istore C d_Q_scoreOf_4 (by decide) ?_
  refine sc_l C S n k hn hk hk6 hfl hok (fun lv6 => ?_) (k + 1) 0 (Nat.zero_le _) (by omega) none
  refine vs_fload C rfl d_Q_scoreOf_81 ?_
  subst hQ
  exact vs_fret C hr d_Q_scoreOf_83 ⟨Nat.le_of_ble_eq_true rfl, Nat.le_of_ble_eq_true rfl⟩ (fun h => by cases h) (by first | exact (fun _ => rfl) | exact (fun h => by cases h)) (⟨rfl, rfl⟩)

