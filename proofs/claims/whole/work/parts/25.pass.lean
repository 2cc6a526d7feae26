def clk : Nat → Nat → Nat
  | 0, n => n
  | k + 1, n => clk k n &&& (clk k n - 1)
theorem clk_lt {n : Nat} (h : n < 2 ^ 40) : ∀ k, clk k n < 2 ^ 40
  | 0 => h
  | k + 1 => Nat.lt_of_le_of_lt Nat.and_le_left (clk_lt h k)
theorem rl_clk {n : Nat} (h : n < 2 ^ 40) : ∀ k, rl k (lN n) = lN (clk k n)
  | 0 => rfl
  | k + 1 => by
    have hl := clk_lt h k
    simp only [rl, clk, rl_clk h k]
    generalize clk k n = m at hl ⊢
    rcases Nat.eq_zero_or_pos m with h0 | h0
    · subst h0; decide
    · rw [show lN m - 1 = lN (m - 1) from lN_sub (b := 1) h0, wb_and (Nat.lt_trans hl (by decide)) (by omega)]
/-- n without r -/
def an (n r : Nat) : Nat := n ^^^ (n &&& r)
theorem an_bit (n r i : Nat) : (an n r).testBit i = (n.testBit i && !r.testBit i) := by
  unfold an
  rw [Nat.testBit_xor, Nat.testBit_and]
  cases n.testBit i <;> cases r.testBit i <;> rfl
theorem an_lt {n r N : Nat} (h : n < 2 ^ N) : an n r < 2 ^ N := Nat.xor_lt_two_pow h (Nat.lt_of_le_of_lt Nat.and_le_left h)
theorem lN_an {n r : Nat} (hn : n < 2 ^ 64) (hr : r < 2 ^ 64) : lN n &&& (lN r ^^^ (-1)) = lN (an n r) := by
  rw [show (-1 : Int64) = lN (2 ^ 64 - 1) from by decide, lN_xor, wb_and hn (Nat.xor_lt_two_pow hr (by decide))]
  congr 1
  apply Nat.eq_of_testBit_eq
  intro i
  rw [an_bit, Nat.testBit_and, Nat.testBit_xor, Nat.testBit_two_pow_sub_one]
  by_cases hi : i < 64
  · simp [hi]
  · have : n.testBit i = false := Nat.testBit_lt_two_pow (Nat.lt_of_lt_of_le hn (Nat.pow_le_pow_right (by decide) (by omega)))
    simp [this]
def cmpL (x y : UInt32) : Int32 := Op.cmpValue (FP.fcmp x y) .l
theorem lk_le (F : Nat → Bool) (g : Nat → UInt32) (M : Nat) : ∀ (k n : Nat) (x : hp × Int32), x.1.2.2 ≤ M → (lk F g M k n x).1.2.2 ≤ M
  | 0, _, x, h => h
  | k + 1, n, x, h => by
    simp only [lk]
    by_cases h0 : n = 0
    · rw [if_pos h0]; exact h
    · rw [if_neg h0]
      refine lk_le F g M k _ _ ?_
      by_cases h1 : F (lo n) = true
      · rw [if_pos h1]; exact hpTake_le _ _ _ _ h
      · rw [if_neg h1]; exact h
/-- the BLOCKS of a SEGMENT, one after the other: HITS, BLOCKS LOOKED AT, DOCUMENTS FOUND -/
def ps (S : vs_S) (kq M cnd : Nat) : Nat → Nat → hp × Int32 × Int32 → hp × Int32 × Int32
  | 0, _, x => x
  | k + 1, n, x => if n = 0 then x else ps S kq M cnd k (an n (an n (clk 4 n))) (if x.1.2.2 < M ∨ 0 < cmpL (scF S (an n (clk 4 n)) kq) (lastp x.1) then ((lk (fun d => fnd S d kq) (fun d => scF S (2 ^ d) kq) M 4 (an n (clk 4 n) &&& cnd) (x.1, x.2.2)).1, x.2.1 + 1, (lk (fun d => fnd S d kq) (fun d => scF S (2 ^ d) kq) M 4 (an n (clk 4 n) &&& cnd) (x.1, x.2.2)).2) else x)
theorem ps_le (S : vs_S) (kq M cnd : Nat) : ∀ (k n : Nat) (x : hp × Int32 × Int32), x.1.2.2 ≤ M → (ps S kq M cnd k n x).1.2.2 ≤ M
  | 0, _, x, h => h
  | k + 1, n, x, h => by
    simp only [ps]
    by_cases h0 : n = 0
    · rw [if_pos h0]; exact h
    · rw [if_neg h0]
      refine ps_le S kq M cnd k _ _ ?_
      by_cases h1 : x.1.2.2 < M ∨ 0 < cmpL (scF S (an n (clk 4 n)) kq) (lastp x.1)
      · rw [if_pos h1]; exact lk_le _ _ _ _ _ _ h
      · rw [if_neg h1]; exact h
section Pass
variable {p : Program} {l : Launch} {e : Env} {R : Room} {s : State} {m : MethodId} {args : Array Value} {below : List Frame} {meth : Method} {c : Code} {b : Nat} {D : va_G} {aC : Nat → ClassId} {Q : State → Prop} {kc ks : Nat} {ck : Bool}
theorem pass_l (C : vs_X p s m args meth c b D aC "VeilSearch" c_X_passThrough 10) (S : vs_S) (n0 : Int64) (kq M cnd : Nat) (hcnd : cnd < 2 ^ 40) (hkq : (S.2.2.2.2.1 10 6) = nI kq) (hkq6 : kq ≤ 6) (hM : (S.2.2.2.2.1 16 3) = nI M) (hM1 : 1 ≤ M) (hM8 : M ≤ 8) (hfl : ∀ i, i < kq → (∃ f, f < 3 ∧ S.1 13 i = nI f) ∧ ∃ t, t < 8 ∧ S.1 12 i = nI t) (hok : ∀ n, n < 2 ^ 40 → ∀ i, i < kq → scOK S n i) (R0 : hp × Int32 × Int32)
    (K : ∀ lv, vs_G p l e { frames := 5, cells := 0, slots := 0, locals := 140 } s m args below meth c b D aC 10 Q 0 0 false (vs_mem (xS S R0.1 R0.2.1 R0.2.2)) 93 lv []) : ∀ (k i n : Nat) (x : hp × Int32 × Int32) (o8 : Option Value), i + k = 10 → n < 2 ^ 40 → x.1.2.2 ≤ M → ps S kq M cnd k n x = R0 → vs_G p l e { frames := 5, cells := 0, slots := 0, locals := 140 } s m args below meth c b D aC 10 Q 0 0 false (vs_mem (xS S x.1 x.2.1 x.2.2)) 6 [some (.ref 0), some (.long n0), none, some (.long (lN cnd)), none, some (.long (lN n)), none, some (.int (nI i)), o8, none] [] := by
  intro k
  induction k with
  | zero =>
    intro i n x o8 hi hn hx hR
    obtain rfl : i = 10 := by omega
    refine vs_iload C rfl d_X_passThrough_6 ?_
    refine vs_bipush (v := 10) C (by decide) d_X_passThrough_8 ?_
    refine vs_icmp_ge (tgt := 93) C d_X_passThrough_10 (by decide) (fun h1 => ?_) (fun h1 => ?_)
    · cases hR
      exact K _
    · exact absurd (Int32.le_refl _) h1
  | succ k ih =>
    intro i n x o8 hi hn hx hR
    refine vs_iload C rfl d_X_passThrough_6 ?_
    refine vs_bipush (v := 10) C (by decide) d_X_passThrough_8 ?_
    refine vs_icmp_ge (tgt := 93) C d_X_passThrough_10 (by decide) (fun h1 => ?_) (fun h1 => ?_)
    · exact absurd (n_ge (N := 10) (i := i) h1 rfl rfl (by decide) (by omega)) (by omega)
    · refine vs_lload C rfl d_X_passThrough_13 ?_
      refine vs_lconst (v := 0) C (by decide) d_X_passThrough_15 ?_
      refine vs_lcmp C d_X_passThrough_16 ?_
      refine vs_if_eq (tgt := 93) C d_X_passThrough_17 (by decide) (fun h2 => ?_) (fun h2 => ?_)
      · have hr0 : n = 0 := Decidable.not_not.mp (fun h => lN_ne0 h hn (lg0.mp h2))
        rw [show ps S kq M cnd (k + 1) n x = x from if_pos hr0] at hR
        cases hR
        exact K _
      · have hr0 : n ≠ 0 := fun h => h2 (by rw [h]; decide)
        have hn64 : n < 2 ^ 64 := Nat.lt_trans hn (by decide)
        have hc64 : clk 4 n < 2 ^ 64 := Nat.lt_trans (clk_lt hn 4) (by decide)
        have hB : an n (clk 4 n) < 2 ^ 40 := an_lt hn
        rw [show ps S kq M cnd (k + 1) n x = _ from if_neg hr0] at hR
        refine vs_lload C rfl d_X_passThrough_20 ?_
        refine vs_cS C (k_X_firstBlock l b D aC (xS S x.1 x.2.1 x.2.2) (lN n)) yk_X_firstBlock ml_X_256 st_X_firstBlock d_X_passThrough_22 rfl rfl (by exact Nat.le_of_ble_eq_true rfl) (by exact ⟨Nat.le_of_ble_eq_true rfl, Nat.le_of_ble_eq_true rfl⟩) (by exact ⟨Nat.le_of_ble_eq_true rfl, Nat.le_of_ble_eq_true rfl⟩) (fun h => by cases h) ?_
        rw [rl_clk hn 4, lN_an hn64 hc64]
        generalize an n (clk 4 n) = B at hB hR ⊢
        refine vs_lstore C d_X_passThrough_25 (by decide) ?_
        refine vs_lload C rfl d_X_passThrough_27 ?_
        refine vs_lload C rfl d_X_passThrough_29 ?_
        refine vs_ldc2 C w_236 d_X_passThrough_31 ?_
        refine vs_lxor C d_X_passThrough_34 ?_
        refine vs_land C d_X_passThrough_35 ?_
        rw [lN_an hn64 (Nat.lt_trans hB (by decide))]
        refine vs_lstore C d_X_passThrough_36 (by decide) ?_
        refine vs_aload_n C rfl d_X_passThrough_38 ?_
        refine vs_get C fl_X_33 d_X_passThrough_39 rfl rfl ?_
        refine vs_get C fl_X_203 d_X_passThrough_42 rfl rfl ?_
        refine vs_aload_n C rfl d_X_passThrough_45 ?_
        refine vs_get C fl_X_33 d_X_passThrough_46 rfl rfl ?_
        refine vs_get C fl_X_260 d_X_passThrough_49 rfl rfl ?_
        have hgo : ∀ x2 : hp × Int32 × Int32, x2.1.2.2 ≤ M → ps S kq M cnd k (an n B) x2 = R0 → vs_G p l e { frames := 5, cells := 0, slots := 0, locals := 140 } s m args below meth c b D aC 10 Q 0 0 false (vs_mem (xS S x2.1 x2.2.1 x2.2.2)) 87 [some (.ref 0), some (.long n0), none, some (.long (lN cnd)), none, some (.long (lN (an n B))), none, some (.int (nI i)), some (.long (lN B)), none] [] := by
          intro x2 hx2 hR2
          refine vs_iinc C d_X_passThrough_87 rfl (nI_1 i) (by decide) ?_
          refine vs_goto (tgt := 6) C d_X_passThrough_90 (by decide) ?_
          exact ih (i + 1) (an n B) x2 (some (.long (lN B))) (by omega) (an_lt hn) hx2 hR2
        have h79 : (x.1.2.2 < M ∨ 0 < cmpL (scF S B kq) (lastp x.1)) → vs_G p l e { frames := 5, cells := 0, slots := 0, locals := 140 } s m args below meth c b D aC 10 Q 0 0 false (vs_mem (xS S x.1 x.2.1 x.2.2)) 79 [some (.ref 0), some (.long n0), none, some (.long (lN cnd)), none, some (.long (lN (an n B))), none, some (.int (nI i)), some (.long (lN B)), none] [] := by
          intro hc
          refine vs_aload_n C rfl d_X_passThrough_79 ?_
          refine vs_lload C rfl d_X_passThrough_80 ?_
          refine vs_lload_n C rfl d_X_passThrough_82 ?_
          refine vs_land C d_X_passThrough_83 ?_
          rw [wb_and (Nat.lt_trans hB (by decide)) (Nat.lt_trans hcnd (by decide))]
          refine vs_cV C (k_X_lookAt l b D aC S x.1 x.2.1 x.2.2 (B &&& cnd) kq M (Nat.lt_of_le_of_lt Nat.and_le_left hB) hkq hkq6 hM hM1 hM8 hx hfl (fun d hd => hok (2 ^ d) (Nat.pow_lt_pow_right (by decide) hd))) yk_X_lookAt ml_X_271 im_X_lookAt se_X_lookAt d_X_passThrough_84 rfl rfl rfl rfl (by exact Nat.le_of_ble_eq_true rfl) (by exact ⟨Nat.le_of_ble_eq_true rfl, Nat.le_of_ble_eq_true rfl⟩) (by exact ⟨Nat.le_of_ble_eq_true rfl, Nat.le_of_ble_eq_true rfl⟩) (fun h => by cases h) ?_
          exact hgo ((lk (fun d => fnd S d kq) (fun d => scF S (2 ^ d) kq) M 4 (B &&& cnd) (x.1, x.2.2)).1, x.2.1 + 1, (lk (fun d => fnd S d kq) (fun d => scF S (2 ^ d) kq) M 4 (B &&& cnd) (x.1, x.2.2)).2) (lk_le _ _ _ _ _ _ hx) (by rw [if_pos hc] at hR; exact hR)
        refine vs_icmp_lt (tgt := 79) C d_X_passThrough_52 (by decide) (fun h3 => ?_) (fun h3 => ?_)
        · exact h79 (Or.inl ((nI_ltI (by omega) (by omega)).mp (by
            have h3' : nI x.1.2.2 < S.2.2.2.2.1 16 3 := h3
            rw [hM] at h3'
            exact h3')))
        · refine vs_aload_n C rfl d_X_passThrough_55 ?_
          refine vs_get C fl_X_26 d_X_passThrough_56 rfl rfl ?_
          refine vs_lload C rfl d_X_passThrough_59 ?_
          refine vs_aload_n C rfl d_X_passThrough_61 ?_
          refine vs_get C fl_X_12 d_X_passThrough_62 rfl rfl ?_
          refine vs_cV C (k_Q_scoreOf l b D aC (xS S x.1 x.2.1 x.2.2) B kq hB hkq hkq6 hfl (fun i hi => scOK_xS (hok B hB i hi))) yk_Q_scoreOf ml_X_263 im_Q_scoreOf se_Q_scoreOf d_X_passThrough_65 rfl rfl rfl rfl (by exact Nat.le_of_ble_eq_true rfl) (by exact ⟨Nat.le_of_ble_eq_true rfl, Nat.le_of_ble_eq_true rfl⟩) (by exact ⟨Nat.le_of_ble_eq_true rfl, Nat.le_of_ble_eq_true rfl⟩) (fun h => by cases h) ?_
          rw [scF_xS]
          refine vs_aload_n C rfl d_X_passThrough_68 ?_
          refine vs_get C fl_X_33 d_X_passThrough_69 rfl rfl ?_
          refine vs_cV C (k_H_lastScore l b D aC (xS S x.1 x.2.1 x.2.2) x.1.2.2 rfl (by omega)) yk_H_lastScore ml_X_267 im_H_lastScore se_H_lastScore d_X_passThrough_72 rfl rfl rfl rfl (by exact Nat.le_of_ble_eq_true rfl) (by exact ⟨Nat.le_of_ble_eq_true rfl, Nat.le_of_ble_eq_true rfl⟩) (by exact ⟨Nat.le_of_ble_eq_true rfl, Nat.le_of_ble_eq_true rfl⟩) (fun h => by cases h) ?_
          refine vs_fcmp C d_X_passThrough_75 ?_
          refine vs_if_le (tgt := 87) C d_X_passThrough_76 (by decide) (fun h4 => ?_) (fun h4 => ?_)
          · have hno : ¬ (x.1.2.2 < M ∨ 0 < cmpL (scF S B kq) (lastp x.1)) := by
              rintro (h | h)
              · refine h3 ?_
                show nI x.1.2.2 < S.2.2.2.2.1 16 3
                rw [hM]
                exact nI_lt h (by omega)
              · exact absurd h (Int32.not_lt.mpr h4)
            exact hgo x hx (by rw [if_neg hno] at hR; exact hR)
          · exact h79 (Or.inr (Int32.not_le.mp h4))
end Pass
set_option maxRecDepth 100000 in
set_option maxHeartbeats 4000000 in
theorem k_X_passThrough (l : Launch) (b : Nat) (D : va_G) (aC : Nat → ClassId) (S : vs_S) (h : hp) (bl df : Int32) (n kq M cnd : Nat) (hn : n < 2 ^ 40) (hcnd : cnd < 2 ^ 40) (hkq : (S.2.2.2.2.1 10 6) = nI kq) (hkq6 : kq ≤ 6) (hM : (S.2.2.2.2.1 16 3) = nI M) (hM1 : 1 ≤ M) (hM8 : M ≤ 8) (hh : h.2.2 ≤ M) (hfl : ∀ i, i < kq → (∃ f, f < 3 ∧ S.1 13 i = nI f) ∧ ∃ t, t < 8 ∧ S.1 12 i = nI t) (hok : ∀ n, n < 2 ^ 40 → ∀ i, i < kq → scOK S n i) : vs_M l b D aC false false y_X_passThrough (.code y_X_passThrough c_X_passThrough 10 (Option.none : Option Jvm.ClassFile.FieldType)) { frames := 5, cells := 0, slots := 0, locals := 140 } [.ref 0, .long (lN n), .long (lN cnd)] (vs_mem (xS S h bl df)) (vs_ret none (vs_mem (xS S (ps S kq M cnd 10 n (h, bl, df)).1 (ps S kq M cnd 10 n (h, bl, df)).2.1 (ps S kq M cnd 10 n (h, bl, df)).2.2))) := by
  refine vs_M.of (by decide) (Nat.le_of_ble_eq_true rfl) ?_
  intro p e s m args below meth c C hmn hr hx htg
  generalize hQ : vs_E below args s b D aC false false (vs_ret none (vs_mem (xS S (ps S kq M cnd 10 n (h, bl, df)).1 (ps S kq M cnd 10 n (h, bl, df)).2.1 (ps S kq M cnd 10 n (h, bl, df)).2.2))) { frames := 5, cells := 0, slots := 0, locals := 140 } = Q
  refine vs_lload_n C rfl d_X_passThrough_0 ?_
  refine vs_lstore C d_X_passThrough_1 (by decide) ?_
  refine vs_iconst (v := 0) C (by decide) d_X_passThrough_3 ?_
  refine vs_istore C d_X_passThrough_4 (by decide) ?_
  refine vs_ck (pass_l C S (lN n) kq M cnd hcnd hkq hkq6 hM hM1 hM8 hfl hok (ps S kq M cnd 10 n (h, bl, df)) (fun lv => ?_) 10 0 n (h, bl, df) none rfl hn hh rfl)
  subst hQ
  exact vs_vret C hr d_X_passThrough_93 ⟨Nat.le_of_ble_eq_true rfl, Nat.le_of_ble_eq_true rfl⟩ (fun h => by cases h) (by first | exact (fun _ => rfl) | exact (fun h => by cases h)) (⟨rfl, rfl⟩)

