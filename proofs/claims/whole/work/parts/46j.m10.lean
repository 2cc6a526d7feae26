/- words and bits -/
theorem bit_n {n i : Nat} (hn : n < 2 ^ 64) (hi : i < 64) : sr (lN n) (nI i) &&& 1 = 0 ↔ n.testBit i = false := by
  unfold sr
  rw [ts_bit (j := i) hi (by rw [wb_cu i hi]; exact u_tn (by omega)), lN_bv]
  rw [BitVec.getLsbD_ofNat]
  simp [hi]
def bo (P : Nat → Bool) : Nat → Nat
  | 0 => 0
  | n + 1 => if P n = true then bo P n ||| 2 ^ n else bo P n
theorem bo_tb (P : Nat → Bool) (i : Nat) : ∀ n, (bo P n).testBit i = (decide (i < n) && P i)
  | 0 => by simp [bo]
  | n + 1 => by
    rw [bo]
    by_cases h : P n = true
    · rw [if_pos h, Nat.testBit_or, bo_tb P i n, Nat.testBit_two_pow]
      by_cases e : i = n
      · subst e; simp [h]
      · have e1 : ¬ n = i := fun q => e q.symm
        by_cases e2 : i < n
        · rw [decide_eq_true e2, decide_eq_true (by omega : i < n + 1), decide_eq_false e1]; simp
        · rw [decide_eq_false e2, decide_eq_false (by omega : ¬ i < n + 1), decide_eq_false e1]; rfl
    · rw [if_neg h, bo_tb P i n]
      by_cases e : i = n
      · subst e; simp [h]
      · by_cases e2 : i < n
        · rw [decide_eq_true e2, decide_eq_true (by omega : i < n + 1)]
        · rw [decide_eq_false e2, decide_eq_false (by omega : ¬ i < n + 1)]
theorem bo_lt (P : Nat → Bool) (n : Nat) : bo P n < 2 ^ n := Nat.lt_pow_two_of_testBit _ (fun i hi => by rw [bo_tb, decide_eq_false (by omega)]; rfl)
theorem bo_ext {P Q : Nat → Bool} : ∀ n, (∀ i, i < n → P i = Q i) → bo P n = bo Q n
  | 0, _ => rfl
  | n + 1, h => by rw [bo, bo, h n (by omega), bo_ext n (fun i hi => h i (by omega))]
theorem tb_ext {a b : Nat} (h : ∀ i, a.testBit i = b.testBit i) : a = b := Nat.eq_of_testBit_eq h
theorem sh_n {i : Nat} (hi : i < 64) : (1 : Int64) <<< ((nI i).toInt64 &&& 63) = lN (2 ^ i) := by
  have := wb_shl 1 hi
  rw [Nat.one_mul] at this
  exact this
theorem rd_n (S : vs_S) {A : Nat} (hA : A < 2 ^ 40) (tok : Int32) : ∀ n, n ≤ 40 → rd S (lN A) tok n = lN (bo (fun d => A.testBit d && mr S d tok) n)
  | 0, _ => rfl
  | n + 1, h => by
    have hb := bo_lt (fun d => A.testBit d && mr S d tok) n
    have hp : (2 : Nat) ^ n ≤ 2 ^ 40 := Nat.pow_le_pow_right (by decide) (by omega)
    have hbit := bit_n (n := A) (i := n) (by omega) (by omega)
    rw [rd, bo, rd_n S hA tok n (by omega), sh_n (by omega), wb_or (by omega) (by omega)]
    by_cases c : A.testBit n = true
    · by_cases c2 : mr S n tok = true
      · rw [if_pos ⟨by rw [hbit, c]; decide, c2⟩, if_pos (by rw [c, c2]; rfl)]
      · rw [if_neg (fun q => c2 q.2), if_neg (by rw [c]; simpa using c2)]
    · rw [if_neg (fun q => q.1 (hbit.mpr (by simpa using c))), if_neg (by simp [c])]
def orN (N : Nat → Nat) : Nat → Nat
  | 0 => 0
  | k + 1 => orN N k ||| N k
theorem orN_tb (N : Nat → Nat) (d : Nat) : ∀ k, (orN N k).testBit d = true ↔ ∃ i, i < k ∧ (N i).testBit d = true
  | 0 => by simp [orN]
  | k + 1 => by
    rw [orN, Nat.testBit_or, Bool.or_eq_true, orN_tb N d k]
    constructor
    · rintro (⟨i, h1, h2⟩ | h)
      · exact ⟨i, by omega, h2⟩
      · exact ⟨k, by omega, h⟩
    · rintro ⟨i, h1, h2⟩
      by_cases e : i = k
      · subst e; exact .inr h2
      · exact .inl ⟨i, by omega, h2⟩
theorem orN_lt {N : Nat → Nat} : ∀ {k : Nat}, (∀ i, i < k → N i < 2 ^ 40) → orN N k < 2 ^ 40
  | 0, _ => by show 0 < 2 ^ 40; decide
  | k + 1, h => Nat.or_lt_two_pow (orN_lt (fun i hi => h i (by omega))) (h k (by omega))
theorem orl_n {f : Nat → Int64} {N : Nat → Nat} : ∀ {k : Nat}, (∀ i, i < k → f i = lN (N i) ∧ N i < 2 ^ 40) → or_l f k = lN (orN N k)
  | 0, _ => rfl
  | k + 1, h => by
    have h1 := orl_n (f := f) (N := N) (k := k) (fun i hi => h i (by omega))
    have h2 : orN N k < 2 ^ 40 := orN_lt (fun i hi => (h i (by omega)).2)
    have h3 := (h k (by omega)).2
    rw [or_l, orN, h1, (h k (by omega)).1, wb_or (by omega) (by omega)]
theorem lNq40 {a b : Nat} (ha : a < 2 ^ 40) (hb : b < 2 ^ 40) : lN a = lN b ↔ a = b := pk_lEQ (by omega) (by omega)
theorem lN_0 {a : Nat} (ha : a < 2 ^ 40) : lN a = 0 ↔ a = 0 := lNq40 (b := 0) ha (by decide)
/- finds -/
theorem fnd_eq {SX SM : vs_S} {o : Nat → Nat} {u kq d : Nat}
    (hO : ∀ i, i < kq → SX.1 15 i = b01 (opMb SM u (o i) = true)) (hs : ∀ i, i < kq → SX.1 11 i = SM.1 53 (o i))
    (hcd : ∀ i, i < kq → cdx SX d i = cdM SM d (o i)) (hb : ∀ q, 0 ≤ SM.1 43 q)
    (hv : SX.2.2.2.2.1 10 5 = 0 ↔ ∀ i, i < kq → ¬ (opMb SM u (o i) = false ∧ SM.1 53 (o i) = 1))
    (hlt : ∀ i, i < kq → o i < kq) (hsur : ∀ q, q < kq → ∃ i, i < kq ∧ o i = q) : fnd SX d kq = fndM SM u d kq := by
  have kb : ∀ i, i < kq → (badM SM u d (o i) = true ↔ bad SX d i = true ∨ (opMb SM u (o i) = false ∧ SM.1 53 (o i) = 1)) := by
    intro i hi
    have h0 : 0 ≤ cdM SM d (o i) := hb _
    have hc : cdM SM d (o i) ≤ 0 ↔ cdM SM d (o i) = 0 := ⟨fun q => le0_eq h0 q, fun q => by rw [q]; decide⟩
    have ho : SX.1 15 i = 0 ↔ opMb SM u (o i) = false := by rw [hO i hi, b01_0]; simp
    unfold badM bad
    rw [hs i hi, hcd i hi]
    simp only [Bool.or_eq_true, Bool.and_eq_true, decide_eq_true_eq, Bool.not_eq_true', ho, hc]
    cases opMb SM u (o i) <;> simp
  have ks : ∀ i, i < kq → (scsM SM u d (o i) = true ↔ scs SX d i = true) := by
    intro i hi
    have ho : SX.1 15 i = 0 ↔ opMb SM u (o i) = false := by rw [hO i hi, b01_0]; simp
    unfold scsM scs
    rw [hs i hi, hcd i hi]
    simp only [Bool.and_eq_true, decide_eq_true_eq, ho]
    cases opMb SM u (o i) <;> simp
  rw [Bool.eq_iff_iff]
  unfold fnd fndM
  rw [Bool.and_eq_true, Bool.and_eq_true, Bool.and_eq_true, decide_eq_true_eq, Bool.not_eq_true', Bool.not_eq_true', hv, ← Bool.not_eq_true, ← Bool.not_eq_true, anyB_iff, anyB_iff, anyB_iff, anyB_iff]
  constructor
  · rintro ⟨h1, ⟨i, h2, h3⟩, h4⟩
    refine ⟨?_, o i, hlt i h2, (ks i h2).mpr h3⟩
    rintro ⟨q, q1, q2⟩
    obtain ⟨j, j1, j2⟩ := hsur q q1
    rw [← j2] at q2
    rcases (kb j j1).mp q2 with w | w
    · exact h1 ⟨j, j1, w⟩
    · exact h4 j j1 w
  · rintro ⟨h1, q, q1, q2⟩
    obtain ⟨j, j1, j2⟩ := hsur q q1
    rw [← j2] at q2
    refine ⟨?_, ⟨j, j1, (ks j j1).mp q2⟩, ?_⟩
    · rintro ⟨i, i1, i2⟩
      exact h1 ⟨o i, hlt i i1, (kb i i1).mpr (.inl i2)⟩
    · intro i i1 w
      exact h1 ⟨o i, hlt i i1, (kb i i1).mpr (.inr w)⟩
