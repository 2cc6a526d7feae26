/-! longs as sets of IDS: lN n, n below 2^40 -/
theorem lg0 {x y : Int64} : lg_cmp x y = 0 ↔ x = y := by
  unfold lg_cmp
  by_cases h1 : y < x
  · rw [if_pos h1]
    exact ⟨(fun h => absurd h (by decide)), fun h => by subst h; exact (Int64.lt_irrefl h1).elim⟩
  · rw [if_neg h1]
    by_cases h2 : x = y
    · rw [if_pos h2]
      exact ⟨fun _ => h2, fun _ => rfl⟩
    · rw [if_neg h2]
      exact ⟨(fun h => absurd h (by decide)), fun h => absurd h h2⟩
theorem lo_form {n d : Nat} (h1 : n.testBit d = true) (h2 : ∀ j, j < d → n.testBit j = false) : n = 2 ^ (d + 1) * (n / 2 ^ (d + 1)) + 2 ^ d := by
  apply Nat.eq_of_testBit_eq
  intro i
  rw [Nat.testBit_two_pow_mul_add _ (Nat.pow_lt_pow_right (by decide) (Nat.lt_succ_self d))]
  by_cases hi : i < d + 1
  · rw [if_pos hi, Nat.testBit_two_pow]
    by_cases he : d = i
    · subst he
      simp [h1]
    · rw [h2 i (by omega)]
      simp [he]
  · rw [if_neg hi, Nat.testBit_div_two_pow]
    congr 1
    omega
theorem lo_ex {n : Nat} (h : n ≠ 0) : ∃ d, n.testBit d = true ∧ ∀ j, j < d → n.testBit j = false := by
  obtain ⟨d, h1, h2⟩ := pk_least (fun k => n.testBit k = true) (Nat.exists_testBit_of_ne_zero h)
  exact ⟨d, h1, fun j hj => by simpa using h2 j hj⟩
theorem lo_lt {n d N : Nat} (h : n < 2 ^ N) (h1 : n.testBit d = true) : d < N := by
  rcases Nat.lt_or_ge d N with q | q
  · exact q
  · rw [Nat.testBit_lt_two_pow (Nat.lt_of_lt_of_le h (Nat.pow_le_pow_right (by decide) q))] at h1
    cases h1
theorem lo_ge {n d : Nat} (h1 : n.testBit d = true) : 2 ^ d ≤ n := Nat.ge_two_pow_of_testBit h1
theorem lo_clear {n d : Nat} (h1 : n.testBit d = true) (h2 : ∀ j, j < d → n.testBit j = false) : n &&& (n - 1) = n - 2 ^ d := by
  have hf := lo_form h1 h2
  generalize n / 2 ^ (d + 1) = m at hf
  have hp : 0 < 2 ^ d := Nat.two_pow_pos d
  have e1 : n - 1 = 2 ^ (d + 1) * m + (2 ^ d - 1) := by omega
  have e2 : n - 2 ^ d = 2 ^ (d + 1) * m + 0 := by omega
  have hlt : 2 ^ d < 2 ^ (d + 1) := Nat.pow_lt_pow_right (by decide) (Nat.lt_succ_self d)
  rw [e1, e2]
  apply Nat.eq_of_testBit_eq
  intro i
  rw [Nat.testBit_and, hf, Nat.testBit_two_pow_mul_add _ hlt, Nat.testBit_two_pow_mul_add _ (by omega), Nat.testBit_two_pow_mul_add _ (by omega)]
  by_cases hi : i < d + 1
  · rw [if_pos hi, if_pos hi, if_pos hi, Nat.testBit_two_pow, Nat.testBit_two_pow_sub_one, Nat.zero_testBit]
    by_cases he : d = i
    · subst he; simp
    · simp [he]
  · rw [if_neg hi, if_neg hi, if_neg hi, Bool.and_self]
theorem lo_iso {n d : Nat} (h1 : n.testBit d = true) (h2 : ∀ j, j < d → n.testBit j = false) (hd : d < 64) (hn : n < 2 ^ 64) : n &&& (2 ^ 64 - n) = 2 ^ d := by
  have hf := lo_form h1 h2
  have hml : n / 2 ^ (d + 1) < 2 ^ (63 - d) := by
    rw [Nat.div_lt_iff_lt_mul (Nat.two_pow_pos _), ← Nat.pow_add]
    rw [show 63 - d + (d + 1) = 64 by omega]
    exact hn
  generalize n / 2 ^ (d + 1) = m at hf hml
  have hlt : 2 ^ d < 2 ^ (d + 1) := Nat.pow_lt_pow_right (by decide) (Nat.lt_succ_self d)
  have hpow : 2 ^ (d + 1) * 2 ^ (63 - d) = 2 ^ 64 := by
    rw [← Nat.pow_add]
    congr 1
    omega
  have hmul : 2 ^ (d + 1) * (2 ^ (63 - d) - (m + 1)) = 2 ^ 64 - 2 ^ (d + 1) * m - 2 ^ (d + 1) := by
    rw [Nat.mul_sub, hpow, Nat.mul_add]
    omega
  have hdd : 2 ^ (d + 1) = 2 * 2 ^ d := by rw [Nat.pow_succ]; omega
  have hle : 2 ^ (d + 1) * (m + 1) ≤ 2 ^ 64 := by
    rw [← hpow]
    exact Nat.mul_le_mul_left _ hml
  rw [Nat.mul_add] at hle
  have e1 : 2 ^ 64 - n = 2 ^ (d + 1) * (2 ^ (63 - d) - (m + 1)) + 2 ^ d := by
    rw [hmul, hf]
    omega
  rw [e1]
  apply Nat.eq_of_testBit_eq
  intro i
  rw [Nat.testBit_and, hf, Nat.testBit_two_pow_mul_add _ hlt, Nat.testBit_two_pow_mul_add _ hlt]
  by_cases hi : i < d + 1
  · rw [if_pos hi, if_pos hi, Bool.and_self]
  · rw [if_neg hi, if_neg hi, Nat.testBit_two_pow_sub_succ hml, Nat.testBit_two_pow]
    have : ¬ d = i := by omega
    simp [this]
    exact fun a _ => a
theorem lN_neg {n : Nat} (h0 : 0 < n) (h : n < 2 ^ 64) : -(lN n) = lN (2 ^ 64 - n) := by
  have h1 : lN n + lN (2 ^ 64 - n) = 0 := by
    rw [lN_add, show n + (2 ^ 64 - n) = 2 ^ 64 by omega]
    decide
  have h2 : -(lN n) + (lN n + lN (2 ^ 64 - n)) = -(lN n) := by rw [h1, Int64.add_zero]
  rw [← Int64.add_assoc, Int64.add_left_neg, Int64.zero_add] at h2
  exact h2.symm
def sr (x : Int64) (k : Int32) : Int64 := (x.toUInt64 >>> (k.toInt64.toUInt64 &&& Int64.toUInt64 63)).toInt64
def bc1 (x : Int64) : Int64 := x - (sr x 1 &&& 6148914691236517205)
def bc2 (x : Int64) : Int64 := (x &&& 3689348814741910323) + (sr x 2 &&& 3689348814741910323)
def bc3 (x : Int64) : Int64 := (x + sr x 4) &&& 1085102592571150095
def bc4 (x : Int64) : Int64 := x + sr x 8
def bc5 (x : Int64) : Int64 := x + sr x 16
def bc6 (x : Int64) : Int64 := x + sr x 32
def bcR (x : Int64) : Int32 := (bc6 (bc5 (bc4 (bc3 (bc2 (bc1 x)))))).toInt32 &&& 127
theorem bcR_low : ∀ d, d < 40 → bcR (lN (2 ^ d - 1)) = nI d := by decide +kernel
/-- the lowest ID of a set, and the set without it -/
theorem lo_all {n : Nat} (h0 : n ≠ 0) (h : n < 2 ^ 40) : ∃ d, d < 40 ∧ n.testBit d = true ∧ (∀ j, j < d → n.testBit j = false) ∧ bcR ((lN n &&& -(lN n)) - 1) = nI d ∧ lN n &&& (lN n - 1) = lN (n - 2 ^ d) := by
  obtain ⟨d, h1, h2⟩ := lo_ex h0
  have hd := lo_lt h h1
  have hn : n < 2 ^ 64 := Nat.lt_trans h (by decide)
  refine ⟨d, hd, h1, h2, ?_, ?_⟩
  · rw [lN_neg (Nat.pos_of_ne_zero h0) hn, wb_and hn (by omega), lo_iso h1 h2 (by omega) hn]
    have hp : 0 < 2 ^ d := Nat.two_pow_pos d
    rw [show lN (2 ^ d) - 1 = lN (2 ^ d - 1) from lN_sub (b := 1) hp]
    exact bcR_low d hd
  · rw [show lN n - 1 = lN (n - 1) from lN_sub (b := 1) (Nat.pos_of_ne_zero h0), wb_and hn (by omega), lo_clear h1 h2]

