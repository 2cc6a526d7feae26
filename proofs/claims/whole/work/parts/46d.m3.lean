/- the count of a word's bits -/
def Mk (c : Nat) : Nat → Nat
  | 0 => 0
  | k + 1 => c + 256 * Mk c k
theorem and_256 {a c : Nat} (ha : a < 256) (hc : c < 256) (m C : Nat) : (a + 256 * m) &&& (c + 256 * C) = (a &&& c) + 256 * (m &&& C) := by
  have hac : a &&& c < 256 := Nat.lt_of_le_of_lt Nat.and_le_left ha
  rw [Nat.add_comm a, Nat.add_comm c, Nat.add_comm (a &&& c)]
  have e : ∀ x y : Nat, x < 256 → 256 * y + x = 256 * y ||| x := fun x y hx => Nat.two_pow_add_eq_or_of_lt (i := 8) hx y
  rw [e a m ha, e c C hc, e (a &&& c) _ hac]
  apply Nat.eq_of_testBit_eq
  intro i
  have t : ∀ y : Nat, (256 * y).testBit i = (decide (i ≥ 8) && y.testBit (i - 8)) := fun y => Nat.testBit_two_pow_mul (i := 8)
  rw [Nat.testBit_and, Nat.testBit_or, Nat.testBit_or, Nat.testBit_or, t, t, t, Nat.testBit_and, Nat.testBit_and]
  by_cases h : i ≥ 8
  · have hx : ∀ x, x < 256 → x.testBit i = false := fun x hx => Nat.testBit_lt_two_pow (Nat.lt_of_lt_of_le hx (Nat.pow_le_pow_right (n := 2) (i := 8) (by decide) h))
    rw [hx a ha, hx c hc]
    simp [h]
  · simp [h]
theorem by1 : ∀ (b : Fin 2) (a : Fin 256), (a.val / 2 + 128 * b.val) &&& 85 = (a.val / 2) &&& 85 := by decide +kernel
theorem by2 : ∀ (b : Fin 4) (a : Fin 256), (a.val / 4 + 64 * b.val) &&& 51 = (a.val / 4) &&& 51 := by decide +kernel
def p1 (a : Nat) : Nat := a - (a / 2 &&& 85)
def p2 (a : Nat) : Nat := (a &&& 51) + (a / 4 &&& 51)
def p3 (a : Nat) : Nat := (a + a / 16) &&& 15
theorem by3 : ∀ (b : Fin 5) (a : Fin 256), (p2 (p1 a.val) + p2 (p1 a.val) / 16 + 16 * b.val) &&& 15 = p3 (p2 (p1 a.val)) ∧ p2 (p1 a.val) + p2 (p1 a.val) / 16 + 16 * b.val < 256 := by decide +kernel
theorem by4 : ∀ a : Fin 256, p3 (p2 (p1 a.val)) = cn a.val.testBit 8 ∧ p2 (p1 a.val) % 16 ≤ 4 ∧ p2 (p1 a.val) < 256 ∧ p1 a.val < 256 := by decide +kernel
def W1 (k n : Nat) : Nat := n - (n / 2 &&& Mk 85 k)
def W2 (k n : Nat) : Nat := (n &&& Mk 51 k) + (n / 4 &&& Mk 51 k)
def W3 (k n : Nat) : Nat := (n + n / 16) &&& Mk 15 k
theorem W1_s (k : Nat) {a : Nat} (ha : a < 256) (m : Nat) : W1 (k + 1) (a + 256 * m) = p1 a + 256 * W1 k m := by
  unfold W1 p1
  rw [show (a + 256 * m) / 2 = (a / 2 + 128 * (m % 2)) + 256 * (m / 2) by omega, Mk, and_256 (by omega) (by decide)]
  have h1 : (a / 2 + 128 * (m % 2)) &&& 85 = a / 2 &&& 85 := by1 ⟨m % 2, by omega⟩ ⟨a, ha⟩
  have h2 : m / 2 &&& Mk 85 k ≤ m / 2 := Nat.and_le_left
  have h3 : a / 2 &&& 85 ≤ a / 2 := Nat.and_le_left
  rw [h1]
  omega
theorem W2_s (k : Nat) {a : Nat} (ha : a < 256) (m : Nat) : W2 (k + 1) (a + 256 * m) = p2 a + 256 * W2 k m := by
  unfold W2 p2
  rw [show (a + 256 * m) / 4 = (a / 4 + 64 * (m % 4)) + 256 * (m / 4) by omega, Mk, and_256 ha (by decide), and_256 (by omega) (by decide)]
  have h1 : (a / 4 + 64 * (m % 4)) &&& 51 = a / 4 &&& 51 := by2 ⟨m % 4, by omega⟩ ⟨a, ha⟩
  rw [h1]
  omega
theorem W3_s (k : Nat) {a : Nat} (ha : a < 256) (m : Nat) (hm : m % 16 ≤ 4) : W3 (k + 1) (p2 (p1 a) + 256 * m) = p3 (p2 (p1 a)) + 256 * W3 k m := by
  obtain ⟨h1, h2⟩ := by3 ⟨m % 16, by omega⟩ ⟨a, ha⟩
  unfold W3
  simp only at h1 h2
  generalize p2 (p1 a) = x at h1 h2
  rw [show x + 256 * m + (x + 256 * m) / 16 = (x + x / 16 + 16 * (m % 16)) + 256 * (m + m / 16) by omega, Mk, and_256 h2 (by decide), h1]
theorem W_all {a0 a1 a2 a3 a4 : Nat} (h0 : a0 < 256) (h1 : a1 < 256) (h2 : a2 < 256) (h3 : a3 < 256) (h4 : a4 < 256) :
    W3 8 (W2 8 (W1 8 (a0 + 256 * (a1 + 256 * (a2 + 256 * (a3 + 256 * a4)))))) = p3 (p2 (p1 a0)) + 256 * (p3 (p2 (p1 a1)) + 256 * (p3 (p2 (p1 a2)) + 256 * (p3 (p2 (p1 a3)) + 256 * p3 (p2 (p1 a4))))) := by
  have q0 := by4 ⟨a0, h0⟩
  have q1 := by4 ⟨a1, h1⟩
  have q2 := by4 ⟨a2, h2⟩
  have q3 := by4 ⟨a3, h3⟩
  have q4 := by4 ⟨a4, h4⟩
  simp only at q0 q1 q2 q3 q4
  have z1 : W1 3 0 = 0 := by decide
  have z2 : W2 3 0 = 0 := by decide
  have z3 : W3 3 0 = 0 := by decide
  have e4 : a4 = a4 + 256 * 0 := by omega
  rw [W1_s 7 h0, W1_s 6 h1, W1_s 5 h2, W1_s 4 h3]
  conv => lhs; rw [e4, W1_s 3 h4 0, z1]
  rw [W2_s 7 q0.2.2.2, W2_s 6 q1.2.2.2, W2_s 5 q2.2.2.2, W2_s 4 q3.2.2.2, W2_s 3 q4.2.2.2 0, z2]
  rw [W3_s 7 h0 _ (by omega), W3_s 6 h1 _ (by omega), W3_s 5 h2 _ (by omega), W3_s 4 h3 _ (by omega), W3_s 3 h4 0 (by omega), z3, Nat.mul_zero, Nat.add_zero]
theorem cn_ext {P Q : Nat → Bool} : ∀ n, (∀ i, i < n → P i = Q i) → cn P n = cn Q n
  | 0, _ => rfl
  | n + 1, h => by rw [cn, cn, h n (by omega), cn_ext n (fun i hi => h i (by omega))]
theorem cn_add (P : Nat → Bool) (a : Nat) : ∀ b, cn P (a + b) = cn P a + cn (fun i => P (a + i)) b
  | 0 => rfl
  | b + 1 => by
    rw [← Nat.add_assoc, cn, cn, cn_add P a b]
    by_cases h : P (a + b) = true
    · rw [if_pos h, if_pos h]; omega
    · rw [if_neg h, if_neg h]
theorem cn_z {P : Nat → Bool} : ∀ n, (∀ i, i < n → P i = false) → cn P n = 0
  | 0, _ => rfl
  | n + 1, h => by rw [cn, if_neg (by rw [h n (by omega)]; decide), cn_z n (fun i hi => h i (by omega))]
theorem cn_0 {P : Nat → Bool} : ∀ n, cn P n = 0 → ∀ i, i < n → P i = false
  | 0, _, i, hi => by omega
  | n + 1, h, i, hi => by
    rw [cn] at h
    by_cases hp : P n = true
    · rw [if_pos hp] at h; omega
    · rw [if_neg hp] at h
      by_cases e : i = n
      · subst e; simpa using hp
      · exact cn_0 n h i (by omega)
theorem tb_256 {a : Nat} (ha : a < 256) (m i : Nat) : (a + 256 * m).testBit i = if i < 8 then a.testBit i else m.testBit (i - 8) := by
  rw [Nat.add_comm a, show 256 * m + a = 256 * m ||| a from Nat.two_pow_add_eq_or_of_lt (i := 8) ha m, Nat.testBit_or, show (256 * m).testBit i = (decide (i ≥ 8) && m.testBit (i - 8)) from Nat.testBit_two_pow_mul (i := 8)]
  by_cases h : i < 8
  · rw [if_pos h, decide_eq_false (by omega)]; rfl
  · rw [if_neg h, Nat.testBit_lt_two_pow (Nat.lt_of_lt_of_le ha (Nat.pow_le_pow_right (n := 2) (i := 8) (by decide) (by omega))), decide_eq_true (by omega)]; simp
theorem cn_256 {a : Nat} (ha : a < 256) (m k : Nat) : cn (a + 256 * m).testBit (8 + k) = cn a.testBit 8 + cn m.testBit k := by
  rw [cn_add]
  congr 1
  · exact cn_ext 8 (fun i hi => by rw [tb_256 ha, if_pos hi])
  · exact cn_ext k (fun i hi => by rw [tb_256 ha, if_neg (by omega), show 8 + i - 8 = i by omega])
theorem sr_n {n k : Nat} (hn : n < 2 ^ 64) (hk : k < 64) : sr (lN n) (nI k) = lN (n / 2 ^ k) := g_ushr (wb_cu k hk) hk rfl hn
theorem bc1_n {n : Nat} (h : n < 2 ^ 62) : bc1 (lN n) = lN (W1 8 n) := by
  unfold bc1 W1
  rw [show (1 : Int32) = nI 1 from rfl, sr_n (by omega) (by decide), show (6148914691236517205 : Int64) = lN (Mk 85 8) by decide, wb_and (by omega) (by decide), lN_sub (Nat.le_trans Nat.and_le_left (Nat.div_le_self _ _))]
theorem bc2_n {n : Nat} (h : n < 2 ^ 62) : bc2 (lN n) = lN (W2 8 n) := by
  unfold bc2 W2
  rw [show (2 : Int32) = nI 2 from rfl, sr_n (by omega) (by decide), show (3689348814741910323 : Int64) = lN (Mk 51 8) by decide, wb_and (by omega) (by decide), wb_and (by omega) (by decide), lN_add]
theorem bc3_n {n : Nat} (h : n < 2 ^ 62) : bc3 (lN n) = lN (W3 8 n) := by
  unfold bc3 W3
  rw [show (4 : Int32) = nI 4 from rfl, sr_n (by omega) (by decide), show (1085102592571150095 : Int64) = lN (Mk 15 8) by decide, lN_add, wb_and (by omega) (by decide)]
theorem li_and (n : Nat) : (lN n).toInt32 &&& 127 = nI (n % 128) := by
  apply Int32.toBitVec_inj.mp
  apply BitVec.eq_of_toNat_eq
  rw [Int32.toBitVec_and, Int64.toBitVec_toInt32, lN_bv]
  rw [BitVec.signExtend_eq_setWidth_of_le _ (by decide)]
  show ((BitVec.ofNat 64 n).setWidth 32 &&& 127#32).toNat = (BitVec.ofNat 32 (n % 128)).toNat
  rw [BitVec.toNat_and, BitVec.toNat_setWidth, BitVec.toNat_ofNat, BitVec.toNat_ofNat, BitVec.toNat_ofNat, show 127 % 2 ^ 32 = 2 ^ 7 - 1 by decide, Nat.and_two_pow_sub_one_eq_mod]
  omega
theorem bcR_n {n : Nat} (h : n < 2 ^ 40) : bcR (lN n) = nI (cn n.testBit 40) := by
  obtain ⟨a0, a1, a2, a3, a4, h0, h1, h2, h3, h4, e⟩ : ∃ a0 a1 a2 a3 a4, a0 < 256 ∧ a1 < 256 ∧ a2 < 256 ∧ a3 < 256 ∧ a4 < 256 ∧ n = a0 + 256 * (a1 + 256 * (a2 + 256 * (a3 + 256 * a4))) :=
    ⟨n % 256, n / 256 % 256, n / 65536 % 256, n / 16777216 % 256, n / 4294967296, by omega, by omega, by omega, by omega, by omega, by omega⟩
  have hW := W_all h0 h1 h2 h3 h4
  rw [← e] at hW
  have q0 := (by4 ⟨a0, h0⟩).1
  have q1 := (by4 ⟨a1, h1⟩).1
  have q2 := (by4 ⟨a2, h2⟩).1
  have q3 := (by4 ⟨a3, h3⟩).1
  have q4 := (by4 ⟨a4, h4⟩).1
  simp only at q0 q1 q2 q3 q4
  rw [q0, q1, q2, q3, q4] at hW
  have c0 := cn_le a0.testBit 8
  have c1 := cn_le a1.testBit 8
  have c2 := cn_le a2.testBit 8
  have c3 := cn_le a3.testBit 8
  have c4 := cn_le a4.testBit 8
  have hc : cn n.testBit 40 = cn a0.testBit 8 + (cn a1.testBit 8 + (cn a2.testBit 8 + (cn a3.testBit 8 + cn a4.testBit 8))) := by
    rw [e, show (40 : Nat) = 8 + 32 from rfl, cn_256 h0, show (32 : Nat) = 8 + 24 from rfl, cn_256 h1, show (24 : Nat) = 8 + 16 from rfl, cn_256 h2, show (16 : Nat) = 8 + 8 from rfl, cn_256 h3]
  rw [hc]
  have w1 : W1 8 n ≤ n := Nat.sub_le _ _
  have w2 : W2 8 (W1 8 n) ≤ W1 8 n + W1 8 n / 4 := Nat.add_le_add Nat.and_le_left Nat.and_le_left
  unfold bcR
  rw [bc1_n (by omega), bc2_n (by omega), bc3_n (by omega), hW]
  generalize cn a0.testBit 8 = b0 at *
  generalize cn a1.testBit 8 = b1 at *
  generalize cn a2.testBit 8 = b2 at *
  generalize cn a3.testBit 8 = b3 at *
  generalize cn a4.testBit 8 = b4 at *
  unfold bc4 bc5 bc6
  rw [show (8 : Int32) = nI 8 from rfl, show (16 : Int32) = nI 16 from rfl, show (32 : Int32) = nI 32 from rfl, sr_n (by omega) (by decide), lN_add, sr_n (by omega) (by decide), lN_add, sr_n (by omega) (by decide), lN_add]
  clear w1 w2 hW hc q0 q1 q2 q3 q4 e h0 h1 h2 h3 h4 h
  have e1 : (b0 + 256 * (b1 + 256 * (b2 + 256 * (b3 + 256 * b4)))) / 2 ^ 8 = b1 + 256 * (b2 + 256 * (b3 + 256 * b4)) := by omega
  rw [e1]
  have e2 : (b0 + 256 * (b1 + 256 * (b2 + 256 * (b3 + 256 * b4))) + (b1 + 256 * (b2 + 256 * (b3 + 256 * b4)))) / 2 ^ 16 = (b2 + b3) + 256 * (b3 + b4 + 256 * b4) := by omega
  rw [e2]
  have e3 : (b0 + 256 * (b1 + 256 * (b2 + 256 * (b3 + 256 * b4))) + (b1 + 256 * (b2 + 256 * (b3 + 256 * b4))) + ((b2 + b3) + 256 * (b3 + b4 + 256 * b4))) / 2 ^ 32 = b4 := by omega
  rw [e3]
  rw [li_and]
  congr 1
  omega
