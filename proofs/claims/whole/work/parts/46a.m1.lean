/- lists of documents: el P a n, the documents of [a, a+n) that hold P, rising -/
def el (P : Nat → Bool) (a n : Nat) : List Nat := (List.range' a n).filter P
theorem el_mem {P : Nat → Bool} {a n i : Nat} : i ∈ el P a n ↔ (a ≤ i ∧ i < a + n) ∧ P i = true := by
  rw [el, List.mem_filter, List.mem_range'_1]
theorem el_asc (P : Nat → Bool) (a n : Nat) : (el P a n).Pairwise (· < ·) := List.Pairwise.filter _ (List.pairwise_lt_range')
theorem el_z (P : Nat → Bool) (a : Nat) : el P a 0 = [] := rfl
theorem el_s (P : Nat → Bool) (a n : Nat) : el P a (n + 1) = el P a n ++ (if P (a + n) = true then [a + n] else []) := by
  rw [el, List.range'_1_concat, List.filter_append, el]
  congr 1
  by_cases h : P (a + n) = true
  · simp [h]
  · simp [h]
theorem el_c (P : Nat → Bool) (a n : Nat) : el P a (n + 1) = if P a = true then a :: el P (a + 1) n else el P (a + 1) n := by
  rw [el, List.range'_succ]
  by_cases h : P a = true
  · simp [h, el]
  · simp [h, el]
theorem el_len (P : Nat → Bool) (a n : Nat) : (el P a n).length ≤ n := by
  have := List.length_filter_le P (List.range' a n)
  rw [List.length_range'] at this
  exact this
theorem asc_ext : ∀ {l l' : List Nat}, l.Pairwise (· < ·) → l'.Pairwise (· < ·) → (∀ i, i ∈ l ↔ i ∈ l') → l = l'
  | [], [], _, _, _ => rfl
  | [], b :: l', _, _, h => absurd ((h b).mpr List.mem_cons_self) (by simp)
  | a :: l, [], _, _, h => absurd ((h a).mp List.mem_cons_self) (by simp)
  | a :: l, b :: l', p, q, h => by
    obtain ⟨p1, p2⟩ := List.pairwise_cons.mp p
    obtain ⟨q1, q2⟩ := List.pairwise_cons.mp q
    have hab : a = b := by
      rcases List.mem_cons.mp ((h a).mp List.mem_cons_self) with e | e
      · exact e
      · rcases List.mem_cons.mp ((h b).mpr List.mem_cons_self) with e2 | e2
        · exact e2.symm
        · have := q1 a e; have := p1 b e2; omega
    subst hab
    rw [asc_ext p2 q2 (fun i => by
      constructor
      · intro hi
        rcases List.mem_cons.mp ((h i).mp (List.mem_cons_of_mem _ hi)) with e | e
        · have := p1 i hi; omega
        · exact e
      · intro hi
        rcases List.mem_cons.mp ((h i).mpr (List.mem_cons_of_mem _ hi)) with e | e
        · have := q1 i hi; omega
        · exact e)]
theorem mx_le (x y : Int32) : (if ¬ y ≤ x then y else x) = mx x y := by
  unfold mx
  by_cases h : x < y
  · rw [if_pos h, if_pos (by rw [Int32.le_iff_toInt_le]; rw [Int32.lt_iff_toInt_lt] at h; omega)]
  · rw [if_neg h, if_neg (by rw [Int32.le_iff_toInt_le]; rw [Int32.lt_iff_toInt_lt] at h; omega)]
def mxL (cd : Nat → Int32) (l : List Nat) (g : Int32) : Int32 := l.foldl (fun g d => mx g (cd d)) g
theorem bst_el (cd : Nat → Int32) (P : Nat → Bool) (a : Nat) : ∀ n, bst cd P a n = mxL cd (el P a n) 0
  | 0 => rfl
  | n + 1 => by
    rw [bst, bst_el cd P a n, el_s, mxL, mxL, List.foldl_append]
    by_cases h : P (a + n) = true
    · rw [if_pos h]
      show _ = mx _ _
      rw [← mx_le]
      simp only [h, true_and]
    · rw [if_neg h]
      simp [h]
def lkL (tk : Nat → hp → hp) (l : List Nat) (y : hp × Int32) : hp × Int32 := l.foldl (fun y d => (tk d y.1, y.2 + 1)) y
theorem lkM_el (G : Nat → Bool) (g : Nat → UInt32) (M a : Nat) (y : hp × Int32) : ∀ n, lkM G g M a n y = lkL (fun d h => mEnt (nI d) (g d) M h) (el G a n) y
  | 0 => rfl
  | n + 1 => by
    rw [lkM, lkM_el G g M a y n, el_s, lkL, lkL, List.foldl_append]
    by_cases h : G (a + n) = true
    · rw [if_pos h, if_pos h]; rfl
    · rw [if_neg h, if_neg h]; rfl
theorem bb_el (P : Nat → Bool) : ∀ r d n, n ≤ 4 → d ≤ bb P r d n ∧ bb P r d n ≤ d + r ∧ el P d (bb P r d n - d) = (el P d r).take (4 - n) ∧ el P (bb P r d n) (d + r - bb P r d n) = (el P d r).drop (4 - n)
  | 0, d, n, hn => by
    simp only [bb]
    refine ⟨by omega, by omega, ?_, ?_⟩
    · rw [show d - d = 0 by omega]; simp [el_z]
    · rw [show d + 0 - d = 0 by omega]; simp [el_z]
  | r + 1, d, n, hn => by
    rw [bb]
    by_cases h4 : 4 ≤ n
    · rw [if_pos h4]
      refine ⟨by omega, by omega, ?_, ?_⟩
      · rw [show d - d = 0 by omega, show 4 - n = 0 by omega]; simp [el_z]
      · rw [show d + (r + 1) - d = r + 1 by omega, show 4 - n = 0 by omega]; simp
    · rw [if_neg h4]
      by_cases hp : P d = true
      · rw [if_pos hp]
        obtain ⟨a1, a2, a3, a4⟩ := bb_el P r (d + 1) (n + 1) (by omega)
        generalize bb P r (d + 1) (n + 1) = e at a1 a2 a3 a4
        refine ⟨by omega, by omega, ?_, ?_⟩
        · rw [show e - d = (e - (d + 1)) + 1 by omega, el_c, if_pos hp, a3, el_c, if_pos hp, show 4 - n = (4 - (n + 1)) + 1 by omega, List.take_succ_cons]
        · rw [show d + (r + 1) - e = d + 1 + r - e by omega, a4, el_c, if_pos hp, show 4 - n = (4 - (n + 1)) + 1 by omega, List.drop_succ_cons]
      · rw [if_neg hp]
        obtain ⟨a1, a2, a3, a4⟩ := bb_el P r (d + 1) n (by omega)
        generalize bb P r (d + 1) n = e at a1 a2 a3 a4
        refine ⟨by omega, by omega, ?_, ?_⟩
        · rw [show e - d = (e - (d + 1)) + 1 by omega, el_c, if_neg hp, a3, el_c, if_neg hp]
        · rw [show d + (r + 1) - e = d + 1 + r - e by omega, a4, el_c, if_neg hp]
theorem el_ne {P : Nat → Bool} {a n : Nat} : anyB (fun i => P (a + i)) n = true ↔ el P a n ≠ [] := by
  rw [anyB_iff]
  constructor
  · rintro ⟨i, h1, h2⟩ h
    have : a + i ∈ el P a n := el_mem.mpr ⟨⟨by omega, by omega⟩, h2⟩
    rw [h] at this; simp at this
  · intro h
    obtain ⟨x, l, e⟩ := List.exists_cons_of_ne_nil h
    have : x ∈ el P a n := by rw [e]; exact List.mem_cons_self
    obtain ⟨⟨h1, h2⟩, h3⟩ := el_mem.mp this
    exact ⟨x - a, by omega, by rw [show a + (x - a) = x by omega]; exact h3⟩
/- passes over blocks of four -/
def pL {Y : Type} (B : List Nat → Y → Y) : Nat → List Nat → Y → Y
  | 0, _, y => y
  | r + 1, l, y => if l = [] then y else pL B r (l.drop 4) (B (l.take 4) y)
theorem pL_nil {Y : Type} (B : List Nat → Y → Y) (y : Y) : ∀ r, pL B r [] y = y
  | 0 => rfl
  | r + 1 => if_pos rfl
theorem pL_fuel {Y : Type} (B : List Nat → Y → Y) : ∀ r r' l (y : Y), l.length ≤ 4 * r → l.length ≤ 4 * r' → pL B r l y = pL B r' l y
  | 0, r', l, y, h, h' => by
    have : l = [] := List.length_eq_zero_iff.mp (by omega)
    rw [this, pL_nil, pL_nil]
  | r + 1, 0, l, y, h, h' => by
    have : l = [] := List.length_eq_zero_iff.mp (by omega)
    rw [this, pL_nil, pL_nil]
  | r + 1, r' + 1, l, y, h, h' => by
    rw [pL, pL]
    by_cases e : l = []
    · rw [if_pos e, if_pos e]
    · rw [if_neg e, if_neg e]
      exact pL_fuel B r r' _ _ (by rw [List.length_drop]; omega) (by rw [List.length_drop]; omega)
/- a word's list -/
def ls (n : Nat) : List Nat := el n.testBit 0 40
theorem ls_mem {n : Nat} (h : n < 2 ^ 40) {i : Nat} : i ∈ ls n ↔ n.testBit i = true := by
  rw [ls, el_mem]
  constructor
  · exact fun h => h.2
  · intro h1; exact ⟨⟨by omega, by have := lo_lt h h1; omega⟩, h1⟩
theorem ls_asc (n : Nat) : (ls n).Pairwise (· < ·) := el_asc _ _ _
theorem ls_0 {n : Nat} (h : n < 2 ^ 40) : ls n = [] ↔ n = 0 := by
  constructor
  · intro e
    apply Nat.eq_of_testBit_eq
    intro i
    rw [Nat.zero_testBit]
    cases hi : n.testBit i
    · rfl
    · have := (ls_mem h).mpr hi; rw [e] at this; simp at this
  · intro e
    apply List.eq_nil_iff_forall_not_mem.mpr
    intro i hi
    have := (ls_mem h).mp hi; rw [e, Nat.zero_testBit] at this; simp at this
theorem ls_len (n : Nat) : (ls n).length ≤ 40 := el_len _ _ _
theorem ls_lo {n : Nat} (h : n < 2 ^ 40) (h0 : n ≠ 0) : ls n = lo n :: ls (n - 2 ^ lo n) ∧ n - 2 ^ lo n < 2 ^ 40 ∧ n &&& (n - 1) = n - 2 ^ lo n := by
  obtain ⟨d, h1, h2⟩ := lo_ex h0
  have hd : d < 40 := lo_lt h h1
  have e : lo n = d := lo_is h1 h2 (by omega) (by omega)
  rw [e]
  have hc := lo_clear h1 h2
  have hlt : n - 2 ^ d < 2 ^ 40 := Nat.lt_of_le_of_lt (Nat.sub_le _ _) h
  refine ⟨?_, hlt, hc⟩
  have hb : ∀ i, (n - 2 ^ d).testBit i = (n.testBit i && !decide (i = d)) := by
    intro i
    have hf := lo_form h1 h2
    have hq : n - 2 ^ d = 2 ^ (d + 1) * (n / 2 ^ (d + 1)) := by omega
    have ho : n = 2 ^ (d + 1) * (n / 2 ^ (d + 1)) ||| 2 ^ d := by
      rw [← Nat.two_pow_add_eq_or_of_lt (Nat.pow_lt_pow_right (by decide) (Nat.lt_succ_self d))]; exact hf
    rw [hq]
    generalize n / 2 ^ (d + 1) = q at ho
    rw [ho, Nat.testBit_or, Nat.testBit_two_pow]
    have hz : (2 ^ (d + 1) * q).testBit d = false := by rw [Nat.testBit_two_pow_mul, decide_eq_false (by omega)]; rfl
    by_cases e2 : i = d
    · subst e2; rw [hz]; simp
    · have : ¬ d = i := fun w => e2 w.symm
      simp [e2, this]
  apply asc_ext (ls_asc n)
  · rw [List.pairwise_cons]
    refine ⟨?_, ls_asc _⟩
    intro i hi
    have hi2 := (ls_mem hlt).mp hi
    rw [hb, Bool.and_eq_true] at hi2
    have hne : i ≠ d := by simpa using hi2.2
    by_cases hlt2 : i < d
    · rw [h2 i hlt2] at hi2; simp at hi2
    · omega
  · intro i
    rw [ls_mem h, List.mem_cons, ls_mem hlt, hb, Bool.and_eq_true]
    by_cases q : i = d
    · subst q; simp [h1]
    · simp [q]
theorem clk_ls {n : Nat} (h : n < 2 ^ 40) : ∀ k, clk k n < 2 ^ 40 ∧ ls (clk k n) = (ls n).drop k
  | 0 => ⟨h, by simp [clk]⟩
  | k + 1 => by
    obtain ⟨a, b⟩ := clk_ls h k
    rw [clk]
    by_cases h0 : clk k n = 0
    · rw [h0] at b ⊢
      refine ⟨by decide, ?_⟩
      rw [show (0 &&& (0 - 1)) = 0 by decide, b, ← List.drop_drop] 
      have : (ls n).drop k = [] := by rw [← b]; exact (ls_0 (by decide)).mpr rfl
      rw [this]; rfl
    · obtain ⟨c1, c2, c3⟩ := ls_lo a h0
      rw [c3]
      refine ⟨c2, ?_⟩
      rw [← List.drop_drop, ← b, c1]; rfl
theorem an_tb (n r i : Nat) : (an n r).testBit i = (n.testBit i && !r.testBit i) := by
  rw [an, Nat.testBit_xor, Nat.testBit_and]
  cases n.testBit i <;> cases r.testBit i <;> rfl
theorem asc_split {l : List Nat} (h : l.Pairwise (· < ·)) (k : Nat) {i : Nat} : i ∈ l.take k ↔ i ∈ l ∧ ¬ i ∈ l.drop k := by
  have h1 := h
  rw [← List.take_append_drop k l, List.pairwise_append] at h1
  constructor
  · intro hi
    exact ⟨List.mem_of_mem_take hi, fun hj => by have := h1.2.2 i hi i hj; omega⟩
  · rintro ⟨a, b⟩
    rw [← List.take_append_drop k l, List.mem_append] at a
    exact a.resolve_right b
theorem blk_ls {n : Nat} (h : n < 2 ^ 40) : ls (an n (clk 4 n)) = (ls n).take 4 := by
  obtain ⟨a, b⟩ := clk_ls h 4
  apply asc_ext (ls_asc _) (List.Pairwise.take (ls_asc n))
  intro i
  rw [ls_mem (an_lt h), an_tb, Bool.and_eq_true, asc_split (ls_asc n), ls_mem h, ← b, ls_mem a]
  cases (clk 4 n).testBit i <;> simp
theorem rest_ls {n : Nat} (h : n < 2 ^ 40) : ls (an n (an n (clk 4 n))) = (ls n).drop 4 := by
  obtain ⟨a, b⟩ := clk_ls h 4
  apply asc_ext (ls_asc _) (List.Pairwise.drop (ls_asc n))
  intro i
  rw [ls_mem (an_lt h), an_tb, an_tb, ← b, ls_mem a]
  have : (clk 4 n).testBit i = true → n.testBit i = true := by
    intro q
    have : i ∈ (ls n).drop 4 := by rw [← b]; exact (ls_mem a).mpr q
    exact (ls_mem h).mp (List.mem_of_mem_drop this)
  cases h1 : (clk 4 n).testBit i
  · cases n.testBit i <;> simp
  · rw [this h1]; simp
theorem and_lt {n : Nat} (c : Nat) (h : n < 2 ^ 40) : n &&& c < 2 ^ 40 := Nat.lt_of_le_of_lt Nat.and_le_left h
theorem and_ls {n : Nat} (c : Nat) (h : n < 2 ^ 40) : ls (n &&& c) = (ls n).filter c.testBit := by
  apply asc_ext (ls_asc _) (List.Pairwise.filter _ (ls_asc n))
  intro i
  rw [ls_mem (and_lt c h), List.mem_filter, ls_mem h, Nat.testBit_and, Bool.and_eq_true]
theorem gc_ls (cd : Nat → Int32) (f t : Nat) : ∀ k n g, n < 2 ^ 40 → (ls n).length ≤ k → gc cd f t k n g = mxL (fun d => cd ((d * 3 + f) * 8 + t)) (ls n) g
  | 0, n, g, h, hl => by
    have : ls n = [] := List.length_eq_zero_iff.mp (by omega)
    rw [this]; rfl
  | k + 1, n, g, h, hl => by
    rw [gc]
    by_cases h0 : n = 0
    · rw [if_pos h0, (ls_0 h).mpr h0]; rfl
    · obtain ⟨c1, c2, c3⟩ := ls_lo h h0
      rw [if_neg h0, c1, gc_ls cd f t k _ _ c2 (by rw [c1] at hl; simpa using hl)]; rfl
theorem lk_ls (F : Nat → Bool) (g : Nat → UInt32) (M : Nat) : ∀ k n x, n < 2 ^ 40 → (ls n).length ≤ k → lk F g M k n x = lkL (fun d h => hpTake (nI d) (g d) M h) ((ls n).filter F) x
  | 0, n, x, h, hl => by
    have : ls n = [] := List.length_eq_zero_iff.mp (by omega)
    rw [this]; rfl
  | k + 1, n, x, h, hl => by
    rw [lk]
    by_cases h0 : n = 0
    · rw [if_pos h0, (ls_0 h).mpr h0]; rfl
    · obtain ⟨c1, c2, c3⟩ := ls_lo h h0
      rw [if_neg h0, c1, lk_ls F g M k _ _ c2 (by rw [c1] at hl; simpa using hl), List.filter_cons]
      by_cases hF : F (lo n) = true
      · rw [if_pos hF, if_pos hF]; rfl
      · rw [if_neg hF, if_neg hF]
theorem ls_pow {d : Nat} (h : d < 40) : ls (2 ^ d) = [d] := by
  have h1 : (2 : Nat) ^ d < 2 ^ 40 := Nat.pow_lt_pow_right (by decide) h
  apply asc_ext (ls_asc _) (by simp)
  intro i
  rw [ls_mem h1, Nat.testBit_two_pow, List.mem_singleton, decide_eq_true_eq]
  exact ⟨fun h => h.symm, fun h => h.symm⟩
