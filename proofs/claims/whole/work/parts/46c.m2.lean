/- tokens: both closures are the least closed one -/
def sub (s t : Int32) : Prop := ∀ k, bt s k = true → bt t k = true
theorem sub_eq {s t : Int32} (h1 : sub s t) (h2 : sub t s) : s = t := b_ext (fun i _ => by
  cases hs : bt s i
  · cases ht : bt t i
    · rfl
    · rw [h2 i ht] at hs; cases hs
  · exact (h1 i hs).symm)
theorem cn_mono {P Q : Nat → Bool} (h : ∀ j, P j = true → Q j = true) : ∀ n, cn P n ≤ cn Q n
  | 0 => Nat.le_refl _
  | n + 1 => by
    have := cn_mono h n
    rw [cn, cn]
    by_cases hp : P n = true
    · rw [if_pos hp, if_pos (h n hp)]; omega
    · rw [if_neg hp]; split <;> omega
theorem cn_strict {P Q : Nat → Bool} (h : ∀ j, P j = true → Q j = true) : ∀ n j, j < n → Q j = true → P j = false → cn P n < cn Q n
  | 0, j, hj, _, _ => by omega
  | n + 1, j, hj, hq, hp => by
    rw [cn, cn]
    by_cases e : j = n
    · subst e
      have := cn_mono h j
      rw [if_pos hq, if_neg (by rw [hp]; decide)]; omega
    · have := cn_strict h n j (by omega) hq hp
      by_cases hp2 : P n = true
      · rw [if_pos hp2, if_pos (h n hp2)]; omega
      · rw [if_neg hp2]; split <;> omega
theorem cn_full {P : Nat → Bool} : ∀ n, n ≤ cn P n → ∀ j, j < n → P j = true
  | 0, _, j, hj => by omega
  | n + 1, h, j, hj => by
    have h1 := cn_le (P := P) (n := n)
    rw [cn] at h
    by_cases hp : P n = true
    · rw [if_pos hp] at h
      by_cases e : j = n
      · subst e; exact hp
      · exact cn_full n (by omega) j (by omega)
    · rw [if_neg hp] at h; omega
def it8 (F : Int32 → Int32) (t : Int32) : Nat → Int32
  | 0 => t
  | r + 1 => F (it8 F t r)
theorem it8_fix {F : Int32 → Int32} (h1 : ∀ t, sub t (F t)) (h2 : ∀ t k, bt (F t) k = true → bt t k = true ∨ (8 ≤ k ∧ k < 16)) (t : Int32) : F (it8 F t 8) = it8 F t 8 := by
  have key : ∀ r, F (it8 F t r) = it8 F t r ∨ r ≤ cn (fun j => bt (it8 F t r) (8 + j)) 8 := by
    intro r
    induction r with
    | zero => exact .inr (Nat.zero_le _)
    | succ r ih =>
      by_cases hf : F (it8 F t r) = it8 F t r
      · left; show F (F (it8 F t r)) = F (it8 F t r); rw [hf]; exact hf
      · right
        have hr := ih.resolve_left hf
        have : ∃ k, bt (F (it8 F t r)) k = true ∧ bt (it8 F t r) k = false := by
          apply Classical.byContradiction
          intro hno
          apply hf
          refine sub_eq (fun k hk => ?_) (h1 _)
          cases hb : bt (it8 F t r) k
          · exact absurd ⟨k, hk, hb⟩ hno
          · rfl
        obtain ⟨k, k1, k2⟩ := this
        have k3 := (h2 _ k k1).resolve_left (by rw [k2]; decide)
        have := cn_strict (P := fun j => bt (it8 F t r) (8 + j)) (Q := fun j => bt (F (it8 F t r)) (8 + j)) (fun j hj => h1 _ _ hj) 8 (k - 8) (by omega) (by rw [show 8 + (k - 8) = k by omega]; exact k1) (by rw [show 8 + (k - 8) = k by omega]; exact k2)
        show r + 1 ≤ cn (fun j => bt (F (it8 F t r)) (8 + j)) 8
        omega
  rcases key 8 with h | h
  · exact h
  · refine sub_eq (fun k hk => ?_) (h1 _)
    rcases h2 _ k hk with q | q
    · exact q
    · have := cn_full 8 h (k - 8) (by omega)
      rw [show 8 + (k - 8) = k by omega] at this
      exact this
def clo (g : Nat → Int32) (t : Int32) : Prop := ∀ i, i < 16 → bt t i = true → sub (g i) t
theorem tk_bit (t : Int32) {i : Nat} (hi : i < 16) : ((t.toUInt32 >>> ((nI i).toUInt32 &&& Int32.toUInt32 31)).toInt32 &&& 1) = 0 ↔ bt t i = false := by
  constructor
  · intro h
    have := b_and ((t.toUInt32 >>> ((nI i).toUInt32 &&& Int32.toUInt32 31)).toInt32) 1 0
    rw [h, b_0, b_ushr i (by omega)] at this
    have e : bt (1 : Int32) 0 = true := by decide
    rw [e, Bool.and_true] at this
    exact this.symm
  · intro h
    apply b_ext
    intro k hk
    rw [b_and, b_0, b_ushr i (by omega)]
    by_cases e : k = 0
    · subst e; rw [Nat.add_zero, h]; rfl
    · have : bt (1 : Int32) k = false := by
        have : ∀ k : Fin 32, k.val ≠ 0 → bt (1 : Int32) k.val = false := by decide
        exact this ⟨k, hk⟩ e
      rw [this, Bool.and_false]
theorem tk_bit2 (t : Int32) {i : Nat} (hi : i < 16) : (t >>> (nI i &&& 31)) &&& 1 = 1 ↔ bt t i = true := by
  have e1 : bt (1 : Int32) 0 = true := by decide
  constructor
  · intro h
    have := b_and (t >>> (nI i &&& 31)) 1 0
    rw [h, b_sshr i (by omega) _ (by omega), if_pos (by omega), e1, Bool.and_true] at this
    exact this.symm
  · intro h
    apply b_ext
    intro k hk
    rw [b_and, b_sshr i (by omega) _ hk]
    by_cases e : k = 0
    · subst e; rw [if_pos (by omega), Nat.add_zero, h, e1]; rfl
    · have : bt (1 : Int32) k = false := by
        have : ∀ k : Fin 32, k.val ≠ 0 → bt (1 : Int32) k.val = false := by decide
        exact this ⟨k, hk⟩ e
      rw [this, Bool.and_false]
theorem tks_inf (g : Nat → Int32) (i : Nat) (t : Int32) : sub t (tk_s g i t) := by
  intro k hk
  unfold tk_s
  split
  · exact hk
  · rw [b_or, hk]; rfl
theorem tki_inf (g : Nat → Int32) (t : Int32) : ∀ i, sub t (tk_i g i t)
  | 0 => fun _ h => h
  | i + 1 => fun k hk => tks_inf g i _ k (tki_inf g t i k hk)
def gok (g : Nat → Int32) : Prop := ∀ i, i < 16 → ∀ k, bt (g i) k = true → 8 ≤ k ∧ k < 16
theorem tki_new {g : Nat → Int32} (hg : gok g) (t : Int32) : ∀ i, i ≤ 16 → ∀ k, bt (tk_i g i t) k = true → bt t k = true ∨ (8 ≤ k ∧ k < 16)
  | 0, _, k, hk => .inl hk
  | i + 1, hi, k, hk => by
    have ih := tki_new hg t i (by omega) k
    have hk2 : bt (tk_s g i (tk_i g i t)) k = true := hk
    unfold tk_s at hk2
    split at hk2
    · exact ih hk2
    · rw [b_or, Bool.or_eq_true] at hk2
      rcases hk2 with h | h
      · exact ih h
      · exact .inr (hg i (by omega) k h)
theorem tki_clo {g : Nat → Int32} {t : Int32} (h : tk_i g 16 t = t) : clo g t := by
  have pre : ∀ m i, i + m = 16 → tk_i g i t = t := by
    intro m
    induction m with
    | zero => intro i hi; rw [show i = 16 by omega]; exact h
    | succ m ih =>
      intro i hi
      refine sub_eq (fun k hk => ?_) (tki_inf g t i)
      have := ih (i + 1) (by omega)
      have h2 : bt (tk_i g (i + 1) t) k = true := tks_inf g i _ k hk
      rw [this] at h2
      exact h2
  intro i hi hb k hk
  have e1 := pre (16 - i) i (by omega)
  have e2 : tk_s g i (tk_i g i t) = t := pre (16 - (i + 1)) (i + 1) (by omega)
  rw [e1] at e2
  unfold tk_s at e2
  rw [if_neg (by rw [tk_bit t hi, hb]; decide)] at e2
  rw [← e2, b_or, hk, Bool.or_true]
theorem tki_le {g : Nat → Int32} {T : Int32} (hT : clo g T) {t : Int32} (h : sub t T) : ∀ i, i ≤ 16 → sub (tk_i g i t) T
  | 0, _ => h
  | i + 1, hi => by
    have ih := tki_le hT h i (by omega)
    intro k hk
    have hk2 : bt (tk_s g i (tk_i g i t)) k = true := hk
    unfold tk_s at hk2
    split at hk2
    · exact ih k hk2
    · rename_i hb
      rw [b_or, Bool.or_eq_true] at hk2
      rcases hk2 with q | q
      · exact ih k q
      · rw [tk_bit _ (by omega), Bool.not_eq_false] at hb
        exact hT i (by omega) (ih i hb) k q
theorem sw_inf (g : Nat → Int32) (b a : Int32) : ∀ i, sub a (sw g b i a)
  | 0 => fun _ h => h
  | i + 1 => fun k hk => by
    rw [sw]
    split
    · rw [b_or, sw_inf g b a i k hk]; rfl
    · exact sw_inf g b a i k hk
theorem sw_new {g : Nat → Int32} (hg : gok g) (b a : Int32) : ∀ i, i ≤ 16 → ∀ k, bt (sw g b i a) k = true → bt a k = true ∨ (8 ≤ k ∧ k < 16)
  | 0, _, k, hk => .inl hk
  | i + 1, hi, k, hk => by
    have ih := sw_new hg b a i (by omega) k
    rw [sw] at hk
    split at hk
    · rw [b_or, Bool.or_eq_true] at hk
      rcases hk with h | h
      · exact ih h
      · exact .inr (hg i (by omega) k h)
    · exact ih hk
theorem sw_has {g : Nat → Int32} (b a : Int32) : ∀ n, n ≤ 16 → ∀ i, i < n → bt b i = true → sub (g i) (sw g b n a)
  | 0, _, i, hi, _ => by omega
  | n + 1, hn, i, hi, hb => by
    intro k hk
    rw [sw]
    by_cases e : i = n
    · subst e
      rw [if_pos ((tk_bit2 b (by omega)).mpr hb), b_or, hk, Bool.or_true]
    · have := sw_has (g := g) b a n (by omega) i (by omega) hb k hk
      split
      · rw [b_or, this]; rfl
      · exact this
theorem sw_clo {g : Nat → Int32} {t : Int32} (h : sw g t 16 t = t) : clo g t := by
  intro i hi hb k hk
  have := sw_has (g := g) t t 16 (by omega) i hi hb k hk
  rw [h] at this
  exact this
theorem sw_le {g : Nat → Int32} {T : Int32} (hT : clo g T) {b a : Int32} (hb : sub b T) (h : sub a T) : ∀ i, i ≤ 16 → sub (sw g b i a) T
  | 0, _ => h
  | i + 1, hi => by
    have ih := sw_le hT hb h i (by omega)
    intro k hk
    rw [sw] at hk
    split at hk
    · rename_i hc
      rw [b_or, Bool.or_eq_true] at hk
      rcases hk with q | q
      · exact ih k q
      · exact hT i (by omega) (hb i ((tk_bit2 b (by omega)).mp hc)) k q
    · exact ih k hk
theorem tko_it (g : Nat → Int32) (t : Int32) : ∀ r, tk_o g r t = it8 (tk_i g 16) t r
  | 0 => rfl
  | r + 1 => by rw [tk_o, it8, tko_it g t r]
theorem tkm_it (g : Nat → Int32) (t : Int32) : ∀ r, tkm g t r = it8 (fun a => sw g a 16 a) t r
  | 0 => rfl
  | r + 1 => by rw [tkm, it8, tkm_it g t r]
theorem tkm_9 {g : Nat → Int32} (hg : gok g) (t : Int32) : tkm g t 9 = tkm g t 8 := by
  rw [tkm_it, tkm_it]
  exact it8_fix (fun t => sw_inf g t t 16) (fun t k => sw_new hg t t 16 (by omega) k) t
theorem it8_inf {F : Int32 → Int32} (h1 : ∀ t, sub t (F t)) (t : Int32) : ∀ r, sub t (it8 F t r)
  | 0 => fun _ h => h
  | r + 1 => fun k hk => h1 _ k (it8_inf h1 t r k hk)
theorem tok_eq {g : Nat → Int32} (hg : gok g) (t : Int32) : tk_o g 8 t = tkm g t 8 := by
  have a1 : tk_i g 16 (tk_o g 8 t) = tk_o g 8 t := by
    rw [tko_it]; exact it8_fix (fun t => tki_inf g t 16) (fun t k => tki_new hg t 16 (by omega) k) t
  have a2 : sw g (tkm g t 8) 16 (tkm g t 8) = tkm g t 8 := tkm_9 hg t
  have c1 := tki_clo a1
  have c2 := sw_clo a2
  have s1 : sub t (tk_o g 8 t) := by rw [tko_it]; exact it8_inf (fun t => tki_inf g t 16) t 8
  have s2 : sub t (tkm g t 8) := by rw [tkm_it]; exact it8_inf (fun t => sw_inf g t t 16) t 8
  have l1 : ∀ r, sub (tk_o g r t) (tkm g t 8) := by
    intro r
    induction r with
    | zero => exact s2
    | succ r ih => exact tki_le c2 ih 16 (by omega)
  have l2 : ∀ r, sub (tkm g t r) (tk_o g 8 t) := by
    intro r
    induction r with
    | zero => exact s1
    | succ r ih => exact sw_le c1 ih ih 16 (by omega)
  exact sub_eq (l1 8) (l2 8)
theorem tk_s_congr {g h : Nat → Int32} {i : Nat} (e : g i = h i) (t : Int32) : tk_s g i t = tk_s h i t := by unfold tk_s; rw [e]
theorem tk_i_congr {g h : Nat → Int32} (e : ∀ i, i < 16 → g i = h i) (t : Int32) : ∀ i, i ≤ 16 → tk_i g i t = tk_i h i t
  | 0, _ => rfl
  | i + 1, hi => by rw [tk_i, tk_i, tk_i_congr e t i (by omega), tk_s_congr (e i (by omega))]
theorem tk_o_congr {g h : Nat → Int32} (e : ∀ i, i < 16 → g i = h i) (t : Int32) : ∀ r, tk_o g r t = tk_o h r t
  | 0 => rfl
  | r + 1 => by rw [tk_o, tk_o, tk_o_congr e t r, tk_i_congr e _ 16 (by omega)]
