/- scores, over lists -/
def scL (I : Nat → Bool) (w : Nat → UInt32) (cd : Nat → Nat → Int32) (l : List Nat) : Nat → UInt32
  | 0 => FP.fconst0
  | i + 1 => if I i = true then FP.fadd (scL I w cd l i) (FP.fmul (w i) (cK (mxL (fun d => cd d i) l 0))) else scL I w cd l i
theorem mxL_cons (cd : Nat → Int32) (d : Nat) (l : List Nat) (g : Int32) : mxL cd (d :: l) g = mxL cd l (mx g (cd d)) := by
  unfold mxL
  rw [List.foldl_cons]
theorem fl_ext {α β : Type} {f g : α → β → α} (l : List β) : ∀ a, (∀ a b, b ∈ l → f a b = g a b) → l.foldl f a = l.foldl g a := by
  induction l with
  | nil => intro a _; rfl
  | cons d l ih =>
    intro a h
    rw [List.foldl_cons, List.foldl_cons, h a d List.mem_cons_self]
    exact ih _ (fun a b hb => h a b (List.mem_cons_of_mem _ hb))
theorem mxL_congr {cd cd' : Nat → Int32} (l : List Nat) (g : Int32) (h : ∀ d, d ∈ l → cd d = cd' d) : mxL cd l g = mxL cd' l g := by
  unfold mxL
  exact fl_ext l g (fun a b hb => by rw [h b hb])
theorem scL_congr {I I' : Nat → Bool} {w w' : Nat → UInt32} {cd cd' : Nat → Nat → Int32} {l : List Nat} (k : Nat) : (∀ i, i < k → I i = I' i ∧ w i = w' i ∧ ∀ d, d ∈ l → cd d i = cd' d i) → scL I w cd l k = scL I' w' cd' l k := by
  induction k with
  | zero => exact fun _ => Eq.refl (FP.fconst0)
  | succ k ih =>
    intro h
    obtain ⟨h1, h2, h3⟩ := h k (Nat.lt_succ_self k)
    have e := mxL_congr (cd := fun d => cd d k) (cd' := fun d => cd' d k) l 0 h3
    have ih2 := ih (fun i hi => h i (Nat.lt_succ_of_lt hi))
    unfold scL
    rw [h1, h2, e, ih2]
theorem mx_b {x y : Int32} (h1 : 0 ≤ x ∧ x ≤ 255) (h2 : 0 ≤ y ∧ y ≤ 255) : 0 ≤ mx x y ∧ mx x y ≤ 255 := by
  unfold mx
  split
  · exact h2
  · exact h1
theorem mxL_b {cd : Nat → Int32} : ∀ (l : List Nat) (g : Int32), (0 ≤ g ∧ g ≤ 255) → (∀ d, d ∈ l → 0 ≤ cd d ∧ cd d ≤ 255) → 0 ≤ mxL cd l g ∧ mxL cd l g ≤ 255
  | [], g, hg, _ => hg
  | d :: l, g, hg, h => by
    rw [mxL_cons]
    exact mxL_b l _ (mx_b hg (h d List.mem_cons_self)) (fun e he => h e (List.mem_cons_of_mem _ he))
theorem b0255 : (0 : Int32) ≤ 0 ∧ (0 : Int32) ≤ 255 := ⟨by decide, by decide⟩
theorem scL_fp {I : Nat → Bool} {w : Nat → UInt32} {cd : Nat → Nat → Int32} {l : List Nat} : ∀ k, (∀ i, i < k → WF (w i) ∧ ∀ d, d ∈ l → 0 ≤ cd d i ∧ cd d i ≤ 255) → fp (scL I w cd l k)
  | 0, _ => by show UInt32.toNat 0 ≤ 2139095040; decide
  | k + 1, h => by
    have ih := scL_fp (I := I) k (fun i hi => h i (by omega))
    obtain ⟨h1, h2⟩ := h k (by omega)
    obtain ⟨m1, m2⟩ := mxL_b (cd := fun d => cd d k) l 0 b0255 h2
    rw [scL]
    split
    · exact wadd_fp ih h1 (by have := cK_lt m1 m2; omega)
    · exact ih
theorem gc_b {cd : Nat → Int32} (hc : ∀ q, 0 ≤ cd q ∧ cd q ≤ 255) (f t : Nat) : ∀ k n g, (0 ≤ g ∧ g ≤ 255) → 0 ≤ gc cd f t k n g ∧ gc cd f t k n g ≤ 255
  | 0, n, g, hg => hg
  | k + 1, n, g, hg => by
    rw [gc]
    split
    · exact hg
    · exact gc_b hc f t k _ _ (mx_b hg (hc _))
theorem wor_lt {S : vs_S} (hc : ∀ q, 0 ≤ S.1 2 q ∧ S.1 2 q ≤ 255) (n i : Nat) : (wor S n i).toNat < 2139095040 := by
  obtain ⟨m1, m2⟩ := gc_b hc (S.1 13 i).toNatClampNeg (S.1 12 i).toNatClampNeg 4 n 0 b0255
  have := cK_lt m1 m2
  unfold wor
  unfold cK at this
  omega
theorem scF_fp {S : vs_S} (hc : ∀ q, 0 ≤ S.1 2 q ∧ S.1 2 q ≤ 255) (n : Nat) : ∀ k, (∀ i, i < k → WF (S.2.2.1 14 i)) → fp (scF S n k)
  | 0, _ => by show UInt32.toNat 0 ≤ 2139095040; decide
  | k + 1, h => by
    have ih := scF_fp hc n k (fun i hi => h i (by omega))
    rw [scF]
    split
    · exact wadd_fp ih (h k (by omega)) (wor_lt hc n k)
    · exact ih
theorem scOK_of {S : vs_S} (hc : ∀ q, 0 ≤ S.1 2 q ∧ S.1 2 q ≤ 255) {k : Nat} (hw : ∀ i, i < k → WF (S.2.2.1 14 i)) (n i : Nat) (hi : i < k) : scOK S n i := fun _ =>
  ⟨fp_n (Nat.le_of_lt (wor_lt hc n i)), wmul_n (hw i hi) (wor_lt hc n i), fp_n (wadd_fp (scF_fp hc n i (fun j hj => hw j (by omega))) (hw i hi) (wor_lt hc n i))⟩
theorem scF_ls (S : vs_S) {n : Nat} (hn : n < 2 ^ 40) (hl : (ls n).length ≤ 4) : ∀ k, scF S n k = scL (isS S) (S.2.2.1 14) (cdx S) (ls n) k
  | 0 => rfl
  | k + 1 => by
    rw [scF, scL, scF_ls S hn hl k]
    unfold wor
    rw [gc_ls _ _ _ 4 n 0 hn hl]
    rfl
theorem bst_b {cd : Nat → Int32} {P : Nat → Bool} {a : Nat} (hc : ∀ q, 0 ≤ cd q ∧ cd q ≤ 255) (n : Nat) : 0 ≤ bst cd P a n ∧ bst cd P a n ≤ 255 := by
  rw [bst_el]; exact mxL_b _ _ b0255 (fun d _ => hc d)
theorem le0_eq {x : Int32} (h0 : 0 ≤ x) (h : x ≤ 0) : x = 0 := by
  rw [Int32.le_iff_toInt_le] at h0 h
  exact Int32.toInt_inj.mp (by omega)
theorem scM_el (S : vs_S) (o : Nat → Nat) (u : Nat) (x : Int32) (a n : Nat) (hc : ∀ q, 0 ≤ S.1 43 q ∧ S.1 43 q ≤ 255) : ∀ k, (∀ i, i < k → WF (FP.d2f (S.2.2.2.1 58 (o i)))) → scM S o u x a n k = scL (fun i => isSM S u (o i)) (fun i => FP.d2f (S.2.2.2.1 58 (o i))) (fun d i => cdM S d (o i)) (el (sP S x) a n) k ∧ fp (scM S o u x a n k)
  | 0, _ => ⟨rfl, by show UInt32.toNat 0 ≤ 2139095040; decide⟩
  | k + 1, hw => by
    obtain ⟨ih, ihf⟩ := scM_el S o u x a n hc k (fun i hi => hw i (by omega))
    have hb : bsM S x a n (o k) = mxL (fun d => cdM S d (o k)) (el (sP S x) a n) 0 := bst_el _ _ _ _
    obtain ⟨b1, b2⟩ : 0 ≤ bsM S x a n (o k) ∧ bsM S x a n (o k) ≤ 255 := bst_b (fun q => hc _) n
    have hW := hw k (by omega)
    have hy : fp (FP.fadd (scM S o u x a n k) (woM S x a n (o k))) := wadd_fp ihf hW (by have : (cK (bsM S x a n (o k))).toNat < 1098907648 := cK_lt b1 b2; exact Nat.lt_trans this (by decide))
    rw [scM, scL]
    by_cases h1 : isSM S u (o k) = true
    · by_cases h2 : bsM S x a n (o k) ≤ 0
      · rw [if_neg (fun q => q.2 h2), if_pos h1, ← hb, le0_eq b1 h2, cK_0, ← ih, wadd_0 ihf hW]
        exact ⟨rfl, ihf⟩
      · rw [if_pos ⟨h1, h2⟩, if_pos h1, ← hb, ← ih]
        exact ⟨rfl, hy⟩
    · rw [if_neg (fun q => h1 q.1), if_neg h1]
      exact ⟨ih, ihf⟩
theorem scMK_of {S : vs_S} {o : Nat → Nat} (u : Nat) (hc : ∀ q, 0 ≤ S.1 43 q ∧ S.1 43 q ≤ 255) {k : Nat} (hw : ∀ i, i < k → WF (FP.d2f (S.2.2.2.1 58 (o i)))) (x : Int32) (a n i : Nat) (hi : i < k) : scMK S o u x a n i := by
  intro _ _
  obtain ⟨b1, b2⟩ : 0 ≤ bsM S x a n (o i) ∧ bsM S x a n (o i) ≤ 255 := bst_b (fun q => hc _) n
  have hk : (cK (bsM S x a n (o i))).toNat < 2139095040 := Nat.lt_trans (cK_lt b1 b2) (by decide)
  refine ⟨WF_n (hw i hi), fp_n (Nat.le_of_lt hk), wmul_n (hw i hi) hk, ?_⟩
  exact fp_n (wadd_fp (scM_el S o u x a n hc i (fun j hj => hw j (by omega))).2 (hw i hi) hk)
/- passes -/
def BX (S : vs_S) (kq M cnd : Nat) (l : List Nat) (x : hp × Int32 × Int32) : hp × Int32 × Int32 :=
  if x.1.2.2 < M ∨ 0 < cmpL (scL (isS S) (S.2.2.1 14) (cdx S) l kq) (lastp x.1) then ((lkL (fun d h => hpTake (nI d) (scF S (2 ^ d) kq) M h) (l.filter (fun d => cnd.testBit d && fnd S d kq)) (x.1, x.2.2)).1, x.2.1 + 1, (lkL (fun d h => hpTake (nI d) (scF S (2 ^ d) kq) M h) (l.filter (fun d => cnd.testBit d && fnd S d kq)) (x.1, x.2.2)).2) else x
theorem ps_pL (S : vs_S) (kq M cnd : Nat) : ∀ k n x, n < 2 ^ 40 → ps S kq M cnd k n x = pL (BX S kq M cnd) k (ls n) x
  | 0, n, x, h => rfl
  | k + 1, n, x, h => by
    rw [ps, pL]
    by_cases h0 : n = 0
    · rw [if_pos h0, if_pos ((ls_0 h).mpr h0)]
    · have hb := blk_ls h
      have hbl : an n (clk 4 n) < 2 ^ 40 := an_lt h
      have hlen : ((ls n).take 4).length ≤ 4 := by rw [List.length_take]; omega
      have hf : ls (an n (clk 4 n) &&& cnd) = ((ls n).take 4).filter cnd.testBit := by rw [and_ls cnd hbl, hb]
      rw [if_neg h0, if_neg (fun q => h0 ((ls_0 h).mp q)), ps_pL S kq M cnd k _ _ (an_lt h), rest_ls h, scF_ls S hbl (by rw [hb]; exact hlen), hb, lk_ls _ _ _ 4 _ _ (and_lt cnd hbl) (by rw [hf]; exact Nat.le_trans (List.length_filter_le _ _) hlen), hf, List.filter_filter]
      unfold BX
      have e : (fun d => fnd S d kq && cnd.testBit d) = (fun d => cnd.testBit d && fnd S d kq) := by funext d; exact Bool.and_comm _ _
      rw [e]
def gM (S : vs_S) (u kq N : Nat) (d : Nat) : Bool := decide (S.1 50 d = 0) && (fndM S u d kq && mr S d (mTok S u N))
def BM (S : vs_S) (o : Nat → Nat) (u kq N M : Nat) (x : Int32) (l : List Nat) (y : hp × Int32 × Int32) : hp × Int32 × Int32 :=
  if y.1.2.2 < M ∨ 0 < cmpL (scL (fun i => isSM S u (o i)) (fun i => FP.d2f (S.2.2.2.1 58 (o i))) (fun d i => cdM S d (o i)) l kq) (y.1.2.1 (M - 1)) then ((lkL (fun d h => mEnt (nI d) (scM S o u x d 1 kq) M h) (l.filter (gM S u kq N)) (y.1, y.2.2)).1, y.2.1 + 1, (lkL (fun d h => mEnt (nI d) (scM S o u x d 1 kq) M h) (l.filter (gM S u kq N)) (y.1, y.2.2)).2) else y
theorem psM_pL (S : vs_S) (o : Nat → Nat) (u kq N kd M : Nat) (x : Int32) (hc : ∀ q, 0 ≤ S.1 43 q ∧ S.1 43 q ≤ 255) (hw : ∀ i, i < kq → WF (FP.d2f (S.2.2.2.1 58 (o i)))) : ∀ r a y, a ≤ kd → psM S o u kq N kd M x r a y = pL (BM S o u kq N M x) r (el (sP S x) a (kd - a)) y
  | 0, a, y, _ => rfl
  | r + 1, a, y, ha => by
    rw [psM, pL]
    by_cases h0 : anyB (fun i => sP S x (a + i)) (kd - a) = true
    · obtain ⟨c1, c2, c3, c4⟩ := bb_el (sP S x) (kd - a) a 0 (by decide)
      rw [if_pos h0, if_neg (el_ne.mp h0), psM_pL S o u kq N kd M x hc hw r _ _ (by omega)]
      generalize bb (sP S x) (kd - a) a 0 = e at c1 c2 c3 c4
      rw [show 4 - 0 = 4 from rfl] at c3 c4
      rw [show a + (kd - a) - e = kd - e by omega] at c4
      rw [c4]
      unfold BM
      rw [(scM_el S o u x a (e - a) hc kq hw).1, c3, lkM_el]
      have hg : el (gd S u kq N x) a (e - a) = ((el (sP S x) a (kd - a)).take 4).filter (gM S u kq N) := by
        rw [← c3]
        unfold el
        rw [List.filter_filter]
        congr 1
        funext d
        show (sP S x d && gM S u kq N d) = _
        exact Bool.and_comm _ _
      rw [hg]
    · rw [if_neg h0, if_pos (Classical.byContradiction fun q => h0 (el_ne.mpr q))]
