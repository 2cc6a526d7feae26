/- refresh -/
def F4 (S : vs_S) (a b : Nat → Int32) (L : Nat → Int64) (x : Int32) : vs_S := vs_ui (vs_uL (vs_uI (vs_uI S 7 a) 8 b) 9 L) 6 3 x
def G4 (S : vs_S) (a b d : Nat → Int32) (x : Int32) : vs_S := vs_ui (vs_uI (vs_uI (vs_uI S 60 a) 61 b) 62 d) 35 35 x
theorem up_up {α : Type} (f : Nat → α) (k : Nat) (v w : α) : va_up (va_up f k v) k w = va_up f k w := by
  funext p; unfold va_up; by_cases c : p = k
  · rw [if_pos c, if_pos c]
  · rw [if_neg c, if_neg c, if_neg c]
theorem up_sw {α : Type} (f : Nat → α) {k j : Nat} (h : k ≠ j) (v w : α) : va_up (va_up f k v) j w = va_up (va_up f j w) k v := by
  funext p; unfold va_up; by_cases c : p = k
  · rw [if_neg (by omega), if_pos c, if_pos c]
  · rw [if_neg c, if_neg c]
theorem up_id {α : Type} (f : Nat → α) (k : Nat) : va_up f k (f k) = f := by
  funext p; unfold va_up; by_cases c : p = k
  · rw [if_pos c, c]
  · rw [if_neg c]
theorem F4_self (S : vs_S) : F4 S (S.1 7) (S.1 8) (S.2.1 9) (S.2.2.2.2.1 6 3) = S := by
  unfold F4 vs_ui vs_uL vs_uI
  simp only [up_id]
theorem G4_self (S : vs_S) : G4 S (S.1 60) (S.1 61) (S.1 62) (S.2.2.2.2.1 35 35) = S := by
  unfold G4 vs_ui vs_uI
  simp only [up_id]
theorem fDrop_F4 (S : vs_S) (a b : Nat → Int32) (L : Nat → Int64) (x : Int32) (j k : Nat) : fDrop (F4 S a b L x) j k = F4 S (sh a j (k - 1)) (sh b j (k - 1)) (sh L j (k - 1)) (x - 1) := by
  have r7 : (F4 S a b L x).1 7 = a := rfl
  have r8 : (F4 S a b L x).1 8 = b := rfl
  have r9 : (F4 S a b L x).2.1 9 = L := rfl
  have r6 : (F4 S a b L x).2.2.2.2.1 6 3 = x := rfl
  unfold fDrop fSh
  rw [r7, r8, r9, r6]
  unfold F4 vs_ui vs_uL vs_uI
  dsimp only
  rw [up_sw (va_up S.1 7 a) (k := 8) (j := 7) (by decide), up_up, up_up, up_up, up_up]
  have e1 : va_up S.2.2.2.2.1 6 (va_up (S.2.2.2.2.1 6) 3 x) 6 = va_up (S.2.2.2.2.1 6) 3 x := rfl
  rw [e1, up_up]
theorem mfD_G4 (S : vs_S) (a b d : Nat → Int32) (x : Int32) (j k : Nat) : mfD (G4 S a b d x) j k = G4 S (sh a j (k - 1)) (sh b j (k - 1)) (sh d j (k - 1)) (nI (k - 1)) := by
  unfold mfD mfSh
  have r0 : (vs_ui (G4 S a b d x) 35 35 (nI (k - 1))).1 60 = a := rfl
  have r1 : (vs_ui (G4 S a b d x) 35 35 (nI (k - 1))).1 61 = b := rfl
  have r2 : (vs_ui (G4 S a b d x) 35 35 (nI (k - 1))).1 62 = d := rfl
  rw [r0, r1, r2]
  unfold G4 vs_ui vs_uI
  dsimp only
  have e1 : va_up S.2.2.2.2.1 35 (va_up (S.2.2.2.2.1 35) 35 x) 35 = va_up (S.2.2.2.2.1 35) 35 x := rfl
  rw [e1, up_up, up_up, up_sw (va_up (va_up S.1 60 a) 61 b) (k := 62) (j := 60) (by decide), up_sw (va_up S.1 60 a) (k := 61) (j := 60) (by decide), up_up, up_sw (va_up (va_up S.1 60 (sh a j (k - 1))) 61 b) (k := 62) (j := 61) (by decide), up_up, up_up]
/- dropping from the end to the start is a filter -/
theorem take_drop_cut {α : Type} (A B : List α) (x : α) (i : Nat) (hi : A.length = i) (P : α → Bool) : (((A ++ x :: B).take (i + 1)).filter P ++ (A ++ x :: B).drop (i + 1)) = if P x = true then A.filter P ++ (x :: B) else A.filter P ++ B := by
  have e1 : (A ++ x :: B).take (i + 1) = A ++ [x] := by
    rw [← hi, List.take_append, List.take_of_length_le (by omega)]; simp
  have e2 : (A ++ x :: B).drop (i + 1) = B := by
    rw [← hi, List.drop_append, List.drop_of_length_le (by omega)]; simp
  rw [e1, e2, List.filter_append]
  by_cases c : P x = true
  · simp [c]
  · simp [c]
theorem fAll_F4 (n : Nat) (S : vs_S) : ∀ i k (a b : Nat → Int32) (L : Nat → Int64), i ≤ k → k ≤ 5 → ∃ a' b' L' k', fAll n i (F4 S a b L (nI k)) = F4 S a' b' L' (nI k') ∧ Lr (fun j => (a' j, b' j, L' j)) k' = ((Lr (fun j => (a j, b j, L j)) k).take i).filter (fun r => has_i (S.1 33) r.1 n) ++ (Lr (fun j => (a j, b j, L j)) k).drop i
  | 0, k, a, b, L, _, _ => ⟨a, b, L, k, rfl, by simp⟩
  | i + 1, k, a, b, L, hi, hk => by
    obtain ⟨m, hm⟩ : ∃ m, k = m + 1 := ⟨k - 1, by omega⟩
    subst hm
    obtain ⟨A, B, c1, c2, _, c4⟩ := Lr_cut (fun j => (a j, b j, L j)) (j := i) (k := m) (by omega)
    have hA : A.length = i := by rw [c4, Lr_len]
    have t1 : (A ++ (a i, b i, L i) :: B).take i = A := by rw [← hA]; simp
    have t2 : (A ++ (a i, b i, L i) :: B).drop i = (a i, b i, L i) :: B := by rw [← hA]; simp
    have t3 : (A ++ B).take i = A := by rw [← hA]; simp
    have t4 : (A ++ B).drop i = B := by rw [← hA]; simp
    rw [c1, take_drop_cut A B (a i, b i, L i) i hA]
    rw [fAll]
    have r33 : (F4 S a b L (nI (m + 1))).1 33 = S.1 33 := rfl
    have r7 : (F4 S a b L (nI (m + 1))).1 7 i = a i := rfl
    have r6 : (F4 S a b L (nI (m + 1))).2.2.2.2.1 6 3 = nI (m + 1) := rfl
    rw [r33, r7, r6, nI_clamp (by omega)]
    by_cases c : has_i (S.1 33) (a i) n = true
    · obtain ⟨a', b', L', k', h1, h2⟩ := fAll_F4 n S i (m + 1) a b L (by omega) hk
      rw [if_pos c, if_pos (show has_i (S.1 33) (a i, b i, L i).1 n = true from c)]
      refine ⟨a', b', L', k', h1, ?_⟩
      rw [h2, c1, t1, t2]
    · rw [if_neg c, if_neg (show ¬ has_i (S.1 33) (a i, b i, L i).1 n = true from c), fDrop_F4, nI_pred, Nat.add_sub_cancel]
      obtain ⟨a', b', L', k', h1, h2⟩ := fAll_F4 n S i m (sh a i m) (sh b i m) (sh L i m) (by omega) (by omega)
      refine ⟨a', b', L', k', h1, ?_⟩
      have e : (fun j => (sh a i m j, sh b i m j, sh L i m j)) = sh (fun j => (a j, b j, L j)) i m := by
        funext q; unfold sh; split <;> rfl
      rw [h2, e, c2, t3, t4]
theorem fAllM_G4 (o : Int32) (n : Nat) (S : vs_S) : ∀ i k (a b d : Nat → Int32), i ≤ k → k ≤ 5 → ∃ a' b' d' k', fAllM o n i (G4 S a b d (nI k)) = G4 S a' b' d' (nI k') ∧ Lr (fun j => (a' j, b' j, d' j)) k' = ((Lr (fun j => (a j, b j, d j)) k).take i).filter (fun r => decide (o = 0) && has_i (S.1 52) r.1 n) ++ (Lr (fun j => (a j, b j, d j)) k).drop i
  | 0, k, a, b, d, _, _ => ⟨a, b, d, k, rfl, by simp⟩
  | i + 1, k, a, b, d, hi, hk => by
    obtain ⟨m, hm⟩ : ∃ m, k = m + 1 := ⟨k - 1, by omega⟩
    subst hm
    obtain ⟨A, B, c1, c2, _, c4⟩ := Lr_cut (fun j => (a j, b j, d j)) (j := i) (k := m) (by omega)
    have hA : A.length = i := by rw [c4, Lr_len]
    have t1 : (A ++ (a i, b i, d i) :: B).take i = A := by rw [← hA]; simp
    have t2 : (A ++ (a i, b i, d i) :: B).drop i = (a i, b i, d i) :: B := by rw [← hA]; simp
    have t3 : (A ++ B).take i = A := by rw [← hA]; simp
    have t4 : (A ++ B).drop i = B := by rw [← hA]; simp
    rw [c1, take_drop_cut A B (a i, b i, d i) i hA]
    rw [fAllM]
    have r52 : (G4 S a b d (nI (m + 1))).1 52 = S.1 52 := rfl
    have r60 : (G4 S a b d (nI (m + 1))).1 60 i = a i := rfl
    have r35 : (G4 S a b d (nI (m + 1))).2.2.2.2.1 35 35 = nI (m + 1) := rfl
    rw [r52, r60, r35, nI_clamp (by omega)]
    by_cases c : (decide (o = 0) && has_i (S.1 52) (a i) n) = true
    · obtain ⟨a', b', d', k', h1, h2⟩ := fAllM_G4 o n S i (m + 1) a b d (by omega) hk
      have c' := c
      rw [Bool.and_eq_true, decide_eq_true_eq] at c'
      rw [if_neg (by rintro (q | q); exact q c'.1; exact q c'.2), if_pos (show (decide (o = 0) && has_i (S.1 52) (a i, b i, d i).1 n) = true from c)]
      refine ⟨a', b', d', k', h1, ?_⟩
      rw [h2, c1, t1, t2]
    · have c' : ¬ o = 0 ∨ ¬ has_i (S.1 52) (a i) n = true := by
        by_cases z : o = 0
        · right; intro w; exact c (by rw [decide_eq_true z, w]; rfl)
        · exact .inl z
      rw [if_pos c', if_neg (show ¬ (decide (o = 0) && has_i (S.1 52) (a i, b i, d i).1 n) = true from c), mfD_G4, Nat.add_sub_cancel]
      obtain ⟨a', b', d', k', h1, h2⟩ := fAllM_G4 o n S i m (sh a i m) (sh b i m) (sh d i m) (by omega) (by omega)
      refine ⟨a', b', d', k', h1, ?_⟩
      have e : (fun j => (sh a i m j, sh b i m j, sh d i m j)) = sh (fun j => (a j, b j, d j)) i m := by
        funext q; unfold sh; split <;> rfl
      rw [h2, e, c2, t3, t4]
theorem sw_congr {g h : Nat → Int32} (e : ∀ i, i < 16 → g i = h i) (b a : Int32) : ∀ i, i ≤ 16 → sw g b i a = sw h b i a
  | 0, _ => rfl
  | i + 1, hi => by rw [sw, sw, sw_congr e b a i (by omega), e i (by omega)]
theorem tkm_congr {g h : Nat → Int32} (e : ∀ i, i < 16 → g i = h i) (t : Int32) : ∀ r, tkm g t r = tkm h t r
  | 0 => rfl
  | r + 1 => by rw [tkm, tkm, tkm_congr e t r, sw_congr e _ _ 16 (by omega)]
/- the kept filters -/
theorem FR_keep {σ : Nat → Nat} {rb : Nat → Nat → Nat} {km c kf : Nat} {S : vs_S} (H : FR σ rb km c (fX S kf) (fM S kf)) {kX kM : Int32 → Bool} (hk : ∀ a, a < km → kX (nI a) = kM (nI (σ a))) {a b : Nat → Int32} {L : Nat → Int64} {k1 : Nat} (h1 : Lr (fun j => (a j, b j, L j)) k1 = (Lr (FX (fX S kf)) kf).filter (fun r => kX r.1)) {a2 b2 d2 : Nat → Int32} {k2 : Nat} (h2 : Lr (fun j => (a2 j, b2 j, d2 j)) k2 = (Lr (FM (fM S kf)) kf).filter (fun r => kM r.1)) :
    k1 = k2 ∧ FR σ rb km c (a, b, L, k1, S.2.2.2.2.1 6 4, S.2.2.2.2.1 6 5) (a2, b2, d2, k1, S.2.2.2.2.1 35 36, S.2.2.2.2.1 35 37, S.2.2.2.2.1 35 38) := by
  obtain ⟨e1, e2, e3, e4, e5, Z, z1, z2, z3, z4, z5⟩ := H
  have z1' : Lr (FX (fX S kf)) kf = Z.map (fx rb) := z1
  have z2' : (Lr (FM (fM S kf)) kf).Perm (Z.map (fmz σ)) := z2
  have hz : Z.filter ((fun r : Int32 × Int32 × Int32 => kM r.1) ∘ fmz σ) = Z.filter ((fun r : Int32 × Int32 × Int64 => kX r.1) ∘ fx rb) := by
    apply List.filter_congr
    intro z hz
    exact (hk z.1 (z5 z hz).1).symm
  have p1 : Lr (fun j => (a j, b j, L j)) k1 = (Z.filter ((fun r : Int32 × Int32 × Int64 => kX r.1) ∘ fx rb)).map (fx rb) := by rw [h1, z1', List.filter_map]
  have p2 : (Lr (fun j => (a2 j, b2 j, d2 j)) k2).Perm ((Z.filter ((fun r : Int32 × Int32 × Int64 => kX r.1) ∘ fx rb)).map (fmz σ)) := by
    rw [h2, ← hz, ← List.filter_map]
    exact List.Perm.filter _ z2'
  have l1 : k1 = (Z.filter ((fun r : Int32 × Int32 × Int64 => kX r.1) ∘ fx rb)).length := by
    have := congrArg List.length p1; rw [Lr_len, List.length_map] at this; exact this
  have l2 : k2 = (Z.filter ((fun r : Int32 × Int32 × Int64 => kX r.1) ∘ fx rb)).length := by
    have := p2.length_eq; rw [Lr_len, List.length_map] at this; exact this
  have hsub : (Z.filter ((fun r : Int32 × Int32 × Int64 => kX r.1) ∘ fx rb)).Sublist Z := List.filter_sublist
  have e12 : k1 = k2 := by omega
  have hlz : Z.length = kf := by
    have := congrArg List.length z1'; rw [Lr_len, List.length_map] at this; exact this.symm
  have e2' : kf ≤ 5 := e2
  refine ⟨e12, rfl, ?_, e3, e4, e5, _, p1, ?_, List.Pairwise.sublist hsub z3, List.Pairwise.sublist hsub z4, fun z hz => z5 z (hsub.mem hz)⟩
  · show k1 ≤ 5
    rw [l1]
    have := hsub.length_le
    omega
  · show (Lr (FM (a2, b2, d2, k1, S.2.2.2.2.1 35 36, S.2.2.2.2.1 35 37, S.2.2.2.2.1 35 38)) k1).Perm _
    rw [e12]; exact p2
theorem FR_none {σ : Nat → Nat} {rb rb' : Nat → Nat → Nat} {km c kf : Nat} {S : vs_S} (H : FR σ rb km c (fX S kf) (fM S kf)) (a b : Nat → Int32) (L : Nat → Int64) (a2 b2 d2 : Nat → Int32) : FR σ rb' km c (a, b, L, 0, S.2.2.2.2.1 6 4, S.2.2.2.2.1 6 5) (a2, b2, d2, 0, S.2.2.2.2.1 35 36, S.2.2.2.2.1 35 37, S.2.2.2.2.1 35 38) := by
  obtain ⟨e1, e2, e3, e4, e5, _⟩ := H
  exact ⟨rfl, Nat.zero_le _, e3, e4, e5, [], rfl, List.Perm.refl _, List.Pairwise.nil, List.Pairwise.nil, fun z hz => by simp at hz⟩
