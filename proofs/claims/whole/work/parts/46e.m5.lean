/- hits -/
def insq (p : Nat → Bool) : Nat → Nat
  | 0 => 0
  | i + 1 => if p i = true then insq p i else i + 1
theorem insq_le (p : Nat → Bool) : ∀ i, insq p i ≤ i
  | 0 => Nat.le_refl _
  | i + 1 => by
    rw [insq]
    split
    · have := insq_le p i; omega
    · omega
theorem insq_ext {p q : Nat → Bool} : ∀ i, (∀ j, j < i → p j = q j) → insq p i = insq q i
  | 0, _ => rfl
  | i + 1, h => by rw [insq, insq, h i (by omega), insq_ext i (fun j hj => h j (by omega))]
def shR {α : Type} (f : Nat → α) (q i : Nat) : Nat → α := fun j => if q < j ∧ j ≤ i then f (j - 1) else f j
theorem shR_id {α : Type} (f : Nat → α) (i : Nat) : shR f i i = f := by
  funext j
  unfold shR
  rw [if_neg (by omega)]
theorem shR_s {α : Type} (f g : Nat → α) {q i : Nat} (hq : q ≤ i) (hg : g = fun j => if j = i + 1 then f i else f j) : shR g q i = shR f q (i + 1) := by
  funext j
  subst hg
  unfold shR
  dsimp only
  by_cases h1 : q < j ∧ j ≤ i
  · rw [if_pos h1, if_neg (show ¬ j - 1 = i + 1 by omega), if_pos (show q < j ∧ j ≤ i + 1 by omega)]
  · rw [if_neg h1]
    by_cases h2 : j = i + 1
    · rw [if_pos h2, if_pos (by omega), h2]; rfl
    · rw [if_neg h2, if_neg (by omega)]
def pX (s : Nat → UInt32) (v : UInt32) (j : Nat) : Bool := decide (cmpG (s j) v < 0)
theorem hpI_is (v : UInt32) : ∀ i a s, hpI v i a s = (insq (pX s v) i, shR a (insq (pX s v) i) i, shR s (insq (pX s v) i) i)
  | 0, a, s => by rw [hpI, insq, shR_id, shR_id]
  | i + 1, a, s => by
    rw [hpI, insq]
    by_cases h : cmpG (s i) v < 0
    · rw [if_neg (by rw [cmpG_ge]; exact fun q => q h), if_pos (show pX s v i = true from decide_eq_true h), hpI_is v i]
      have e : insq (pX (vf_upd s (i + 1) (s i)) v) i = insq (pX s v) i := insq_ext i (fun j hj => by unfold pX vf_upd; rw [if_neg (by omega)])
      rw [e, shR_s a (upd a (i + 1) (a i)) (insq_le _ _) rfl, shR_s s (vf_upd s (i + 1) (s i)) (insq_le _ _) rfl]
    · rw [if_pos (cmpG_ge.mpr h), if_neg (show ¬ pX s v i = true by unfold pX; rw [decide_eq_false h]; decide), shR_id, shR_id]
theorem meI_is (d : Int32) (v : UInt32) : ∀ i a s, (∀ j, j < i → a j ≤ d) → meI d v i a s = (insq (pX s v) i, shR a (insq (pX s v) i) i, shR s (insq (pX s v) i) i)
  | 0, a, s, _ => by rw [meI, insq, shR_id, shR_id]
  | i + 1, a, s, ha => by
    rw [meI, insq]
    by_cases h : cmpG (s i) v < 0
    · rw [if_pos (.inl h), if_pos (show pX s v i = true from decide_eq_true h), meI_is d v i _ _ (fun j hj => by unfold upd; rw [if_neg (by omega)]; exact ha j (by omega))]
      have e : insq (pX (vf_upd s (i + 1) (s i)) v) i = insq (pX s v) i := insq_ext i (fun j hj => by unfold pX vf_upd; rw [if_neg (by omega)])
      rw [e, shR_s a (upd a (i + 1) (a i)) (insq_le _ _) rfl, shR_s s (vf_upd s (i + 1) (s i)) (insq_le _ _) rfl]
    · rw [if_neg (by rintro (q | ⟨_, q⟩); exact h q; exact q (ha i (by omega))), if_neg (show ¬ pX s v i = true by unfold pX; rw [decide_eq_false h]; decide), shR_id, shR_id]
def hr (h h' : hp) : Prop := h.2.2 = h'.2.2 ∧ ∀ j, j < h.2.2 → h.1 j = h'.1 j ∧ h.2.1 j = h'.2.1 j
def HI (h : hp) (b M : Nat) : Prop := h.2.2 ≤ M ∧ ∀ j, j < h.2.2 → (∃ e, e < b ∧ h.1 j = nI e) ∧ vf_n32 (h.2.1 j)
theorem HI_mono {h : hp} {b b' M : Nat} (H : HI h b M) (hb : b ≤ b') : HI h b' M := ⟨H.1, fun j hj => by
  obtain ⟨⟨e, e1, e2⟩, e3⟩ := H.2 j hj
  exact ⟨⟨e, by omega, e2⟩, e3⟩⟩
theorem take_ent {h h' : hp} {d M : Nat} {v : UInt32} (hM : 1 ≤ M) (hd : d < 40) (hv : vf_n32 v) (H : HI h d M) (R : hr h h') : hr (hpTake (nI d) v M h) (mEnt (nI d) v M h') ∧ HI (hpTake (nI d) v M h) (d + 1) M := by
  obtain ⟨a, s, k⟩ := h
  obtain ⟨a', s', k'⟩ := h'
  obtain ⟨R1, R2⟩ := R
  simp only at R1 R2
  subst R1
  obtain ⟨H1, H2⟩ := H
  simp only at H1 H2
  have hm : meI (nI d) v k a' s' = (insq (pX s v) k, shR a' (insq (pX s v) k) k, shR s' (insq (pX s v) k) k) := by
    rw [meI_is (nI d) v k a' s' (fun j hj => by
      obtain ⟨⟨e, e1, e2⟩, _⟩ := H2 j hj
      rw [← (R2 j hj).1, e2]; exact nI_le (by omega) (by omega))]
    have e : insq (pX s' v) k = insq (pX s v) k := insq_ext k (fun j hj => by unfold pX; rw [(R2 j hj).2])
    rw [e]
  have gen : ∀ i q, q ≤ i → i < M → (k < M → i = k) → (¬ k < M → i + 1 = k) → insq (pX s v) k = q →
      hr (upd (shR a q i) q (nI d), vf_upd (shR s q i) q v, if k < M then k + 1 else M) (mEnt (nI d) v M (a', s', k)) ∧ HI (upd (shR a q i) q (nI d), vf_upd (shR s q i) q v, if k < M then k + 1 else M) (d + 1) M := by
    intro i q hq hi c1 c2 eq
    have szb : (if k < M then k + 1 else M) = i + 1 := by
      by_cases c : k < M
      · rw [if_pos c, c1 c]
      · rw [if_neg c]; have := c2 c; omega
    constructor
    · unfold mEnt
      simp only [hm, eq]
      refine ⟨?_, ?_⟩
      · show (if k < M then k + 1 else M) = if k < M then k + 1 else k
        by_cases c : k < M
        · rw [if_pos c, if_pos c]
        · rw [if_neg c, if_neg c]; omega
      · intro j hj
        simp only [szb] at hj
        simp only
        unfold upd vf_upd
        by_cases e : j = q
        · rw [if_pos e, if_pos e, if_pos e, if_pos e]; exact ⟨rfl, rfl⟩
        · rw [if_neg e, if_neg e, if_neg e, if_neg e]
          unfold shR
          have hik : i ≤ k := by by_cases c : k < M; have := c1 c; omega; have := c2 c; omega
          by_cases c : q < j
          · rw [if_pos ⟨c, by omega⟩, if_pos ⟨c, by omega⟩, if_pos ⟨c, by omega⟩, if_pos ⟨c, by omega⟩]
            exact R2 (j - 1) (by omega)
          · rw [if_neg (by omega), if_neg (by omega), if_neg (by omega), if_neg (by omega)]
            exact R2 j (by omega)
    · refine ⟨by simp only [szb]; omega, ?_⟩
      intro j hj
      simp only [szb] at hj
      simp only
      unfold upd vf_upd
      by_cases e : j = q
      · rw [if_pos e, if_pos e]; exact ⟨⟨d, by omega, rfl⟩, hv⟩
      · rw [if_neg e, if_neg e]
        unfold shR
        have hik : i ≤ k := by by_cases c : k < M; have := c1 c; omega; have := c2 c; omega
        by_cases c : q < j
        · rw [if_pos ⟨c, by omega⟩, if_pos ⟨c, by omega⟩]
          obtain ⟨⟨e, e1, e2⟩, e3⟩ := H2 (j - 1) (by omega)
          exact ⟨⟨e, by omega, e2⟩, e3⟩
        · rw [if_neg (by omega), if_neg (by omega)]
          obtain ⟨⟨e, e1, e2⟩, e3⟩ := H2 j (by omega)
          exact ⟨⟨e, by omega, e2⟩, e3⟩
  unfold hpTake
  simp only
  by_cases hk : k < M
  · rw [if_neg (by omega), if_pos hk, hpI_is]
    have := gen k (insq (pX s v) k) (insq_le _ _) hk (fun _ => rfl) (fun c => absurd hk c) rfl
    rw [if_pos hk] at this
    rw [if_pos hk]
    exact this
  · have ek : k = M := by omega
    have hl : lastp (a, s, k) = s (M - 1) := by unfold lastp; rw [if_neg (by show ¬ k = 0; omega), ek]
    have hn := (H2 (M - 1) (by omega)).2
    by_cases hc : cmpG (s (M - 1)) v < 0
    · rw [if_neg (by rintro ⟨_, q⟩; apply q; rw [hl]; exact (cmpG_gt hn hv).mpr hc), if_neg hk, hpI_is]
      have e : insq (pX s v) k = insq (pX s v) (M - 1) := by
        rw [show k = (M - 1) + 1 by omega, insq, if_pos (show pX s v (M - 1) = true from decide_eq_true hc)]
      have := gen (M - 1) (insq (pX s v) (M - 1)) (insq_le _ _) (by omega) (fun c => absurd c hk) (fun _ => by omega) e
      rw [if_neg hk] at this
      rw [if_neg hk]
      exact this
    · rw [if_pos ⟨ek, by rw [hl]; exact fun q => hc ((cmpG_gt hn hv).mp q)⟩]
      have e : insq (pX s v) k = k := by
        rw [show k = (M - 1) + 1 by omega, insq, if_neg (show ¬ pX s v (M - 1) = true by unfold pX; rw [decide_eq_false hc]; decide)]
      refine ⟨?_, HI_mono (b := d) ⟨H1, H2⟩ (by omega)⟩
      unfold mEnt
      simp only [hm, e]
      refine ⟨?_, ?_⟩
      · show k = if k < M then k + 1 else k
        rw [if_neg hk]
      · intro j hj
        simp only at hj ⊢
        rw [shR_id, shR_id]
        unfold upd vf_upd
        rw [if_neg (by omega), if_neg (by omega)]
        exact R2 j hj
/- a list of documents, rising, above all hits -/
theorem lkL_eq {M : Nat} (hM : 1 ≤ M) (g g' : Nat → UInt32) : ∀ (l : List Nat) (b : Nat) (h h' : hp) (c : Int32), l.Pairwise (· < ·) → (∀ d, d ∈ l → b ≤ d ∧ d < 40 ∧ g d = g' d ∧ vf_n32 (g d)) → HI h b M → hr h h' →
    ∃ b', (∀ d, d ∈ l → d < b') ∧ b ≤ b' ∧ (b' = b ∨ (b' - 1) ∈ l) ∧ (lkL (fun d h => hpTake (nI d) (g d) M h) l (h, c)).2 = (lkL (fun d h => mEnt (nI d) (g' d) M h) l (h', c)).2 ∧ hr (lkL (fun d h => hpTake (nI d) (g d) M h) l (h, c)).1 (lkL (fun d h => mEnt (nI d) (g' d) M h) l (h', c)).1 ∧ HI (lkL (fun d h => hpTake (nI d) (g d) M h) l (h, c)).1 b' M
  | [], b, h, h', c, _, _, H, R => ⟨b, fun d hd => by simp at hd, Nat.le_refl _, .inl rfl, rfl, R, H⟩
  | d :: l, b, h, h', c, hp, hl, H, R => by
    obtain ⟨p1, p2⟩ := List.pairwise_cons.mp hp
    obtain ⟨q1, q2, q3, q4⟩ := hl d List.mem_cons_self
    obtain ⟨r1, r2⟩ := take_ent hM q2 q4 (HI_mono H q1) R
    obtain ⟨b', x1, x2, x3, x4, x5, x6⟩ := lkL_eq hM g g' l (d + 1) _ _ (c + 1) p2 (fun e he => ⟨by have := p1 e he; omega, (hl e (List.mem_cons_of_mem _ he)).2⟩) r2 r1
    rw [show mEnt (nI d) (g d) M h' = mEnt (nI d) (g' d) M h' by rw [q3]] at x4 x5
    refine ⟨b', ?_, by omega, ?_, x4, x5, x6⟩
    · intro e he
      rcases List.mem_cons.mp he with rfl | he
      · omega
      · exact x1 e he
    · right
      rcases x3 with x3 | x3
      · rw [x3]; simp
      · exact List.mem_cons_of_mem _ x3
