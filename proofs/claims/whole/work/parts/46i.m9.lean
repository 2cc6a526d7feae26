/- the query's order -/
theorem oIN_is (tm fl : Nat → Int32) (t f : Int32) : ∀ i o, oIN tm fl t f i o = (insq (fun j => later tm fl (o j) t f) i, shR o (insq (fun j => later tm fl (o j) t f) i) i)
  | 0, o => by rw [oIN, insq, shR_id]
  | i + 1, o => by
    rw [oIN, insq]
    by_cases h : later tm fl (o i) t f = true
    · rw [if_pos h, if_pos h, oIN_is tm fl t f i]
      have e : insq (fun j => later tm fl (updN o (i + 1) (o i) j) t f) i = insq (fun j => later tm fl (o j) t f) i := insq_ext i (fun j hj => by unfold updN; rw [if_neg (by omega)])
      rw [e, shR_s o (updN o (i + 1) (o i)) (insq_le _ _) rfl]
    · rw [if_neg h, if_neg h, shR_id]
def aq (tm fl : Nat → Int32) (k : Nat) (o : Nat → Nat) : Nat := insq (fun j => later tm fl (o j) (tm k) (fl k)) k
theorem arrN_s (tm fl : Nat → Int32) (k : Nat) (o : Nat → Nat) (i : Nat) : arrN tm fl (k + 1) o i = if i = aq tm fl k (arrN tm fl k o) then k else shR (arrN tm fl k o) (aq tm fl k (arrN tm fl k o)) k i := by
  rw [arrN, oIN_is]; rfl
theorem aq_le (tm fl : Nat → Int32) (k : Nat) (o : Nat → Nat) : aq tm fl k o ≤ k := insq_le _ _
theorem arrN_all (tm fl tm' fl' : Nat → Int32) (o o' : Nat → Nat) : ∀ k, (∀ i, i < k → tm i = tm' i ∧ fl i = fl' i) → (∀ i, i < k → arrN tm fl k o i = arrN tm' fl' k o' i) ∧ (∀ i, i < k → arrN tm fl k o i < k) ∧ ∀ q, q < k → ∃ i, i < k ∧ arrN tm fl k o i = q
  | 0, _ => ⟨fun i h => by omega, fun i h => by omega, fun q h => by omega⟩
  | k + 1, h => by
    obtain ⟨h1, h2, h3⟩ := arrN_all tm fl tm' fl' o o' k (fun i hi => h i (by omega))
    have ea : aq tm fl k (arrN tm fl k o) = aq tm' fl' k (arrN tm' fl' k o') := by
      unfold aq
      apply insq_ext
      intro j hj
      have hb := h2 j hj
      unfold later
      rw [← h1 j hj, (h _ (by omega : arrN tm fl k o j < k + 1)).1, (h _ (by omega : arrN tm fl k o j < k + 1)).2, (h k (by omega)).1, (h k (by omega)).2]
    have hle := aq_le tm fl k (arrN tm fl k o)
    refine ⟨?_, ?_, ?_⟩
    · intro i hi
      rw [arrN_s, arrN_s, ← ea]
      by_cases c : i = aq tm fl k (arrN tm fl k o)
      · rw [if_pos c, if_pos c]
      · rw [if_neg c, if_neg c]
        unfold shR
        by_cases c2 : aq tm fl k (arrN tm fl k o) < i ∧ i ≤ k
        · rw [if_pos c2, if_pos c2]; exact h1 _ (by omega)
        · rw [if_neg c2, if_neg c2]; exact h1 _ (by omega)
    · intro i hi
      rw [arrN_s]
      by_cases c : i = aq tm fl k (arrN tm fl k o)
      · rw [if_pos c]; omega
      · rw [if_neg c]
        unfold shR
        by_cases c2 : aq tm fl k (arrN tm fl k o) < i ∧ i ≤ k
        · rw [if_pos c2]; have := h2 (i - 1) (by omega); omega
        · rw [if_neg c2]; have := h2 i (by omega); omega
    · intro q hq
      by_cases e : q = k
      · exact ⟨aq tm fl k (arrN tm fl k o), by omega, by rw [arrN_s, if_pos rfl, e]⟩
      · obtain ⟨i, i1, i2⟩ := h3 q (by omega)
        by_cases c : i < aq tm fl k (arrN tm fl k o)
        · refine ⟨i, by omega, ?_⟩
          rw [arrN_s, if_neg (by omega)]
          unfold shR
          rw [if_neg (by omega), i2]
        · refine ⟨i + 1, by omega, ?_⟩
          rw [arrN_s, if_neg (by omega)]
          unfold shR
          rw [if_pos (by omega), show i + 1 - 1 = i from rfl, i2]
theorem u_ne {f : Nat → Int32} {k j : Nat} {x : Int32} (h : j ≠ k) : upd f k x j = f j := if_neg h
theorem u_eq {f : Nat → Int32} {k : Nat} {x : Int32} : upd f k x k = x := if_pos rfl
theorem v_ne {α : Type} {f : Nat → α} {k j : Nat} {x : α} (h : j ≠ k) : vf_upd f k x j = f j := if_neg h
theorem v_eq {α : Type} {f : Nat → α} {k : Nat} {x : α} : vf_upd f k x k = x := if_pos rfl
def zo : Nat → Nat := fun _ => 0
/- the class's own insertion -/
theorem qI_is (t f : Int32) : ∀ i (S : vs_S), (qI t f i S).1 = insq (fun j => later (S.1 12) (S.1 13) j t f) i ∧ (qI t f i S).2.1 11 = shR (S.1 11) (insq (fun j => later (S.1 12) (S.1 13) j t f) i) i ∧ (qI t f i S).2.1 12 = shR (S.1 12) (insq (fun j => later (S.1 12) (S.1 13) j t f) i) i ∧ (qI t f i S).2.1 13 = shR (S.1 13) (insq (fun j => later (S.1 12) (S.1 13) j t f) i) i ∧ (qI t f i S).2.2.2.1 14 = shR (S.2.2.1 14) (insq (fun j => later (S.1 12) (S.1 13) j t f) i) i ∧ (∀ p, p ≠ 11 → p ≠ 12 → p ≠ 13 → (qI t f i S).2.1 p = S.1 p) ∧ (∀ p, p ≠ 14 → (qI t f i S).2.2.2.1 p = S.2.2.1 p) ∧ (qI t f i S).2.2.1 = S.2.1 ∧ (qI t f i S).2.2.2.2 = S.2.2.2
  | 0, S => ⟨rfl, by rw [insq, shR_id]; rfl, by rw [insq, shR_id]; rfl, by rw [insq, shR_id]; rfl, by rw [insq, shR_id]; rfl, fun _ _ _ _ => rfl, fun _ _ => rfl, rfl, rfl⟩
  | i + 1, S => by
    rw [qI, insq]
    by_cases h : later (S.1 12) (S.1 13) i t f = true
    · rw [if_pos h, if_pos h]
      obtain ⟨a1, a2, a3, a4, a5, a6, a7, a8, a9⟩ := qI_is t f i (qMv S i (i + 1))
      have r11 : (qMv S i (i + 1)).1 11 = upd (S.1 11) (i + 1) (S.1 11 i) := rfl
      have r12 : (qMv S i (i + 1)).1 12 = upd (S.1 12) (i + 1) (S.1 12 i) := rfl
      have r13 : (qMv S i (i + 1)).1 13 = upd (S.1 13) (i + 1) (S.1 13 i) := rfl
      have r14 : (qMv S i (i + 1)).2.2.1 14 = vf_upd (S.2.2.1 14) (i + 1) (S.2.2.1 14 i) := rfl
      have e : insq (fun j => later ((qMv S i (i + 1)).1 12) ((qMv S i (i + 1)).1 13) j t f) i = insq (fun j => later (S.1 12) (S.1 13) j t f) i := insq_ext i (fun j hj => by
        rw [r12, r13]; unfold later upd; rw [if_neg (by omega), if_neg (by omega)])
      rw [e] at a1 a2 a3 a4 a5
      rw [r11] at a2
      rw [r12] at a3
      rw [r13] at a4
      rw [r14] at a5
      refine ⟨a1, ?_, ?_, ?_, ?_, ?_, ?_, a8.trans rfl, a9.trans rfl⟩
      · rw [a2, shR_s (S.1 11) (upd (S.1 11) (i + 1) (S.1 11 i)) (insq_le _ _) rfl]
      · rw [a3, shR_s (S.1 12) (upd (S.1 12) (i + 1) (S.1 12 i)) (insq_le _ _) rfl]
      · rw [a4, shR_s (S.1 13) (upd (S.1 13) (i + 1) (S.1 13 i)) (insq_le _ _) rfl]
      · rw [a5, shR_s (S.2.2.1 14) (vf_upd (S.2.2.1 14) (i + 1) (S.2.2.1 14 i)) (insq_le _ _) rfl]
      · intro p h1 h2 h3
        rw [a6 p h1 h2 h3]
        show va_up (va_up (va_up S.1 11 _) 12 _) 13 _ p = _
        unfold va_up
        rw [if_neg h3, if_neg h2, if_neg h1]
      · intro p h1
        rw [a7 p h1]
        show va_up S.2.2.1 14 _ p = _
        unfold va_up
        rw [if_neg h1]
    · rw [if_neg h, if_neg h]
      exact ⟨rfl, by rw [shR_id], by rw [shR_id], by rw [shR_id], by rw [shR_id], fun _ _ _ _ => rfl, fun _ _ => rfl, rfl, rfl⟩
def iQ (k : Nat) (s t f : Nat → Int32) (w : Nat → UInt32) (s' t' f' : Nat → Int32) (w' : Nat → UInt64) : Prop :=
  k ≤ 6 ∧ (∀ i, i < k → s i = s' (arrN t' f' k zo i) ∧ t i = t' (arrN t' f' k zo i) ∧ f i = f' (arrN t' f' k zo i) ∧ w i = FP.d2f (w' (arrN t' f' k zo i))) ∧
  ∀ i, i < k → (∃ x, x < 3 ∧ s' i = nI x) ∧ (∃ x, x < 8 ∧ t' i = nI x) ∧ (∃ x, x < 3 ∧ f' i = nI x) ∧ isWX (w' i) = true
theorem iQ_add {k : Nat} {s t f : Nat → Int32} {w : Nat → UInt32} {s' t' f' : Nat → Int32} {w' : Nat → UInt64} (H : iQ k s t f w s' t' f' w') (hk : k < 6) {a b c : Nat} (ha : a < 3) (hb : b < 8) (hc : c < 3) {v : UInt64} (hv : isWX v = true) {q : Nat} (hq : q = insq (fun j => later t f j (nI b) (nI c)) k) :
    iQ (k + 1) (upd (shR s q k) q (nI a)) (upd (shR t q k) q (nI b)) (upd (shR f q k) q (nI c)) (vf_upd (shR w q k) q (FP.d2f v)) (upd s' k (nI a)) (upd t' k (nI b)) (upd f' k (nI c)) (vf_upd w' k v) := by
  obtain ⟨h1, h2, h3⟩ := H
  obtain ⟨g1, g2, _⟩ := arrN_all t' f' (upd t' k (nI b)) (upd f' k (nI c)) zo zo k (fun i hi => by unfold upd; rw [if_neg (by omega), if_neg (by omega)]; exact ⟨rfl, rfl⟩)
  have eq : aq (upd t' k (nI b)) (upd f' k (nI c)) k (arrN (upd t' k (nI b)) (upd f' k (nI c)) k zo) = q := by
    rw [hq]
    unfold aq
    apply insq_ext
    intro j hj
    have := g2 j hj
    rw [← g1 j hj]
    obtain ⟨_, e2, e3, _⟩ := h2 j hj
    unfold later
    rw [e2, e3, u_eq, u_eq, u_ne (by omega), u_ne (by omega)]
  have hqk : q ≤ k := by rw [hq]; exact insq_le _ _
  refine ⟨by omega, ?_, ?_⟩
  · intro i hi
    rw [arrN_s, eq]
    by_cases ci : i = q
    · rw [if_pos ci, ci, u_eq, u_eq, u_eq, v_eq, u_eq, u_eq, u_eq, v_eq]
      exact ⟨rfl, rfl, rfl, rfl⟩
    · rw [if_neg ci, u_ne ci, u_ne ci, u_ne ci, v_ne ci]
      by_cases c2 : q < i ∧ i ≤ k
      · have sh1 : ∀ {α : Type} (f : Nat → α), shR f q k i = f (i - 1) := fun f => if_pos c2
        rw [sh1, sh1, sh1, sh1, sh1, ← g1 (i - 1) (by omega)]
        have := g2 (i - 1) (by omega)
        rw [u_ne (by omega), u_ne (by omega), u_ne (by omega), v_ne (by omega)]
        exact h2 (i - 1) (by omega)
      · have sh1 : ∀ {α : Type} (f : Nat → α), shR f q k i = f i := fun f => if_neg c2
        rw [sh1, sh1, sh1, sh1, sh1, ← g1 i (by omega)]
        have := g2 i (by omega)
        rw [u_ne (by omega), u_ne (by omega), u_ne (by omega), v_ne (by omega)]
        exact h2 i (by omega)
  · intro i hi
    unfold upd vf_upd
    by_cases ci : i = k
    · rw [if_pos ci, if_pos ci, if_pos ci, if_pos ci]
      exact ⟨⟨a, ha, rfl⟩, ⟨b, hb, rfl⟩, ⟨c, hc, rfl⟩, hv⟩
    · rw [if_neg ci, if_neg ci, if_neg ci, if_neg ci]
      exact h3 i (by omega)
/- finds -/
theorem vmF_iff (S : vs_S) (u : Nat) : ∀ k, vmF S u k = 0 ↔ ∀ i, i < k → ¬ (S.1 31 u < S.1 30 (S.1 13 i).toNatClampNeg ∧ S.1 11 i = 1)
  | 0 => ⟨fun _ i h => by omega, fun _ => rfl⟩
  | k + 1 => by
    rw [vmF]
    by_cases h : (b01 (¬ S.1 31 u < S.1 30 (S.1 13 k).toNatClampNeg) = 0 ∧ S.1 11 k = 1)
    · rw [if_pos h]
      constructor
      · intro q; exact absurd q (by decide)
      · intro q
        refine absurd ⟨?_, h.2⟩ (q k (by omega))
        exact Classical.byContradiction fun z => b01_0.mp h.1 z
    · rw [if_neg h, vmF_iff S u k]
      constructor
      · intro q i hi
        by_cases e : i = k
        · subst e; rintro ⟨z1, z2⟩; exact h ⟨b01_0.mpr (fun z => z z1), z2⟩
        · exact q i (by omega)
      · exact fun q i hi => q i (by omega)
