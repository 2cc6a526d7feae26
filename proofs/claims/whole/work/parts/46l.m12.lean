/- small steps -/
theorem nn_ne {x : Nat} (h : x < 2 ^ 31) {y : Int32} (hy : y < 0) : ¬ y = nI x := by
  intro e
  rw [e] at hy
  exact nI_pos h hy
theorem i32_of {x : Int32} {n : Nat} (h0 : 0 ≤ x) (h1 : x < nI n) (hn : n < 2 ^ 31) : ∃ j, j < n ∧ x = nI j := by
  obtain ⟨j, hj, e⟩ := nI_of (x := x) (by rw [Int32.lt_iff_toInt_lt]; rw [Int32.le_iff_toInt_le] at h0; omega)
  subst e
  exact ⟨j, (nI_ltI hj hn).mp h1, rfl⟩
theorem iR_member {g l c g' l' c' : Nat → Int32} (H : iR g l c g' l' c') {m : Nat} (hm : m < 16) {a : Int32} {k : Nat} (hk : 8 ≤ k) (hk2 : k < 16) (ha : a = nI k) (on : Int32) : jn_v (g m) a on = jn_v (g' m) a on ∧ iR (upd g m (jn_v (g m) a on)) l c (upd g' m (jn_v (g' m) a on)) l' c' := by
  obtain ⟨h1, h2, h3, h4⟩ := H
  have e : jn_v (g m) a on = jn_v (g' m) a on := by rw [h1 m hm]
  refine ⟨e, ?_, h2, h3, ?_⟩
  · intro i hi
    unfold upd
    by_cases ci : i = m
    · rw [if_pos ci, if_pos ci, e]
    · rw [if_neg ci, if_neg ci]; exact h1 i hi
  · intro i hi j hj
    unfold upd at hj
    by_cases ci : i = m
    · rw [if_pos ci] at hj
      unfold jn_v at hj
      subst ha
      by_cases co : on = 0
      · rw [if_pos co, b_and, Bool.and_eq_true] at hj
        exact h4 m hm j hj.1
      · rw [if_neg co, b_or, Bool.or_eq_true] at hj
        rcases hj with hj | hj
        · exact h4 m hm j hj
        · have hj32 : j < 32 := by
            apply Classical.byContradiction
            intro q
            rw [b_big (by omega)] at hj
            cases hj
          rw [b_shl k (by omega) 1 hj32, Bool.and_eq_true, decide_eq_true_eq] at hj
          have : bt 1 (j - k) = decide (j - k = 0) := by
            have : ∀ x : Fin 32, bt 1 x.val = decide (x.val = 0) := by decide
            exact this ⟨j - k, by omega⟩
          rw [this, decide_eq_true_eq] at hj
          omega
    · rw [if_neg ci] at hj
      exact h4 i hi j hj
theorem iR_lev {g l c g' l' c' : Nat → Int32} (H : iR g l c g' l' c') (i : Nat) (v : Int32) : iR g (upd l i v) c g' (upd l' i v) c' ∧ iR g l (upd c i v) g' l' (upd c' i v) := by
  obtain ⟨h1, h2, h3, h4⟩ := H
  refine ⟨⟨h1, ?_, h3, h4⟩, ⟨h1, h2, ?_, h4⟩⟩
  · intro j hj
    unfold upd
    by_cases c : j = i
    · rw [if_pos c, if_pos c]
    · rw [if_neg c, if_neg c]; exact h2 j hj
  · intro j hj
    unfold upd
    by_cases c : j = i
    · rw [if_pos c, if_pos c]
    · rw [if_neg c, if_neg c]; exact h3 j hj
theorem iC_upd {w B kd : Nat} {cx cm : Nat → Int32} (H : iC w B kd cx cm) (hB : w * kd ≤ B) {j : Nat} (hj : j < w) (v : Int32) : iC w B kd (upd cx (w * kd + j) v) (upd cm (B + j) v) := by
  obtain ⟨h1, h2, h3⟩ := H
  refine ⟨?_, ?_, ?_⟩
  · intro q hq
    rw [u_ne (by omega), u_ne (by omega)]; exact h1 q hq
  · intro i hi
    by_cases c : i = j
    · subst c; rw [u_eq, u_eq]
    · rw [u_ne (by omega), u_ne (by omega)]; exact h2 i hi
  · intro q hq
    rw [u_ne (by omega)]; exact h3 q hq
theorem b_upd {cx : Nat → Int32} (H : ∀ q, 0 ≤ cx q ∧ cx q ≤ 255) (i : Nat) {v : Int32} (hv : 0 ≤ v ∧ v ≤ 255) : ∀ q, 0 ≤ upd cx i v q ∧ upd cx i v q ≤ 255 := by
  intro q
  by_cases c : q = i
  · subst c; rw [u_eq]; exact hv
  · rw [u_ne c]; exact H q
theorem setR_congr {al dn al' dn' pa bl en bl' en' pb : Nat → Int32} {d : Nat} (h : ∀ q, q ≤ d → al q = bl q ∧ dn q = en q) (h2 : al' d = bl' d ∧ dn' d = en' d ∧ pa d = pb d) (H : setR al dn al' dn' pa d) : setR bl en bl' en' pb d := by
  obtain ⟨e1, e2, e3⟩ := h2
  obtain ⟨k1, k2⟩ := h d (Nat.le_refl _)
  rcases H with ⟨a, b, c⟩ | ⟨q, a, b, c, e⟩
  · exact .inl ⟨by rw [← e3, a], by rw [← k2, ← e2, b], by rw [← k1, ← e1, c]⟩
  · obtain ⟨m1, m2⟩ := h q (by omega)
    refine .inr ⟨q, a, by rw [← e3, b], by rw [← k2, ← e2, ← m2, c], ?_⟩
    rw [← k1, ← e1, ← m1, e]
theorem iU_al {kd : Nat} {ax dx am dm pm : Nat → Int32} (H : iU kd ax dx am dm pm) (hk : kd ≤ 40) (v : Int32) : iU kd (upd ax kd v) dx (upd am 40 v) dm pm ∧ iU kd ax (upd dx kd v) am (upd dm 40 v) pm := by
  obtain ⟨h1, ⟨h2, h3⟩, h4⟩ := H
  refine ⟨⟨?_, ⟨by rw [u_eq, u_eq], h3⟩, ?_⟩, ⟨?_, ⟨h2, by rw [u_eq, u_eq]⟩, ?_⟩⟩
  · intro d hd
    exact setR_congr (fun q hq => ⟨(u_ne (by omega)).symm, rfl⟩) ⟨(u_ne (by omega)).symm, rfl, rfl⟩ (h1 d hd)
  · intro d hd; rw [u_ne (by omega)]; exact h4 d hd
  · intro d hd
    exact setR_congr (fun q hq => ⟨rfl, (u_ne (by omega)).symm⟩) ⟨rfl, (u_ne (by omega)).symm, rfl⟩ (h1 d hd)
  · intro d hd; rw [u_ne (by omega)]; exact h4 d hd
theorem FR_ext {σ σ' : Nat → Nat} {rb rb' : Nat → Nat → Nat} {km km' c : Nat} {f : ft} {g : fm} (hk : km ≤ km') (hσ : ∀ a, a < km → σ a = σ' a) (hr : ∀ a u, a < km → u < 8 → rb a u = rb' a u) (H : FR σ rb km c f g) : FR σ' rb' km' c f g := by
  obtain ⟨e1, e2, e3, e4, e5, Z, z1, z2, z3, z4, z5⟩ := H
  refine ⟨e1, e2, e3, e4, e5, Z, ?_, ?_, z3, z4, fun z hz => ⟨by have := (z5 z hz).1; omega, (z5 z hz).2⟩⟩
  · rw [z1]
    apply List.map_congr_left
    intro z hz
    unfold fx
    rw [hr _ _ (z5 z hz).1 (z5 z hz).2.1]
  · refine z2.trans (List.Perm.of_eq ?_)
    apply List.map_congr_left
    intro z hz
    unfold fmz
    rw [hσ _ (z5 z hz).1]
theorem rbF_ext {al dn al' dn' g g' : Nat → Int32} {ν ν' : Nat → Nat} {a u : Nat} (hν : ν a = ν' a) (hg : tkm g (1 <<< (nI u &&& 31)) 8 = tkm g' (1 <<< (nI u &&& 31)) 8) (h : ∀ d, (ν a).testBit d = true → al d = al' d ∧ dn d = dn' d) : rbF al dn g ν a u = rbF al' dn' g' ν' a u := by
  unfold rbF
  apply bo_ext
  intro d hd
  rw [hg, ← hν]
  cases hb : (ν a).testBit d
  · rfl
  · unfold mrB
    rw [(h d hb).1, (h d hb).2]
theorem iG_sg {kd kn km : Nat} {σ ν α : Nat → Nat} {num : Nat → Int32} {ids : Nat → Int64} {sg sg' segs : Nat → Int32} (hσ : ∀ a, a < km → σ a < 2 ^ 31) (h : ∀ d, sg' d = sg d ∨ (sg' d < 0 ∧ sg d < 0)) (H : iG kd kn km σ ν α num ids sg segs) : iG kd kn km σ ν α num ids sg' segs := by
  obtain ⟨h1, h2, h3, h4, h5⟩ := H
  have hn : ∀ d, ¬ sg' d < 0 → sg' d = sg d := by
    intro d hd
    rcases h d with e | e
    · exact e
    · exact absurd e.1 hd
  refine ⟨h1, ?_, h3, ?_, ?_⟩
  · intro i hi
    obtain ⟨a1, a2, a3, a4, a5⟩ := h2 i hi
    refine ⟨a1, a2, a3, a4, ?_⟩
    intro d
    rw [a5 d]
    rcases h d with e | ⟨e1, e2⟩
    · rw [e]
    · rw [decide_eq_false (nn_ne (hσ _ a1) e1), decide_eq_false (nn_ne (hσ _ a1) e2)]
  · intro d hd hs
    have e := hn d hs
    rw [e] at hs ⊢
    exact h4 d hd hs
  · intro d d' hd hd' hs hs'
    have e1 := hn d' hs
    have e2 := hn d hs'
    rw [e1] at hs ⊢
    rw [e2] at hs' ⊢
    exact h5 d d' hd hd' hs hs'
theorem iV_rem {kd : Nat} {rmv : Int64} {rm : Nat → Int32} (H : iV kd rmv rm) {e : Nat} (he : e < kd) (hk : kd ≤ 40) : iV kd (rmv ||| sh1 (nI e)) (upd rm e 1) := by
  obtain ⟨⟨R, r1, r2, r3⟩, h2, h3⟩ := H
  have hp : (2 : Nat) ^ e < 2 ^ 40 := Nat.pow_lt_pow_right (by decide) (by omega)
  refine ⟨⟨R ||| 2 ^ e, Nat.or_lt_two_pow r1 hp, ?_, ?_⟩, ?_, ?_⟩
  · unfold sh1
    rw [r2, sh_n (by omega), wb_or (by omega) (by omega)]
  · intro d
    rw [Nat.testBit_or, r3, Nat.testBit_two_pow]
    by_cases c : d = e
    · subst c; rw [u_eq]; simp [he]
    · rw [u_ne c, decide_eq_false (show ¬ e = d from fun q => c q.symm), Bool.or_false]
  · intro d
    by_cases c : d = e
    · subst c; rw [u_eq]; exact .inr rfl
    · rw [u_ne c]; exact h2 d
  · intro d hd
    rw [u_ne (by omega)]; exact h3 d hd
theorem iV_bit {kd : Nat} {rmv : Int64} {rm : Nat → Int32} (H : iV kd rmv rm) {e : Nat} (he : e < kd) (hk : kd ≤ 40) : sr rmv (nI e) &&& 1 = 0 ↔ rm e = 0 := by
  obtain ⟨⟨R, r1, r2, r3⟩, _, _⟩ := H
  rw [r2, bit_n (by omega) (by omega), r3, decide_eq_true he]
  simp
theorem iB_rem {kd : Nat} {buf : Int64} {sg : Nat → Int32} (H : iB kd buf sg) {e : Nat} (he : e < kd) (hk : kd ≤ 40) {sg' : Nat → Int32} (hs : sg' = if sg e = -1 then upd sg e (-2) else sg) : iB kd (buf &&& (sh1 (nI e) ^^^ (-1))) sg' ∧ ∀ d, sg' d = sg d ∨ (sg' d < 0 ∧ sg d < 0) := by
  obtain ⟨⟨B, r1, r2, r3⟩, h2⟩ := H
  have hp : (2 : Nat) ^ e < 2 ^ 40 := Nat.pow_lt_pow_right (by decide) (by omega)
  have hne : ∀ d, d ≠ e → sg' d = sg d := by
    intro d hd
    rw [hs]
    split
    · rw [u_ne hd]
    · rfl
  have hee : ¬ sg' e = -1 := by
    rw [hs]
    split
    · rw [u_eq]; decide
    · assumption
  have hsg : ∀ d, sg' d = sg d ∨ (sg' d < 0 ∧ sg d < 0) := by
    intro d
    by_cases c : d = e
    · subst c
      rw [hs]
      split
      · rename_i q; right; rw [u_eq, q]; decide
      · left; rfl
    · exact .inl (hne d c)
  refine ⟨⟨⟨an B (2 ^ e), an_lt r1, ?_, ?_⟩, ?_⟩, hsg⟩
  · unfold sh1
    rw [r2, sh_n (by omega), lN_an (by omega) (by omega)]
  · intro d
    rw [an_tb, r3, Nat.testBit_two_pow]
    by_cases c : d = e
    · subst c; rw [decide_eq_false hee]; simp
    · rw [hne d c, decide_eq_false (show ¬ e = d from fun q => c q.symm)]; simp
  · intro d d' hd hd' h
    have c : d ≠ e := by rintro rfl; exact hee h
    rw [hne d c] at h
    have := h2 d d' hd hd' h
    rcases hsg d' with q | q
    · rw [q]; exact this
    · exact q.1
