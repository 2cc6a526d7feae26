theorem cpy_lt {α : Type} (f g : Nat → α) {n i : Nat} (h : i < n) : va_cpy f g 0 0 n i = f i := by
  unfold va_cpy
  rw [if_pos (by omega)]
  congr 1; omega
theorem cpI_lt (f g : Nat → Int32) {n i : Nat} (h : i < n) : cpI f g n i = f i := if_pos h
theorem cpI_ge (f g : Nat → Int32) {n i : Nat} (h : ¬ i < n) : cpI f g n i = g i := if_neg h
theorem iR_cp {g l c g' l' c' : Nat → Int32} (H : iR g l c g' l' c') (g1 l1 c1 g2 l2 c2 : Nat → Int32) : iR (va_cpy g g1 0 0 16) (va_cpy l l1 0 0 3) (va_cpy c c1 0 0 8) (cpI g' g2 16) (cpI l' l2 3) (cpI c' c2 8) := by
  obtain ⟨h1, h2, h3, h4⟩ := H
  refine ⟨?_, ?_, ?_, ?_⟩
  · intro i hi; rw [cpy_lt _ _ hi, cpI_lt _ _ hi]; exact h1 i hi
  · intro i hi; rw [cpy_lt _ _ hi, cpI_lt _ _ hi]; exact h2 i hi
  · intro i hi; rw [cpy_lt _ _ hi, cpI_lt _ _ hi]; exact h3 i hi
  · intro i hi k hk; rw [cpI_lt _ _ hi] at hk; exact h4 i hi k hk
theorem iG_cp {kd kn km : Nat} {σ ν α : Nat → Nat} {num num' : Nat → Int32} {ids ids' : Nat → Int64} {sg sg' segs segs' : Nat → Int32} (h1 : ∀ i, i < kn → num' i = num i ∧ ids' i = ids i ∧ segs' i = segs i) (h2 : ∀ d, d < kd → sg' d = sg d) (H : iG kd kn km σ ν α num ids sg segs) : iG kd kn km σ ν α num' ids' sg' segs' := by
  obtain ⟨a1, a2, a3, a4, a5⟩ := H
  refine ⟨a1, ?_, a3, ?_, ?_⟩
  · intro i hi
    obtain ⟨b1, b2, b3, b4, b5⟩ := a2 i hi
    obtain ⟨c1, c2, c3⟩ := h1 i hi
    rw [c1, c2, c3]
    refine ⟨b1, b2, b3, b4, ?_⟩
    intro d
    rw [b5]
    by_cases d1 : d < kd
    · rw [h2 d d1]
    · rw [decide_eq_false d1]; rfl
  · intro d hd q
    rw [h2 d hd] at q ⊢
    exact a4 d hd q
  · intro d d' hd hd' q q'
    rw [h2 d' hd'] at q ⊢
    rw [h2 d (by omega)] at q' ⊢
    exact a5 d d' hd hd' q q'
theorem iV_cp {kd : Nat} {rmv : Int64} {rm rm' : Nat → Int32} (H : iV kd rmv rm) (h : ∀ d, kd ≤ d → rm' d = 0) : iV kd rmv (cpI rm rm' kd) := by
  obtain ⟨⟨R, r1, r2, r3⟩, h2, h3⟩ := H
  refine ⟨⟨R, r1, r2, ?_⟩, ?_, ?_⟩
  · intro d
    rw [r3]
    by_cases d1 : d < kd
    · rw [cpI_lt _ _ d1]
    · rw [decide_eq_false d1]; rfl
  · intro d
    by_cases d1 : d < kd
    · rw [cpI_lt _ _ d1]; exact h2 d
    · rw [cpI_ge _ _ d1]; exact .inl (h d (by omega))
  · intro d hd
    rw [cpI_ge _ _ (by omega)]; exact h d hd
section
variable {t : Nat} {S : vs_S} {kd kn ks km ser kq kh kf c : Nat} {σ ν α β o : Nat → Nat}
theorem IV.same (h : IV t S kd kn ks km ser kq kh kf c σ ν α β o) : sameX S = sameM S := by
  obtain ⟨a1, a2, a3, _⟩ := h.rn
  obtain ⟨b1, b2, b3, _⟩ := h.rs
  unfold sameX sameM
  have e : ∀ {f g f' g' : Nat → Int32} {n : Nat}, (∀ i, i < n → f i = f' i) → (∀ i, i < n → g i = g' i) → eqR f g n = eqR f' g' n := by
    intro f g f' g' n h1 h2
    rw [Bool.eq_iff_iff, eqR_iff, eqR_iff]
    constructor
    · intro q i hi; rw [← h1 i hi, ← h2 i hi]; exact q i hi
    · intro q i hi; rw [h1 i hi, h2 i hi]; exact q i hi
  rw [e a1 b1, e a2 b2, e a3 b3]
theorem IV.rfv (h : IV t S kd kn ks km ser kq kh kf c σ ν α β o) (ht : t ≤ 512) : rfV S kn = nI (cn (liv S) kd) := by
  obtain ⟨h1, h2, h3, h4, h5⟩ := h.nw
  obtain ⟨⟨R, r1, r2, r3⟩, r4, r5⟩ := h.nv
  have hk := h.zd.2.2
  have hn : ∀ i, i < kn → (cpV S).2.1 34 i = lN (ν (α i)) ∧ ν (α i) < 2 ^ 40 := fun i hi => by
    refine ⟨?_, (h.sg.2.2 _ (h2 i hi).1).1⟩
    show va_cpy (S.2.1 26) (S.2.1 34) 0 0 6 i = _
    rw [cpy_lt _ _ (by omega)]
    exact (h2 i hi).2.2.2.1
  have hA : or_l ((cpV S).2.1 34) kn = lN (orN (fun i => ν (α i)) kn) := orl_n hn
  have hA2 : orN (fun i => ν (α i)) kn < 2 ^ 40 := orN_lt (fun i hi => (hn i hi).2)
  have e27 : (cpV S).2.2.2.2.2 27 2 = lN R := r2
  unfold rfV
  rw [hA, e27, lN_an (by omega) (by omega), bcR_n (an_lt hA2)]
  congr 1
  apply cn_bits hk
  intro d
  rw [an_tb, r3]
  unfold liv
  rw [Bool.eq_iff_iff, Bool.and_eq_true, Bool.and_eq_true, Bool.and_eq_true, orN_tb, decide_eq_true_eq, decide_eq_true_eq, decide_eq_true_eq]
  constructor
  · rintro ⟨⟨i, i1, i2⟩, q⟩
    rw [(h2 i i1).2.2.2.2 d, Bool.and_eq_true, decide_eq_true_eq, decide_eq_true_eq] at i2
    refine ⟨i2.1, ?_, ?_⟩
    · rw [i2.2]; exact nI_pos (h.sb ht _ (h2 i i1).1)
    · rw [decide_eq_true i2.1] at q
      simpa using q
  · rintro ⟨d1, d2, d3⟩
    obtain ⟨i, i1, i2⟩ := h4 d d1 d2
    refine ⟨⟨i, i1, by rw [(h2 i i1).2.2.2.2 d, i2]; simp [d1]⟩, ?_⟩
    rw [d3]; simp
theorem IV.refresh0 (h : IV t S kd kn ks km ser kq kh kf c σ ν α β o) (ht : t ≤ 512) (hs : sameX S = true) : ∃ a b L k a2 b2 d2, fAll kn kf (cpV S) = F4 (cpV S) a b L (nI k) ∧ fAllM (b01 (¬ sameM (F4 (cpV S) a b L (nI k)) = true)) kn kf (mrfT (F4 (cpV S) a b L (nI k)) kn kd) = G4 (mrfT (F4 (cpV S) a b L (nI k)) kn kd) a2 b2 d2 (nI k) ∧ IV t (G4 (mrfT (F4 (cpV S) a b L (nI k)) kn kd) a2 b2 d2 (nI k)) kd kn kn km ser kq kh k c σ ν α α o := by
  have hkf : kf ≤ 5 := h.fl.2.1
  obtain ⟨h1, h2, h3, h4, h5⟩ := h.nw
  have e0 : cpV S = F4 (cpV S) (S.1 7) (S.1 8) (S.2.1 9) (nI kf) := by
    have := F4_self (cpV S)
    rw [show (cpV S).2.2.2.2.1 6 3 = nI kf from h.zf.1] at this
    exact this.symm
  obtain ⟨a, b, L, k, q1, q2⟩ := fAll_F4 kn (cpV S) kf kf (S.1 7) (S.1 8) (S.2.1 9) (Nat.le_refl _) hkf
  rw [← e0] at q1
  have eM : mrfT (F4 (cpV S) a b L (nI k)) kn kd = G4 (mrfT (F4 (cpV S) a b L (nI k)) kn kd) (S.1 60) (S.1 61) (S.1 62) (nI kf) := by
    have := G4_self (mrfT (F4 (cpV S) a b L (nI k)) kn kd)
    rw [show (mrfT (F4 (cpV S) a b L (nI k)) kn kd).2.2.2.2.1 35 35 = nI kf from h.zf.2] at this
    exact this.symm
  have hsM : sameM (F4 (cpV S) a b L (nI k)) = true := by
    show sameM S = true
    rw [← h.same]; exact hs
  have hb : b01 (¬ sameM (F4 (cpV S) a b L (nI k)) = true) = 0 := b01_0.mpr (fun z => z hsM)
  obtain ⟨a2, b2, d2, k2, p1, p2⟩ := fAllM_G4 (b01 (¬ sameM (F4 (cpV S) a b L (nI k)) = true)) kn (mrfT (F4 (cpV S) a b L (nI k)) kn kd) kf kf (S.1 60) (S.1 61) (S.1 62) (Nat.le_refl _) hkf
  rw [← eM] at p1
  have hgr : ∀ i, i < 16 → cpI (S.1 36) (S.1 39) 16 i = S.1 39 i := by
    intro i hi
    rw [cpI_lt _ _ hi]
    have : sameM S = true := hsM
    unfold sameM at this
    rw [Bool.and_eq_true, eqR_iff] at this
    exact this.1 i hi
  have fr0 := FR_ext (rb' := rbF (S.1 4) (S.1 5) (cpI (S.1 36) (S.1 39) 16) ν) (Nat.le_refl km) (fun _ _ => rfl) (fun a u _ _ => rbF_ext rfl (tkm_congr (fun i hi => (hgr i hi).symm) _ 8) (fun _ _ => ⟨rfl, rfl⟩)) h.fl
  have key := FR_keep fr0 (kX := fun x => has_i (va_cpy (S.1 25) (S.1 33) 0 0 6) x kn) (kM := fun x => has_i (cpI (S.1 51) (S.1 52) kn) x kn) (by
    intro a ha
    rw [Bool.eq_iff_iff, has_i_iff, has_i_iff]
    constructor
    · rintro ⟨i, i1, i2⟩
      rw [cpy_lt _ _ (by omega), (h2 i i1).2.1] at i2
      have hm := (h.sok ht).1
      have := (h2 i i1).1
      refine ⟨i, i1, ?_⟩
      rw [cpI_lt _ _ i1, (h2 i i1).2.2.1, nIq (by omega) (by omega) i2]
    · rintro ⟨i, i1, i2⟩
      rw [cpI_lt _ _ i1, (h2 i i1).2.2.1] at i2
      have hm := h.sb ht
      have a1 := (h2 i i1).1
      refine ⟨i, i1, ?_⟩
      rw [cpy_lt _ _ (by omega), (h2 i i1).2.1, (h.sok ht).2.2 _ _ a1 ha (nIq (hm _ a1) (hm _ ha) i2)]) (a := a) (b := b) (L := L) (k1 := k) (by
    rw [q2]
    have hl : (Lr (fun j => (S.1 7 j, S.1 8 j, S.2.1 9 j)) kf).length = kf := Lr_len _ _
    rw [List.take_of_length_le (by omega), List.drop_of_length_le (by omega), List.append_nil]; rfl) (a2 := a2) (b2 := b2) (d2 := d2) (k2 := k2) (by
    rw [p2, hb]
    have hl : (Lr (fun j => (S.1 60 j, S.1 61 j, S.1 62 j)) kf).length = kf := Lr_len _ _
    rw [List.take_of_length_le (by omega), List.drop_of_length_le (by omega), List.append_nil]; rfl)
  obtain ⟨ek, fr⟩ := key
  subst ek
  have rs := iR_cp h.rn (S.1 29) (S.1 30) (S.1 31) (S.1 39) (S.1 40) (S.1 41)
  have sn := iG_cp (num' := va_cpy (S.1 25) (S.1 33) 0 0 6) (ids' := va_cpy (S.2.1 26) (S.2.1 34) 0 0 6) (sg' := cpI (S.1 47) (S.1 48) kd) (segs' := cpI (S.1 51) (S.1 52) kn) (fun i hi => ⟨cpy_lt _ _ (by omega), cpy_lt _ _ (by omega), cpI_lt _ _ hi⟩) (fun d hd => cpI_lt _ _ hd) h.nw
  have sv := iV_cp (rm' := S.1 50) h.nv h.sv.2.2
  exact ⟨a, b, L, k, a2, b2, d2, q1, p1, ⟨h.zd, h.zn, ⟨h.zn.1, rfl⟩, h.zm, h.zt, h.zq, h.zh, ⟨rfl, rfl⟩, h.zc, h.rn, rs, h.dc, h.db, h.dv, h.du, h.sg, h.nw, h.nv, h.nb, sn, sv, h.qy, h.od, h.ht, fr⟩⟩
theorem IV.refresh1 (h : IV t S kd kn ks km ser kq kh kf c σ ν α β o) (hs : ¬ sameX S = true) : ∃ a2 b2 d2, fAllM (b01 (¬ sameM (vs_ui (cpV S) 6 3 0) = true)) kn kf (mrfT (vs_ui (cpV S) 6 3 0) kn kd) = G4 (mrfT (vs_ui (cpV S) 6 3 0) kn kd) a2 b2 d2 (nI 0) ∧ IV t (G4 (mrfT (vs_ui (cpV S) 6 3 0) kn kd) a2 b2 d2 (nI 0)) kd kn kn km ser kq kh 0 c σ ν α α o := by
  have hkf : kf ≤ 5 := h.fl.2.1
  obtain ⟨h1, h2, h3, h4, h5⟩ := h.nw
  have eM : mrfT (vs_ui (cpV S) 6 3 0) kn kd = G4 (mrfT (vs_ui (cpV S) 6 3 0) kn kd) (S.1 60) (S.1 61) (S.1 62) (nI kf) := by
    have := G4_self (mrfT (vs_ui (cpV S) 6 3 0) kn kd)
    rw [show (mrfT (vs_ui (cpV S) 6 3 0) kn kd).2.2.2.2.1 35 35 = nI kf from h.zf.2] at this
    exact this.symm
  have hsM : ¬ sameM (vs_ui (cpV S) 6 3 0) = true := by
    show ¬ sameM S = true
    rw [← h.same]; exact hs
  have hb : ¬ b01 (¬ sameM (vs_ui (cpV S) 6 3 0) = true) = 0 := fun z => b01_0.mp z hsM
  obtain ⟨a2, b2, d2, k2, p1, p2⟩ := fAllM_G4 (b01 (¬ sameM (vs_ui (cpV S) 6 3 0) = true)) kn (mrfT (vs_ui (cpV S) 6 3 0) kn kd) kf kf (S.1 60) (S.1 61) (S.1 62) (Nat.le_refl _) hkf
  rw [← eM] at p1
  have k0 : k2 = 0 := by
    have hl : (Lr (fun j => (S.1 60 j, S.1 61 j, S.1 62 j)) kf).length = kf := Lr_len _ _
    rw [List.drop_of_length_le (by omega), List.append_nil] at p2
    have hz : ∀ l : List (Int32 × Int32 × Int32), l.filter (fun r => decide (b01 (¬ sameM (vs_ui (cpV S) 6 3 0) = true) = 0) && has_i ((mrfT (vs_ui (cpV S) 6 3 0) kn kd).1 52) r.1 kn) = [] := fun l => List.filter_eq_nil_iff.mpr (fun a _ => by rw [decide_eq_false hb]; simp)
    rw [hz] at p2
    have := congrArg List.length p2
    rw [Lr_len] at this
    exact this
  subst k0
  have fr := FR_none (rb' := rbF (S.1 4) (S.1 5) (cpI (S.1 36) (S.1 39) 16) ν) h.fl (S.1 7) (S.1 8) (S.2.1 9) a2 b2 d2
  have rs := iR_cp h.rn (S.1 29) (S.1 30) (S.1 31) (S.1 39) (S.1 40) (S.1 41)
  have sn := iG_cp (num' := va_cpy (S.1 25) (S.1 33) 0 0 6) (ids' := va_cpy (S.2.1 26) (S.2.1 34) 0 0 6) (sg' := cpI (S.1 47) (S.1 48) kd) (segs' := cpI (S.1 51) (S.1 52) kn) (fun i hi => ⟨cpy_lt _ _ (by omega), cpy_lt _ _ (by omega), cpI_lt _ _ hi⟩) (fun d hd => cpI_lt _ _ hd) h.nw
  have sv := iV_cp (rm' := S.1 50) h.nv h.sv.2.2
  exact ⟨a2, b2, d2, p1, ⟨h.zd, h.zn, ⟨h.zn.1, rfl⟩, h.zm, h.zt, h.zq, h.zh, ⟨rfl, rfl⟩, h.zc, h.rn, rs, h.dc, h.db, h.dv, h.du, h.sg, h.nw, h.nv, h.nb, sn, sv, h.qy, h.od, h.ht, fr⟩⟩
end
