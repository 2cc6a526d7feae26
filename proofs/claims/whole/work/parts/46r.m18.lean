/- search -/
theorem rbF_n {al dn g : Nat → Int32} {ν : Nat → Nat} {a u kd : Nat} (hk : kd ≤ 40) (hb : ∀ d, (ν a).testBit d = true → d < kd) : rbF al dn g ν a u = bo (fun d => (ν a).testBit d && mrB al dn d (tkm g (1 <<< (nI u &&& 31)) 8)) kd := by
  unfold rbF
  apply tb_ext
  intro d
  rw [bo_tb, bo_tb]
  by_cases d1 : d < kd
  · rw [decide_eq_true d1, decide_eq_true (by omega : d < 40)]
  · have : (ν a).testBit d = false := by
      cases q : (ν a).testBit d
      · rfl
      · exact absurd (hb d q) d1
    rw [this]; simp
section
variable {t : Nat} {S : vs_S} {kd kn ks km ser kq kh kf c : Nat} {σ ν α β o : Nat → Nat}
theorem IV.tok (h : IV t S kd kn ks km ser kq kh kf c σ ν α β o) (u : Nat) : tk_o (S.1 29) 8 (1 <<< (nI u &&& 31)) = tkm (S.1 39) (1 <<< (nI u &&& 31)) 8 := by
  rw [tk_o_congr h.rs.1, tok_eq h.rs.2.2.2]
theorem IV.liv (h : IV t S kd kn ks km ser kq kh kf c σ ν α β o) (ht : t ≤ 512) : ∃ L, L < 2 ^ 40 ∧ livX S ks = lN L ∧ (∀ d, L.testBit d = true ↔ d < kd ∧ ¬ S.1 48 d < 0 ∧ S.1 50 d = 0) ∧ ∀ i, i < ks → ∀ d, (ν (β i)).testBit d = true → L.testBit d = decide (S.1 50 d = 0) := by
  obtain ⟨h1, h2, h3, h4, h5⟩ := h.sn
  obtain ⟨⟨R, r1, r2, r3⟩, r4, r5⟩ := h.sv
  have hn : ∀ i, i < ks → S.2.1 34 i = lN (ν (β i)) ∧ ν (β i) < 2 ^ 40 := fun i hi => ⟨(h2 i hi).2.2.2.1, (h.sg.2.2 _ (h2 i hi).1).1⟩
  have hA : or_l (S.2.1 34) ks = lN (orN (fun i => ν (β i)) ks) := orl_n hn
  have hA2 : orN (fun i => ν (β i)) ks < 2 ^ 40 := orN_lt (fun i hi => (hn i hi).2)
  refine ⟨an (orN (fun i => ν (β i)) ks) R, an_lt hA2, ?_, ?_, ?_⟩
  · unfold livX
    rw [hA, r2, lN_an (by omega) (by omega)]
  · intro d
    rw [an_tb, r3, Bool.and_eq_true, orN_tb]
    constructor
    · rintro ⟨⟨i, i1, i2⟩, q⟩
      rw [(h2 i i1).2.2.2.2 d, Bool.and_eq_true, decide_eq_true_eq, decide_eq_true_eq] at i2
      refine ⟨i2.1, ?_, ?_⟩
      · rw [i2.2]; exact nI_pos (h.sb ht _ (h2 i i1).1)
      · rw [decide_eq_true i2.1] at q
        simpa using q
    · rintro ⟨d1, d2, d3⟩
      obtain ⟨i, i1, i2⟩ := h4 d d1 d2
      refine ⟨⟨i, i1, by rw [(h2 i i1).2.2.2.2 d, i2]; simp [d1]⟩, ?_⟩
      rw [d3]; simp
  · intro i hi d hd
    have hor : (orN (fun i => ν (β i)) ks).testBit d = true := (orN_tb _ d ks).mpr ⟨i, hi, hd⟩
    rw [an_tb, hor, r3]
    rw [(h2 i hi).2.2.2.2 d, Bool.and_eq_true, decide_eq_true_eq] at hd
    rw [decide_eq_true hd.1]
    by_cases z : S.1 50 d = 0
    · rw [decide_eq_true z, decide_eq_false (show ¬ ¬ S.1 50 d = 0 from fun q => q z)]; rfl
    · rw [decide_eq_false z, decide_eq_true z]; rfl
theorem IV.ph (h : IV t S kd kn ks km ser kq kh kf c σ ν α β o) {u M : Nat} (hu : u < 8) (hM : 1 ≤ M) {SM : vs_S} {O : Nat → Nat} (hO : ∀ i, i < kq → O i = arrN (S.1 54) (S.1 55) kq zo i)
    (r43 : SM.1 43 = S.1 43) (r40 : SM.1 40 = S.1 40) (r41 : SM.1 41 = S.1 41) (r53 : SM.1 53 = S.1 53) (r54 : SM.1 54 = S.1 54) (r55 : SM.1 55 = S.1 55) (r58 : SM.2.2.2.1 58 = S.2.2.2.1 58) : PH (sq S u M kq) SM O u kq 8 kd M := by
  obtain ⟨q1, q2, q3⟩ := h.qy
  obtain ⟨_, g2, g3⟩ := arrN_all (S.1 54) (S.1 55) (S.1 54) (S.1 55) zo zo kq (fun _ _ => ⟨rfl, rfl⟩)
  have hOl : ∀ i, i < kq → O i < kq := fun i hi => by rw [hO i hi]; exact g2 i hi
  have hOs : ∀ q, q < kq → ∃ i, i < kq ∧ O i = q := fun q hq => by
    obtain ⟨i, i1, i2⟩ := g3 q hq
    exact ⟨i, i1, by rw [hO i i1]; exact i2⟩
  have hr : ∀ i, i < kq → S.1 11 i = S.1 53 (O i) ∧ S.1 12 i = S.1 54 (O i) ∧ S.1 13 i = S.1 55 (O i) ∧ S.2.2.1 14 i = FP.d2f (S.2.2.2.1 58 (O i)) := fun i hi => by rw [hO i hi]; exact q2 i hi
  have hop : ∀ i, i < kq → ((¬ S.1 31 u < S.1 30 (S.1 13 i).toNatClampNeg) ↔ opMb SM u (O i) = true) := by
    intro i hi
    unfold opMb
    rw [decide_eq_true_eq, r41, r40, r55, (hr i hi).2.2.1]
    obtain ⟨_, _, ⟨x, x1, x2⟩, _⟩ := q3 (O i) (hOl i hi)
    rw [x2, nI_clamp (by omega), h.rs.2.2.1 u hu, h.rs.2.1 x x1]
  have h15 : ∀ i, i < kq → (sq S u M kq).1 15 i = b01 (¬ S.1 31 u < S.1 30 (S.1 13 i).toNatClampNeg) := by
    intro i hi
    show opF (vs_ui S 16 3 (nI M)) u kq i = _
    unfold opF
    rw [if_pos hi]; rfl
  have h15' : ∀ i, i < kq → (sq S u M kq).1 15 i = b01 (opMb SM u (O i) = true) := by
    intro i hi
    rw [h15 i hi]
    unfold b01
    by_cases z : opMb SM u (O i) = true
    · rw [if_pos ((hop i hi).mpr z), if_pos z]
    · rw [if_neg (fun w => z ((hop i hi).mp w)), if_neg z]
  have hcd : ∀ i, i < kq → ∀ d, d < kd → cdx (sq S u M kq) d i = cdM SM d (O i) := by
    intro i hi d hd
    show S.1 2 ((d * 3 + (S.1 13 i).toNatClampNeg) * 8 + (S.1 12 i).toNatClampNeg) = _
    unfold cdM
    rw [r43, r55, r54, (hr i hi).2.1, (hr i hi).2.2.1]
    obtain ⟨_, ⟨y, y1, y2⟩, ⟨x, x1, x2⟩, _⟩ := q3 (O i) (hOl i hi)
    rw [x2, y2, nI_clamp (by omega), nI_clamp (by omega), show (d * 3 + x) * 8 + y = 24 * d + 8 * x + y by omega]
    exact h.dc.1 _ (by omega)
  refine ⟨hM, h.zd.2.2, ?_, ?_, hcd, h.db.1, by rw [r43]; exact h.db.2, ?_⟩
  · intro i hi
    unfold isS isSM
    rw [h15' i hi, r53, show (sq S u M kq).1 11 i = S.1 11 i from rfl, (hr i hi).1]
    have e : decide (¬ b01 (opMb SM u (O i) = true) = 0) = opMb SM u (O i) := by
      rw [Bool.eq_iff_iff, decide_eq_true_eq, b01_0]
      simp
    rw [e, Bool.and_comm]
  · intro i hi
    rw [r58]
    exact ⟨(hr i hi).2.2.2, isW_WF (q3 (O i) (hOl i hi)).2.2.2⟩
  · intro d hd
    refine fnd_eq h15' (fun i hi => by rw [r53]; exact (hr i hi).1) (fun i hi => hcd i hi d hd) (fun q => by rw [r43]; exact (h.db.2 q).1) ?_ hOl hOs
    show vmF (vs_ui S 16 3 (nI M)) u kq = 0 ↔ _
    rw [vmF_iff]
    constructor
    · intro w i hi ⟨z1, z2⟩
      refine w i hi ⟨?_, ?_⟩
      · apply Classical.byContradiction
        intro z3
        rw [(hop i hi).mp z3] at z1
        cases z1
      · show S.1 11 i = 1
        rw [(hr i hi).1, ← r53]; exact z2
    · intro w i hi ⟨z1, z2⟩
      refine w i hi ⟨?_, ?_⟩
      · cases z3 : opMb SM u (O i)
        · rfl
        · exact absurd z1 ((hop i hi).mpr z3)
      · rw [r53, ← (hr i hi).1]; exact z2
theorem IV.run (h : IV t S kd kn ks km ser kq kh kf c σ ν α β o) (ht : t < 512) {u M L : Nat} (hu : u < 8) (hM : 1 ≤ M) (hL : ∀ i, i < ks → ∀ d, (ν (β i)).testBit d = true → L.testBit d = decide (S.1 50 d = 0)) {SM : vs_S} {O : Nat → Nat} (hO : ∀ i, i < kq → O i = arrN (S.1 54) (S.1 55) kq zo i)
    (r43 : SM.1 43 = S.1 43) (r40 : SM.1 40 = S.1 40) (r41 : SM.1 41 = S.1 41) (r53 : SM.1 53 = S.1 53) (r54 : SM.1 54 = S.1 54) (r55 : SM.1 55 = S.1 55) (r58 : SM.2.2.2.1 58 = S.2.2.2.1 58) (r52 : SM.1 52 = S.1 52) (r48 : SM.1 48 = S.1 48) (r50 : SM.1 50 = S.1 50) (r4 : SM.1 4 = S.1 4) (r5 : SM.1 5 = S.1 5) (r39 : SM.1 39 = S.1 39)
    {y : ft × hp × Int32 × Int32} (hy : y = sgo (sq S u M kq) u kd kq M L (fun i => ν (β i)) (fX S kf, (S.1 17, S.2.2.1 18, 0), 0, 0) ks) {y' : fm × hp × Int32 × Int32} (hy' : y' = sgM SM O u kq 8 kd M (fM S kf, (S.1 57, S.2.2.1 59, 0), 0, 0) ks) :
    FR σ (rbF (S.1 4) (S.1 5) (S.1 39) ν) km (c + ks) y.1 y'.1 ∧ hr y.2.1 y'.2.1 ∧ y.2.2 = y'.2.2 ∧ ∃ b, HI y.2.1 b M := by
  obtain ⟨h1, h2, h3, h4, h5⟩ := h.sn
  have hk := h.zd.2.2
  have hz := h.zt
  have hph := h.ph (M := M) hu hM hO r43 r40 r41 r53 r54 r55 r58
  have hmt : mTok SM u 8 = tkm (S.1 39) (1 <<< (nI u &&& 31)) 8 := by unfold mTok; rw [r39]
  have hxt : xTok (sq S u M kq) (nI u) = tkm (S.1 39) (1 <<< (nI u &&& 31)) 8 := h.tok u
  have res := sgo_sgM (L := L) (c := c) (km := km) (σ := σ) (ν := ν) (β := β) (rb := rbF (S.1 4) (S.1 5) (S.1 39) ν) hph hu (ks := ks) (fun i hi => by
      obtain ⟨a1, a2, a3, a4, a5⟩ := h2 i hi
      exact ⟨a1, a2, a4, by rw [r52]; exact a3, (h.sg.2.2 _ a1).1, fun d => by rw [r48]; exact a5 d⟩) (fun i j hij hj d d' hd hd' => by
      rw [(h2 i (by omega)).2.2.2.2 d, Bool.and_eq_true, decide_eq_true_eq, decide_eq_true_eq] at hd
      rw [(h2 j hj).2.2.2.2 d', Bool.and_eq_true, decide_eq_true_eq, decide_eq_true_eq] at hd'
      have s1 := h.sg.1 _ _ (h3 i j hij hj) (h2 j hj).1
      have s2 := h.sb (by omega) _ (h2 j hj).1
      apply Classical.byContradiction
      intro q
      by_cases e : d = d'
      · subst e
        have := nIq (by omega) (by omega) (hd.2.symm.trans hd'.2)
        omega
      · have := h5 d' d (by omega) hd.1 (by rw [hd.2]; exact nI_pos (by omega)) (by rw [hd'.2]; exact nI_pos (by omega))
        rw [hd.2, hd'.2, nI_leI (by omega) (by omega)] at this
        omega) (fun i hi d hd => by rw [r50]; exact hL i hi d hd) (fun i hi => by
      obtain ⟨a1, a2, a3, a4, a5⟩ := h2 i hi
      obtain ⟨n1, n2⟩ := h.sg.2.2 _ a1
      refine ⟨bo_lt _ 40, ?_, ?_⟩
      · intro d hd
        unfold rbF
        rw [bo_tb, decide_eq_true (by omega : d < 40), Bool.true_and, hmt]
        congr 1
        show _ = (decide (SM.1 5 d &&& _ = 0) && decide (¬ SM.1 4 d &&& _ = 0))
        rw [r4, r5]; rfl
      · rw [rd_n _ n1 _ kd hk, hxt, rbF_n hk n2]; rfl) (h.sok (by omega)) (by omega) (fX S kf) (fM S kf) h.fl (S.1 17, S.2.2.1 18, 0) (S.1 57, S.2.2.1 59, 0) rfl rfl (0, 0) ks (Nat.le_refl _)
  rw [← hy, ← hy'] at res
  obtain ⟨e1, e2, e3, b, e4, _⟩ := res
  exact ⟨e1, e2, e3, b, e4⟩
theorem IV.search (h : IV t S kd kn ks km ser kq kh kf c σ ν α β o) (ht : t < 512) {u M L : Nat} (hu : u < 8) (hM : 1 ≤ M) (hM8 : M ≤ 8) (hL : ∀ i, i < ks → ∀ d, (ν (β i)).testBit d = true → L.testBit d = decide (S.1 50 d = 0)) (G : Nat → Int64)
    {y : ft × hp × Int32 × Int32} (hy : y = sgo (sq S u M kq) u kd kq M L (fun i => ν (β i)) (fX S kf, (S.1 17, S.2.2.1 18, 0), 0, 0) ks) {S1 : vs_S} (hS1 : S1 = vs_uL (xS (xFl (sq S u M kq) y.1) y.2.1 y.2.2.1 y.2.2.2) 63 G)
    {y' : fm × hp × Int32 × Int32} (hy' : y' = sgM (sqM S1 o kq) (arrN (S1.1 54) (S1.1 55) kq o) u kq 8 kd M (fM S kf, (S.1 57, S.2.2.1 59, 0), 0, 0) ks) (hb : ∀ q, arrN (S1.1 54) (S1.1 55) kq o q < 6) :
    y.2.1.2.2 = y'.2.1.2.2 ∧ ∃ kh' kf' c' o', IV (t + 1) (xM (xFM (sqM S1 o kq) y'.1) y'.2.1 y'.2.2.1 y'.2.2.2) kd kn ks km ser kq kh' kf' c' σ ν α β o' := by
  subst hS1
  obtain ⟨g1, _, _⟩ := arrN_all (S.1 54) (S.1 55) (S.1 54) (S.1 55) o zo kq (fun _ _ => ⟨rfl, rfl⟩)
  obtain ⟨e1, e2, e3, b, e4⟩ := h.run ht hu hM hL (SM := sqM (vs_uL (xS (xFl (sq S u M kq) y.1) y.2.1 y.2.2.1 y.2.2.2) 63 G) o kq) (O := arrN (S.1 54) (S.1 55) kq o) g1 rfl rfl rfl rfl rfl rfl rfl rfl rfl rfl rfl rfl rfl hy hy'
  clear hy hy'
  obtain ⟨⟨f1, f2, f3, k, mm, rr⟩, ⟨ha, hs, hk⟩, bl, df⟩ := y
  obtain ⟨⟨g1', g2', g3', k', mm', rr', cc'⟩, ⟨ha', hs', hk'⟩, bl', df'⟩ := y'
  obtain ⟨i1, i2, i3, i4, i5, i6⟩ := e1
  obtain ⟨j1, j2⟩ := e2
  simp only at i1 i2 i3 i4 i5 i6 j1 j2 e3
  obtain ⟨v1, v2⟩ := Prod.mk.inj e3
  subst i1; subst j1; subst v1; subst v2
  refine ⟨rfl, hk, k, c + ks, arrN (S.1 54) (S.1 55) kq o, ?_⟩
  have hks := h.sn.1
  obtain ⟨z1, z2, z3⟩ := h.zt
  have hH : iH hk ha hs ha' hs' := ⟨by have := e4.1; simp only at this; omega, fun j hj => ⟨(j2 j hj).1, (j2 j hj).2, (e4.2 j hj).2⟩⟩
  exact ⟨h.zd, h.zn, h.zs, h.zm, ⟨by omega, by omega, by omega⟩, h.zq, ⟨rfl, rfl⟩, ⟨rfl, rfl⟩, ⟨rfl, rfl⟩, h.rn, h.rs, h.dc, h.db, h.dv, h.du, h.sg, h.nw, h.nv, h.nb, h.sn, h.sv, h.qy, ⟨rfl, hb⟩, hH, ⟨rfl, i2, i3, i4, i5, i6⟩⟩
end
