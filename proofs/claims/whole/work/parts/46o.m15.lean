/- flush and merge -/
theorem cn_bits {N kd : Nat} {P : Nat → Bool} (hk : kd ≤ 40) (h : ∀ d, N.testBit d = (decide (d < kd) && P d)) : cn N.testBit 40 = cn P kd := by
  rw [show (40 : Nat) = kd + (40 - kd) by omega, cn_add, cn_z (40 - kd) (fun i _ => by rw [h, decide_eq_false (by omega)]; rfl), Nat.add_zero]
  exact cn_ext kd (fun i hi => by rw [h, decide_eq_true hi]; rfl)
theorem bits_0 {N kd : Nat} {P : Nat → Bool} (h : ∀ d, N.testBit d = (decide (d < kd) && P d)) : N = 0 ↔ cn P kd = 0 := by
  constructor
  · intro e
    apply cn_z
    intro i hi
    have := h i
    rw [e, Nat.zero_testBit, decide_eq_true hi] at this
    simpa using this.symm
  · intro e
    apply tb_ext
    intro i
    rw [h, Nat.zero_testBit]
    by_cases c : i < kd
    · rw [cn_0 kd e i c]; simp
    · rw [decide_eq_false c]; rfl
theorem iG_ext {kd kn km km' : Nat} {σ σ' ν ν' α : Nat → Nat} {num : Nat → Int32} {ids : Nat → Int64} {sg segs : Nat → Int32} (hk : km ≤ km') (hσ : ∀ a, a < km → σ a = σ' a ∧ ν a = ν' a) (H : iG kd kn km σ ν α num ids sg segs) : iG kd kn km' σ' ν' α num ids sg segs := by
  obtain ⟨h1, h2, h3, h4, h5⟩ := H
  refine ⟨h1, ?_, h3, ?_, h5⟩
  · intro i hi
    obtain ⟨a1, a2, a3, a4, a5⟩ := h2 i hi
    rw [← (hσ _ a1).1, ← (hσ _ a1).2]
    exact ⟨by omega, a2, a3, a4, a5⟩
  · intro d hd hs
    obtain ⟨i, i1, i2⟩ := h4 d hd hs
    exact ⟨i, i1, by rw [← (hσ _ (h2 i i1).1).1]; exact i2⟩
def un (f : Nat → Nat) (k v : Nat) : Nat → Nat := fun i => if i = k then v else f i
theorem un_eq {f : Nat → Nat} {k v : Nat} : un f k v k = v := if_pos rfl
theorem un_ne {f : Nat → Nat} {k v i : Nat} (h : i ≠ k) : un f k v i = f i := if_neg h
theorem iS_new {kd km ser x : Nat} {σ ν : Nat → Nat} (H : iS kd km ser σ ν) (hx : x < 2 ^ 40) (hb : ∀ d, x.testBit d = true → d < kd) : iS kd (km + 1) (ser + 1) (un σ km ser) (un ν km x) := by
  obtain ⟨h1, h2, h3⟩ := H
  refine ⟨?_, ?_, ?_⟩
  · intro a b hab hb
    by_cases c : b = km
    · subst c; rw [un_eq, un_ne (by omega)]; exact h2 a hab
    · rw [un_ne c, un_ne (by omega)]; exact h1 a b hab (by omega)
  · intro a ha
    by_cases c : a = km
    · subst c; rw [un_eq]; omega
    · rw [un_ne c]; have := h2 a (by omega); omega
  · intro a ha
    by_cases c : a = km
    · subst c; rw [un_eq]; exact ⟨hx, hb⟩
    · rw [un_ne c]; exact h3 a (by omega)
theorem L_ne {f : Nat → Int64} {k j : Nat} {x : Int64} (h : j ≠ k) : vp_updL f k x j = f j := if_neg h
theorem L_eq {f : Nat → Int64} {k : Nat} {x : Int64} : vp_updL f k x k = x := if_pos rfl
theorem iG_flush {kd kn km ser : Nat} {σ ν α : Nat → Nat} {num : Nat → Int32} {ids : Nat → Int64} {sg segs : Nat → Int32} {buf : Int64} {B : Nat} (hser : ser < 2 ^ 30) (hs : iS kd km ser σ ν) (hkn : kn < 6) (hb : buf = lN B) (hB : ∀ d, B.testBit d = (decide (d < kd) && decide (sg d = -1))) (hbo : ∀ d d', d < d' → d' < kd → sg d = -1 → sg d' < 0) (H : iG kd kn km σ ν α num ids sg segs) {sg' : Nat → Int32} (hsg : ∀ d, sg' d = if d < kd ∧ decide (sg d = -1) = true then nI ser else sg d) :
    iG kd (kn + 1) (km + 1) (un σ km ser) (un ν km B) (un α kn km) (upd num kn (nI km)) (vp_updL ids kn buf) sg' (upd segs kn (nI ser)) ∧ (∀ d, d < kd → ¬ sg' d = -1) := by
  obtain ⟨h1, h2, h3, h4, h5⟩ := H
  have hp : ∀ d, d < kd → sg d = -1 → sg' d = nI ser := fun d hd e => by rw [hsg, if_pos ⟨hd, decide_eq_true e⟩]
  have hq : ∀ d, ¬ sg d = -1 → sg' d = sg d := fun d e => by rw [hsg, if_neg (fun z => e (of_decide_eq_true z.2))]
  have hq2 : ∀ d, ¬ d < kd → sg' d = sg d := fun d e => by rw [hsg, if_neg (fun z => e z.1)]
  have hlt : ∀ i, i < kn → α i < km ∧ σ (α i) < ser := fun i hi => ⟨(h2 i hi).1, hs.2.1 _ (h2 i hi).1⟩
  have hns : ∀ d, d < kd → ¬ sg d = nI ser := by
    intro d hd e
    obtain ⟨i, i1, i2⟩ := h4 d hd (by rw [e]; exact nI_pos (by omega))
    have := hlt i i1
    have := nIq (by omega) (by omega) (e.symm.trans i2)
    omega
  refine ⟨⟨by omega, ?_, ?_, ?_, ?_⟩, ?_⟩
  · intro i hi
    by_cases c : i = kn
    · subst c
      rw [un_eq, u_eq, u_eq, un_eq, L_eq, un_eq]
      refine ⟨by omega, rfl, rfl, hb, ?_⟩
      intro d
      rw [hB]
      by_cases d1 : d < kd
      · rw [decide_eq_true d1]
        by_cases d2 : sg d = -1
        · rw [hp d d1 d2, d2]; simp
        · rw [hq d d2, decide_eq_false d2, decide_eq_false (hns d d1)]
      · rw [decide_eq_false d1]; rfl
    · obtain ⟨a1, a2, a3, a4, a5⟩ := h2 i (by omega)
      have hl := hlt i (by omega)
      rw [un_ne c, u_ne c, u_ne c, L_ne c, un_ne (by omega), un_ne (by omega)]
      refine ⟨by omega, a2, a3, a4, ?_⟩
      intro d
      rw [a5]
      by_cases d1 : d < kd
      · by_cases d2 : sg d = -1
        · rw [hp d d1 d2, d2, decide_eq_false (nn_ne (x := σ (α i)) (by omega) (by decide)), decide_eq_false (show ¬ nI ser = nI (σ (α i)) from fun z => by have := nIq (by omega) (by omega) z; omega)]
        · rw [hq d d2]
      · rw [decide_eq_false d1]; rfl
  · intro i j hij hj
    by_cases c : j = kn
    · subst c; rw [un_eq, un_ne (by omega)]; exact (h2 i (by omega)).1
    · rw [un_ne c, un_ne (by omega)]; exact h3 i j hij (by omega)
  · intro d hd hsd
    by_cases d2 : sg d = -1
    · exact ⟨kn, by omega, by rw [un_eq, un_eq]; exact hp d hd d2⟩
    · rw [hq d d2] at hsd ⊢
      obtain ⟨i, i1, i2⟩ := h4 d hd hsd
      have hl := hlt i i1
      exact ⟨i, by omega, by rw [un_ne (show i ≠ kn by omega), un_ne (by omega)]; exact i2⟩
  · intro d d' hd hd' hs' hs0
    by_cases d2 : sg d = -1
    · have := hbo d d' hd hd' d2
      by_cases d3 : sg d' = -1
      · rw [hp d (by omega) d2, hp d' hd' d3]; rw [Int32.le_iff_toInt_le]; omega
      · rw [hq d' d3] at hs'; exact absurd this hs'
    · rw [hq d d2] at hs0 ⊢
      by_cases d3 : sg d' = -1
      · obtain ⟨i, i1, i2⟩ := h4 d (by omega) hs0
        have hl := hlt i i1
        rw [hp d' hd' d3, i2]
        exact nI_le (by omega) (by omega)
      · rw [hq d' d3] at hs' ⊢
        exact h5 d d' hd hd' hs' hs0
  · intro d hd e
    by_cases d2 : sg d = -1
    · rw [hp d hd d2] at e
      exact nn_ne (x := ser) (by omega) (y := -1) (by decide) e.symm
    · rw [hq d d2] at e; exact d2 e
theorem rbF_un {al dn g : Nat → Int32} {ν : Nat → Nat} {km x a u : Nat} (ha : a < km) : rbF al dn g ν a u = rbF al dn g (un ν km x) a u := rbF_ext (by rw [un_ne (by omega)]) rfl (fun _ _ => ⟨rfl, rfl⟩)
section
variable {t : Nat} {S : vs_S} {kd kn ks km ser kq kh kf c : Nat} {σ ν α β o : Nat → Nat}
theorem IV.cnB (h : IV t S kd kn ks km ser kq kh kf c σ ν α β o) : bcR (S.2.2.2.2.2 0 6) = nI (cn (isB S) kd) ∧ (S.2.2.2.2.2 0 6 = 0 ↔ cn (isB S) kd = 0) := by
  obtain ⟨⟨B, b1, b2, b3⟩, _⟩ := h.nb
  have hk := h.zd.2.2
  rw [b2, bcR_n b1, cn_bits (P := isB S) hk b3, lN_0 b1, bits_0 (P := isB S) b3]
  exact ⟨rfl, Iff.rfl⟩
theorem IV.flush0 (h : IV t S kd kn ks km ser kq kh kf c σ ν α β o) (h0 : S.2.2.2.2.2 0 6 = 0) (G : Nat → Int64) : IV t (mTh (vs_uL (vs_ul S 0 6 0) 63 G) 0) kd kn ks km ser kq kh kf c σ ν α β o := by
  have hb := h.nb
  rw [h0] at hb
  exact ⟨h.zd, h.zn, h.zs, h.zm, h.zt, h.zq, h.zh, h.zf, h.zc, h.rn, h.rs, h.dc, h.db, h.dv, h.du, h.sg, h.nw, h.nv, hb, h.sn, h.sv, h.qy, h.od, h.ht, h.fl⟩
theorem IV.flush1 (h : IV t S kd kn ks km ser kq kh kf c σ ν α β o) (ht : t ≤ 512) (hkn : kn < 6) (G : Nat → Int64) : ∃ σ' ν' α', IV (t + 1) (mflS (vs_uL (vs_ul (xApp S kn (S.2.2.2.2.2 0 6)) 0 6 0) 63 G) kn kd) kd (kn + 1) ks (km + 1) (ser + 1) kq kh kf c σ' ν' α' β o := by
  obtain ⟨⟨B, b1, b2, b3⟩, b4⟩ := h.nb
  obtain ⟨z1, z2, z3⟩ := h.zt
  have hbk : ∀ d, B.testBit d = true → d < kd := fun d hd => by rw [b3, Bool.and_eq_true, decide_eq_true_eq] at hd; exact hd.1
  have s1 := iS_new h.sg b1 hbk
  obtain ⟨g1, g2⟩ := iG_flush (by omega) h.sg hkn b2 b3 b4 h.nw (sg' := chg (isB S) (fun _ => nI ser) (S.1 47) kd) (fun d => rfl)
  have g3 := iG_ext (km' := km + 1) (σ' := un σ km ser) (ν' := un ν km B) (by omega) (fun a ha => ⟨(un_ne (by omega)).symm, (un_ne (by omega)).symm⟩) h.sn
  have f1 := FR_ext (σ' := un σ km ser) (rb' := rbF (S.1 4) (S.1 5) (S.1 39) (un ν km B)) (km' := km + 1) (by omega) (fun a ha => (un_ne (by omega)).symm) (fun a u ha _ => rbF_un ha) h.fl
  have hb : iB kd 0 (chg (isB S) (fun _ => nI ser) (S.1 47) kd) := by
    refine ⟨⟨0, by decide, rfl, ?_⟩, fun d d' hd hd' e => absurd e (g2 d (by omega))⟩
    intro d
    rw [Nat.zero_testBit]
    by_cases d1 : d < kd
    · rw [decide_eq_false (g2 d d1)]; simp
    · rw [decide_eq_false d1]; rfl
  have e1 : S.2.2.2.2.1 24 2 + 1 = nI (kn + 1) := by rw [h.zn.1, nI_succ]
  have e2 : S.2.2.2.2.1 0 7 + 1 = nI (km + 1) := by rw [h.zm.1, nI_succ]
  have e3 : S.2.2.2.2.1 35 30 + 1 = nI (ser + 1) := by rw [h.zm.2, nI_succ]
  rw [← h.zm.2] at g1 hb
  rw [← h.zm.1] at g1
  exact ⟨_, _, _, ⟨h.zd, ⟨e1, rfl⟩, h.zs, ⟨e2, e3⟩, ⟨by omega, by omega, by omega⟩, h.zq, h.zh, h.zf, h.zc, h.rn, h.rs, h.dc, h.db, h.dv, h.du, s1, g1, h.nv, hb, g3, h.sv, h.qy, h.od, h.ht, f1⟩⟩
/- merge -/
theorem IV.mg (h : IV t S kd kn ks km ser kq kh kf c σ ν α β o) (ht : t ≤ 512) : ∃ W F, W < 2 ^ 40 ∧ F < 2 ^ 40 ∧ mgG S kn = lN W ∧ mgA S kn &&& (mgG S kn ^^^ (-1)) = lN F ∧ (∀ d, W.testBit d = (decide (d < kd) && wnt S d)) ∧ ∀ d, F.testBit d = (decide (d < kd) && lft S d) := by
  obtain ⟨h1, h2, h3, h4, h5⟩ := h.nw
  obtain ⟨⟨R, r1, r2, r3⟩, r4, r5⟩ := h.nv
  have hn : ∀ i, i < kn → S.2.1 26 i = lN (ν (α i)) ∧ ν (α i) < 2 ^ 40 := fun i hi => ⟨(h2 i hi).2.2.2.1, (h.sg.2.2 _ (h2 i hi).1).1⟩
  have hA : mgA S kn = lN (orN (fun i => ν (α i)) kn) := orl_n hn
  have hA2 : orN (fun i => ν (α i)) kn < 2 ^ 40 := orN_lt (fun i hi => (hn i hi).2)
  have hAb : ∀ d, (orN (fun i => ν (α i)) kn).testBit d = (decide (d < kd) && isI S d) := by
    intro d
    rw [Bool.eq_iff_iff, orN_tb, Bool.and_eq_true, decide_eq_true_eq]
    unfold isI
    rw [decide_eq_true_eq]
    constructor
    · rintro ⟨i, i1, i2⟩
      rw [(h2 i i1).2.2.2.2 d, Bool.and_eq_true, decide_eq_true_eq, decide_eq_true_eq] at i2
      refine ⟨i2.1, ?_⟩
      rw [i2.2]
      exact nI_pos (h.sb ht _ (h2 i i1).1)
    · rintro ⟨d1, d2⟩
      obtain ⟨i, i1, i2⟩ := h4 d d1 d2
      exact ⟨i, i1, by rw [(h2 i i1).2.2.2.2 d, i2]; simp [d1]⟩
  generalize orN (fun i => ν (α i)) kn = A at hA hA2 hAb
  have hG : mgG S kn = lN (A &&& R) := by unfold mgG; rw [hA, r2, wb_and (by omega) (by omega)]
  have hW : A &&& R < 2 ^ 40 := Nat.lt_of_le_of_lt Nat.and_le_left hA2
  have hWb : ∀ d, (A &&& R).testBit d = (decide (d < kd) && wnt S d) := by
    intro d
    rw [Nat.testBit_and, hAb, r3]
    unfold wnt
    cases decide (d < kd) <;> cases isI S d <;> rfl
  refine ⟨A &&& R, an A (A &&& R), hW, an_lt hA2, hG, ?_, hWb, ?_⟩
  · rw [hG, hA, lN_an (by omega) (by omega)]
  · intro d
    rw [an_tb, hWb, hAb]
    unfold wnt lft
    by_cases z : S.1 49 d = 0
    · rw [decide_eq_true z, decide_eq_false (show ¬ ¬ S.1 49 d = 0 from fun q => q z)]
      cases decide (d < kd) <;> cases isI S d <;> rfl
    · rw [decide_eq_false z, decide_eq_true z]
      cases decide (d < kd) <;> cases isI S d <;> rfl
theorem mg_sg (ser : Nat) (hser : ser < 2 ^ 30) (S : vs_S) (h30 : S.2.2.2.2.1 35 30 = nI ser) {sg' : Nat → Int32} (hs : sg' = chg (isI S) (mgV S) (S.1 47) kd) (d : Nat) (hd : d < kd) :
    (lft S d = true ∧ sg' d = nI ser) ∨ (lft S d = false ∧ sg' d < 0 ∧ (sg' d = -1 ↔ S.1 47 d = -1)) := by
  subst hs
  unfold chg lft mgV
  by_cases c1 : isI S d = true
  · rw [if_pos ⟨hd, c1⟩, c1]
    have hi : ¬ S.1 47 d < 0 := of_decide_eq_true c1
    by_cases c2 : S.1 49 d = 0
    · left; rw [if_pos c2, decide_eq_true c2]; exact ⟨rfl, h30⟩
    · right
      rw [if_neg c2, decide_eq_false c2]
      refine ⟨rfl, by decide, ?_⟩
      constructor
      · intro q; exact absurd q (by decide)
      · intro q; rw [q] at hi; exact absurd (by decide) hi
  · rw [if_neg (fun q => c1 q.2)]
    right
    have hi : S.1 47 d < 0 := by
      apply Classical.byContradiction
      intro q; exact c1 (decide_eq_true q)
    refine ⟨?_, hi, Iff.rfl⟩
    rw [show isI S d = false by simpa using c1]; rfl
theorem mg_B {buf : Int64} {sg sg' : Nat → Int32} (H : iB kd buf sg) (h : ∀ d, d < kd → (sg' d = -1 ↔ sg d = -1)) (h2 : ∀ d, d < kd → sg d < 0 → sg' d < 0) : iB kd buf sg' := by
  obtain ⟨⟨B, b1, b2, b3⟩, b4⟩ := H
  refine ⟨⟨B, b1, b2, ?_⟩, ?_⟩
  · intro d
    rw [b3]
    by_cases d1 : d < kd
    · congr 1
      exact decide_eq_decide.mpr (h d d1).symm
    · rw [decide_eq_false d1]; rfl
  · intro d d' hd hd' e
    exact h2 d' hd' (b4 d d' hd hd' ((h d (by omega)).mp e))
theorem IV.merge1 (h : IV t S kd kn ks km ser kq kh kf c σ ν α β o) (ht : t ≤ 512) : ∃ kn' km' σ' ν' α', IV (t + 1) (mmgS (mgT S (mgA S kn &&& (mgG S kn ^^^ (-1)))) kd) kd kn' ks km' (ser + 1) kq kh kf c σ' ν' α' β o := by
  obtain ⟨W, F, w1, f1, w2, f2, w3, f3⟩ := h.mg ht
  obtain ⟨z1, z2, z3⟩ := h.zt
  have hc := mg_sg (kd := kd) ser (by omega) S h.zm.2 rfl
  have e3 : S.2.2.2.2.1 35 30 + 1 = nI (ser + 1) := by rw [h.zm.2, nI_succ]
  have hB : iB kd (S.2.2.2.2.2 0 6) (chg (isI S) (mgV S) (S.1 47) kd) := by
    refine mg_B h.nb (fun d hd => ?_) (fun d hd hn => ?_)
    · rcases hc d hd with ⟨q1, q2⟩ | ⟨_, _, q3⟩
      · constructor
        · intro q; rw [q2] at q; exact absurd q.symm (nn_ne (x := ser) (by omega) (by decide))
        · intro q
          unfold lft isI at q1
          rw [q] at q1
          exact absurd q1 (by simp)
      · exact q3
    · rcases hc d hd with ⟨q1, q2⟩ | ⟨_, q3, _⟩
      · unfold lft isI at q1
        rw [Bool.and_eq_true, decide_eq_true_eq] at q1
        exact absurd hn q1.1
      · exact q3
  rw [f2]
  unfold mgT
  by_cases hF : F = 0
  · have hz : cn (lft S) kd = 0 := (bits_0 f3).mp hF
    have hno : ∀ d, d < kd → (chg (isI S) (mgV S) (S.1 47) kd) d < 0 := by
      intro d hd
      rcases hc d hd with ⟨q1, _⟩ | ⟨_, q2, _⟩
      · rw [cn_0 kd hz d hd] at q1; cases q1
      · exact q2
    rw [if_pos ((lN_0 f1).mpr hF)]
    have s1 : iS kd km (ser + 1) σ ν := ⟨h.sg.1, fun a ha => by have := h.sg.2.1 a ha; omega, h.sg.2.2⟩
    have g1 : iG kd 0 km σ ν α (S.1 25) (S.2.1 26) (chg (isI S) (mgV S) (S.1 47) kd) (upd (S.1 51) 0 (S.2.2.2.2.1 35 30)) :=
      ⟨by omega, fun i hi => by omega, fun i j _ hj => by omega, fun d hd q => absurd (hno d hd) q, fun d d' _ hd' q => absurd (hno d' hd') q⟩
    have e4 : (if cn (lft S) kd = 0 then (0 : Int32) else 1) = nI 0 := by rw [if_pos hz]; rfl
    exact ⟨_, _, _, _, _, ⟨h.zd, ⟨rfl, e4⟩, h.zs, ⟨h.zm.1, e3⟩, ⟨by omega, by omega, by omega⟩, h.zq, h.zh, h.zf, h.zc, h.rn, h.rs, h.dc, h.db, h.dv, h.du, s1, g1, h.nv, hB, h.sn, h.sv, h.qy, h.od, h.ht, h.fl⟩⟩
  · have hz : ¬ cn (lft S) kd = 0 := fun q => hF ((bits_0 f3).mpr q)
    rw [if_neg (fun q => hF ((lN_0 f1).mp q))]
    have s1 := iS_new h.sg f1 (fun d hd => by rw [f3, Bool.and_eq_true, decide_eq_true_eq] at hd; exact hd.1)
    have hge : ∀ d, d < kd → ¬ (chg (isI S) (mgV S) (S.1 47) kd) d < 0 → (chg (isI S) (mgV S) (S.1 47) kd) d = nI ser := by
      intro d hd q
      rcases hc d hd with ⟨_, q2⟩ | ⟨_, q2, _⟩
      · exact q2
      · exact absurd q2 q
    have g1 : iG kd 1 (km + 1) (un σ km ser) (un ν km F) (un α 0 km) (upd (S.1 25) 0 (S.2.2.2.2.1 0 7)) (vp_updL (S.2.1 26) 0 (lN F)) (chg (isI S) (mgV S) (S.1 47) kd) (upd (S.1 51) 0 (S.2.2.2.2.1 35 30)) := by
      refine ⟨by omega, ?_, fun i j _ hj => by omega, ?_, ?_⟩
      · intro i hi
        have : i = 0 := by omega
        subst this
        rw [un_eq, u_eq, u_eq, un_eq, L_eq, un_eq]
        refine ⟨by omega, h.zm.1, h.zm.2, rfl, ?_⟩
        intro d
        rw [f3]
        by_cases d1 : d < kd
        · congr 1
          rcases hc d d1 with ⟨q1, q2⟩ | ⟨q1, q2, _⟩
          · rw [q1, decide_eq_true q2]
          · rw [q1, decide_eq_false (nn_ne (x := ser) (by omega) q2)]
        · rw [decide_eq_false d1]; rfl
      · intro d hd q
        exact ⟨0, by omega, by rw [un_eq, un_eq]; exact hge d hd q⟩
      · intro d d' hd hd' q q'
        rw [hge d (by omega) q', hge d' hd' q]
        rw [Int32.le_iff_toInt_le]; omega
    have g3 := iG_ext (km' := km + 1) (σ' := un σ km ser) (ν' := un ν km F) (by omega) (fun a ha => ⟨(un_ne (by omega)).symm, (un_ne (by omega)).symm⟩) h.sn
    have fr := FR_ext (σ' := un σ km ser) (rb' := rbF (S.1 4) (S.1 5) (S.1 39) (un ν km F)) (km' := km + 1) (by omega) (fun a ha => (un_ne (by omega)).symm) (fun a u ha _ => rbF_un ha) h.fl
    have e2 : S.2.2.2.2.1 0 7 + 1 = nI (km + 1) := by rw [h.zm.1, nI_succ]
    have e4 : (if cn (lft S) kd = 0 then (0 : Int32) else 1) = nI 1 := by rw [if_neg hz]; rfl
    exact ⟨_, _, _, _, _, ⟨h.zd, ⟨rfl, e4⟩, h.zs, ⟨e2, e3⟩, ⟨by omega, by omega, by omega⟩, h.zq, h.zh, h.zf, h.zc, h.rn, h.rs, h.dc, h.db, h.dv, h.du, s1, g1, h.nv, hB, g3, h.sv, h.qy, h.od, h.ht, fr⟩⟩
end
