/- the segments of a search -/
theorem sgo_sgM {SX SM : vs_S} {o : Nat → Nat} {u kq kd M ks L km c : Nat} {σ ν β : Nat → Nat} {rb : Nat → Nat → Nat} (H : PH SX SM o u kq 8 kd M) (hu : u < 8)
    (hseg : ∀ i, i < ks → β i < km ∧ SX.1 33 i = nI (β i) ∧ SX.2.1 34 i = lN (ν (β i)) ∧ SM.1 52 i = nI (σ (β i)) ∧ ν (β i) < 2 ^ 40 ∧ ∀ d, (ν (β i)).testBit d = (decide (d < kd) && decide (SM.1 48 d = nI (σ (β i)))))
    (hord : ∀ i j, i < j → j < ks → ∀ d d', (ν (β i)).testBit d = true → (ν (β j)).testBit d' = true → d < d')
    (hL : ∀ i, i < ks → ∀ d, (ν (β i)).testBit d = true → L.testBit d = decide (SM.1 50 d = 0))
    (hrb : ∀ i, i < ks → rb (β i) u < 2 ^ 40 ∧ (∀ d, d < kd → (rb (β i) u).testBit d = ((ν (β i)).testBit d && mr SM d (mTok SM u 8))) ∧ rd SX (lN (ν (β i))) (xTok SX (nI u)) kd = lN (rb (β i) u))
    (hσ : sOK σ km) (hc : c + ks < 2 ^ 30) (f0 : ft) (g0 : fm) (F0 : FR σ rb km c f0 g0) (h0 h0' : hp) (hz : h0.2.2 = 0) (hz' : h0'.2.2 = 0) (x0 : Int32 × Int32) :
    ∀ i, i ≤ ks → FR σ rb km (c + i) (sgo SX u kd kq M L (fun i => ν (β i)) (f0, h0, x0) i).1 (sgM SM o u kq 8 kd M (g0, h0', x0) i).1 ∧ hr (sgo SX u kd kq M L (fun i => ν (β i)) (f0, h0, x0) i).2.1 (sgM SM o u kq 8 kd M (g0, h0', x0) i).2.1 ∧ (sgo SX u kd kq M L (fun i => ν (β i)) (f0, h0, x0) i).2.2 = (sgM SM o u kq 8 kd M (g0, h0', x0) i).2.2 ∧ ∃ b, HI (sgo SX u kd kq M L (fun i => ν (β i)) (f0, h0, x0) i).2.1 b M ∧ ∀ j, i ≤ j → j < ks → ∀ d, (ν (β j)).testBit d = true → b ≤ d
  | 0, _ => by
    refine ⟨F0, ⟨?_, ?_⟩, rfl, 0, ⟨?_, ?_⟩, fun j _ _ d _ => Nat.zero_le _⟩
    · show h0.2.2 = h0'.2.2; rw [hz, hz']
    · intro j hj; have : j < h0.2.2 := hj; omega
    · show h0.2.2 ≤ M; omega
    · intro j hj; have : j < h0.2.2 := hj; omega
  | i + 1, hi => by
    obtain ⟨a1, a2, a3, b, a4, a5⟩ := sgo_sgM H hu hseg hord hL hrb hσ hc f0 g0 F0 h0 h0' hz hz' x0 i (by omega)
    obtain ⟨s1, s2, s3, s4, s5, s6⟩ := hseg i (by omega)
    obtain ⟨r1, r2, r3⟩ := hrb i (by omega)
    rw [sgo, sgM]
    generalize sgo SX u kd kq M L (fun i => ν (β i)) (f0, h0, x0) i = Y at a1 a2 a3 a4
    generalize sgM SM o u kq 8 kd M (g0, h0', x0) i = Y' at a1 a2 a3
    rw [s2, s3, s4]
    obtain ⟨w1, w2⟩ := fuse_eq a1 hσ (by omega) s1 hu SX kd (lN (ν (β i))) r3
    rw [w1, wb_tn (by omega)]
    have hk := H.hk
    obtain ⟨b', p1, p2, p3, p4, p5⟩ := pass_eq H (nI (σ (β i))) (rb (β i) u &&& L) (ν (β i)) s5 (by
      apply asc_ext (ls_asc _) (el_asc _ _ _)
      intro d
      rw [ls_mem s5, el_mem, s6, Bool.and_eq_true, decide_eq_true_eq]
      constructor
      · rintro ⟨q1, q2⟩; exact ⟨⟨Nat.zero_le _, by omega⟩, q2⟩
      · rintro ⟨⟨_, q1⟩, q2⟩; exact ⟨by omega, q2⟩) (by
      intro d d1 d2
      have hb : (ν (β i)).testBit d = true := by rw [s6, decide_eq_true d1]; exact d2
      rw [Nat.testBit_and, r2 d d1, hb, hL i (by omega) d hb, Bool.true_and, Bool.and_comm]) b Y.2 Y'.2 (a5 i (Nat.le_refl _) (by omega)) a4 a2 a3
    refine ⟨w2, p3, p4, b', p5, ?_⟩
    intro j j1 j2 d hd
    rcases p2 with p2 | p2
    · rw [p2]; exact a5 j (by omega) j2 d hd
    · have := hord i j (by omega) j2 _ _ p2 hd; omega
/- what the two states keep -/
def iR (g l c g' l' c' : Nat → Int32) : Prop := (∀ i, i < 16 → g i = g' i) ∧ (∀ i, i < 3 → l i = l' i) ∧ (∀ i, i < 8 → c i = c' i) ∧ gok g'
def setR (al dn al' dn' pa : Nat → Int32) (d : Nat) : Prop := (pa d = -1 ∧ dn d = dn' d ∧ al d = al' d) ∨ (∃ q, q < d ∧ pa d = nI q ∧ dn d = dn' d ||| dn q ∧ al d = if al' d = 0 then al q else al' d)
def iC (w B kd : Nat) (cx cm : Nat → Int32) : Prop := (∀ q, q < w * kd → cx q = cm q) ∧ (∀ j, j < w → cx (w * kd + j) = cm (B + j)) ∧ ∀ q, w * kd + w ≤ q → cx q = 0
def iU (kd : Nat) (ax dx am dm pm : Nat → Int32) : Prop := (∀ d, d < kd → setR ax dx am dm pm d) ∧ (ax kd = am 40 ∧ dx kd = dm 40) ∧ ∀ d, kd < d → ax d = 0 ∧ dx d = 0
def iG (kd kn km : Nat) (σ ν α : Nat → Nat) (num : Nat → Int32) (ids : Nat → Int64) (sg segs : Nat → Int32) : Prop :=
  kn ≤ 6 ∧ (∀ i, i < kn → α i < km ∧ num i = nI (α i) ∧ segs i = nI (σ (α i)) ∧ ids i = lN (ν (α i)) ∧ ∀ d, (ν (α i)).testBit d = (decide (d < kd) && decide (sg d = nI (σ (α i))))) ∧
  (∀ i j, i < j → j < kn → α i < α j) ∧ (∀ d, d < kd → ¬ sg d < 0 → ∃ i, i < kn ∧ sg d = nI (σ (α i))) ∧
  ∀ d d', d < d' → d' < kd → ¬ sg d' < 0 → ¬ sg d < 0 → sg d ≤ sg d'
def iV (kd : Nat) (rmv : Int64) (rm : Nat → Int32) : Prop := (∃ R, R < 2 ^ 40 ∧ rmv = lN R ∧ ∀ d, R.testBit d = (decide (d < kd) && decide (¬ rm d = 0))) ∧ (∀ d, rm d = 0 ∨ rm d = 1) ∧ ∀ d, kd ≤ d → rm d = 0
def iB (kd : Nat) (buf : Int64) (sg : Nat → Int32) : Prop := (∃ B, B < 2 ^ 40 ∧ buf = lN B ∧ ∀ d, B.testBit d = (decide (d < kd) && decide (sg d = -1))) ∧ ∀ d d', d < d' → d' < kd → sg d = -1 → sg d' < 0
def iH (kh : Nat) (hx : Nat → Int32) (sx : Nat → UInt32) (hm : Nat → Int32) (sm : Nat → UInt32) : Prop := kh ≤ 8 ∧ ∀ j, j < kh → hx j = hm j ∧ sx j = sm j ∧ vf_n32 (sx j)
def iS (kd km ser : Nat) (σ ν : Nat → Nat) : Prop := (∀ a b, a < b → b < km → σ a < σ b) ∧ (∀ a, a < km → σ a < ser) ∧ ∀ a, a < km → ν a < 2 ^ 40 ∧ ∀ d, (ν a).testBit d = true → d < kd
def mrB (al dn : Nat → Int32) (d : Nat) (tok : Int32) : Bool := decide (dn d &&& tok = 0) && decide (¬ al d &&& tok = 0)
def rbF (al dn g : Nat → Int32) (ν : Nat → Nat) (a u : Nat) : Nat := bo (fun d => (ν a).testBit d && mrB al dn d (tkm g (1 <<< (nI u &&& 31)) 8)) 40
def fX (S : vs_S) (kf : Nat) : ft := (S.1 7, S.1 8, S.2.1 9, kf, S.2.2.2.2.1 6 4, S.2.2.2.2.1 6 5)
def fM (S : vs_S) (kf : Nat) : fm := (S.1 60, S.1 61, S.1 62, kf, S.2.2.2.2.1 35 36, S.2.2.2.2.1 35 37, S.2.2.2.2.1 35 38)
abbrev IV (t : Nat) (S : vs_S) (kd kn ks km ser kq kh kf c : Nat) (σ ν α β o : Nat → Nat) : Prop := (S.2.2.2.2.1 1 4 = nI kd ∧ S.2.2.2.2.1 35 27 = nI kd ∧ kd ≤ 40) ∧ (S.2.2.2.2.1 24 2 = nI kn ∧ S.2.2.2.2.1 35 28 = nI kn) ∧ (S.2.2.2.2.1 32 2 = nI ks ∧ S.2.2.2.2.1 35 29 = nI ks) ∧ (S.2.2.2.2.1 0 7 = nI km ∧ S.2.2.2.2.1 35 30 = nI ser) ∧ (km ≤ t ∧ ser ≤ t ∧ c ≤ 6 * t) ∧ (S.2.2.2.2.1 10 6 = nI kq ∧ S.2.2.2.2.1 35 31 = nI kq) ∧ (S.2.2.2.2.1 16 2 = nI kh ∧ S.2.2.2.2.1 35 32 = nI kh) ∧ (S.2.2.2.2.1 6 3 = nI kf ∧ S.2.2.2.2.1 35 35 = nI kf) ∧ (S.2.2.2.2.1 0 8 = S.2.2.2.2.1 35 33 ∧ S.2.2.2.2.1 0 9 = S.2.2.2.2.1 35 34) ∧ (iR (S.1 21) (S.1 22) (S.1 23) (S.1 36) (S.1 37) (S.1 38)) ∧ (iR (S.1 29) (S.1 30) (S.1 31) (S.1 39) (S.1 40) (S.1 41)) ∧ (iC 24 960 kd (S.1 2) (S.1 43)) ∧ ((∀ q, 0 ≤ S.1 2 q ∧ S.1 2 q ≤ 255) ∧ ∀ q, 0 ≤ S.1 43 q ∧ S.1 43 q ≤ 255) ∧ (iC 3 120 kd (S.1 3) (S.1 42)) ∧ (iU kd (S.1 4) (S.1 5) (S.1 44) (S.1 45) (S.1 46)) ∧ (iS kd km ser σ ν) ∧ (iG kd kn km σ ν α (S.1 25) (S.2.1 26) (S.1 47) (S.1 51)) ∧ (iV kd (S.2.2.2.2.2 19 2) (S.1 49)) ∧ (iB kd (S.2.2.2.2.2 0 6) (S.1 47)) ∧ (iG kd ks km σ ν β (S.1 33) (S.2.1 34) (S.1 48) (S.1 52)) ∧ (iV kd (S.2.2.2.2.2 27 2) (S.1 50)) ∧ (iQ kq (S.1 11) (S.1 12) (S.1 13) (S.2.2.1 14) (S.1 53) (S.1 54) (S.1 55) (S.2.2.2.1 58)) ∧ ((S.1 56 = fun i => nI (o i)) ∧ ∀ q, o q < 6) ∧ (iH kh (S.1 17) (S.2.2.1 18) (S.1 57) (S.2.2.1 59)) ∧ (FR σ (rbF (S.1 4) (S.1 5) (S.1 39) ν) km c (fX S kf) (fM S kf))
theorem IV.zd {t : Nat} {S : vs_S} {kd kn ks km ser kq kh kf c : Nat} {σ ν α β o : Nat → Nat} (h : IV t S kd kn ks km ser kq kh kf c σ ν α β o) : S.2.2.2.2.1 1 4 = nI kd ∧ S.2.2.2.2.1 35 27 = nI kd ∧ kd ≤ 40 := h.1
theorem IV.zn {t : Nat} {S : vs_S} {kd kn ks km ser kq kh kf c : Nat} {σ ν α β o : Nat → Nat} (h : IV t S kd kn ks km ser kq kh kf c σ ν α β o) : S.2.2.2.2.1 24 2 = nI kn ∧ S.2.2.2.2.1 35 28 = nI kn := h.2.1
theorem IV.zs {t : Nat} {S : vs_S} {kd kn ks km ser kq kh kf c : Nat} {σ ν α β o : Nat → Nat} (h : IV t S kd kn ks km ser kq kh kf c σ ν α β o) : S.2.2.2.2.1 32 2 = nI ks ∧ S.2.2.2.2.1 35 29 = nI ks := h.2.2.1
theorem IV.zm {t : Nat} {S : vs_S} {kd kn ks km ser kq kh kf c : Nat} {σ ν α β o : Nat → Nat} (h : IV t S kd kn ks km ser kq kh kf c σ ν α β o) : S.2.2.2.2.1 0 7 = nI km ∧ S.2.2.2.2.1 35 30 = nI ser := h.2.2.2.1
theorem IV.zt {t : Nat} {S : vs_S} {kd kn ks km ser kq kh kf c : Nat} {σ ν α β o : Nat → Nat} (h : IV t S kd kn ks km ser kq kh kf c σ ν α β o) : km ≤ t ∧ ser ≤ t ∧ c ≤ 6 * t := h.2.2.2.2.1
theorem IV.zq {t : Nat} {S : vs_S} {kd kn ks km ser kq kh kf c : Nat} {σ ν α β o : Nat → Nat} (h : IV t S kd kn ks km ser kq kh kf c σ ν α β o) : S.2.2.2.2.1 10 6 = nI kq ∧ S.2.2.2.2.1 35 31 = nI kq := h.2.2.2.2.2.1
theorem IV.zh {t : Nat} {S : vs_S} {kd kn ks km ser kq kh kf c : Nat} {σ ν α β o : Nat → Nat} (h : IV t S kd kn ks km ser kq kh kf c σ ν α β o) : S.2.2.2.2.1 16 2 = nI kh ∧ S.2.2.2.2.1 35 32 = nI kh := h.2.2.2.2.2.2.1
theorem IV.zf {t : Nat} {S : vs_S} {kd kn ks km ser kq kh kf c : Nat} {σ ν α β o : Nat → Nat} (h : IV t S kd kn ks km ser kq kh kf c σ ν α β o) : S.2.2.2.2.1 6 3 = nI kf ∧ S.2.2.2.2.1 35 35 = nI kf := h.2.2.2.2.2.2.2.1
theorem IV.zc {t : Nat} {S : vs_S} {kd kn ks km ser kq kh kf c : Nat} {σ ν α β o : Nat → Nat} (h : IV t S kd kn ks km ser kq kh kf c σ ν α β o) : S.2.2.2.2.1 0 8 = S.2.2.2.2.1 35 33 ∧ S.2.2.2.2.1 0 9 = S.2.2.2.2.1 35 34 := h.2.2.2.2.2.2.2.2.1
theorem IV.rn {t : Nat} {S : vs_S} {kd kn ks km ser kq kh kf c : Nat} {σ ν α β o : Nat → Nat} (h : IV t S kd kn ks km ser kq kh kf c σ ν α β o) : iR (S.1 21) (S.1 22) (S.1 23) (S.1 36) (S.1 37) (S.1 38) := h.2.2.2.2.2.2.2.2.2.1
theorem IV.rs {t : Nat} {S : vs_S} {kd kn ks km ser kq kh kf c : Nat} {σ ν α β o : Nat → Nat} (h : IV t S kd kn ks km ser kq kh kf c σ ν α β o) : iR (S.1 29) (S.1 30) (S.1 31) (S.1 39) (S.1 40) (S.1 41) := h.2.2.2.2.2.2.2.2.2.2.1
theorem IV.dc {t : Nat} {S : vs_S} {kd kn ks km ser kq kh kf c : Nat} {σ ν α β o : Nat → Nat} (h : IV t S kd kn ks km ser kq kh kf c σ ν α β o) : iC 24 960 kd (S.1 2) (S.1 43) := h.2.2.2.2.2.2.2.2.2.2.2.1
theorem IV.db {t : Nat} {S : vs_S} {kd kn ks km ser kq kh kf c : Nat} {σ ν α β o : Nat → Nat} (h : IV t S kd kn ks km ser kq kh kf c σ ν α β o) : (∀ q, 0 ≤ S.1 2 q ∧ S.1 2 q ≤ 255) ∧ ∀ q, 0 ≤ S.1 43 q ∧ S.1 43 q ≤ 255 := h.2.2.2.2.2.2.2.2.2.2.2.2.1
theorem IV.dv {t : Nat} {S : vs_S} {kd kn ks km ser kq kh kf c : Nat} {σ ν α β o : Nat → Nat} (h : IV t S kd kn ks km ser kq kh kf c σ ν α β o) : iC 3 120 kd (S.1 3) (S.1 42) := h.2.2.2.2.2.2.2.2.2.2.2.2.2.1
theorem IV.du {t : Nat} {S : vs_S} {kd kn ks km ser kq kh kf c : Nat} {σ ν α β o : Nat → Nat} (h : IV t S kd kn ks km ser kq kh kf c σ ν α β o) : iU kd (S.1 4) (S.1 5) (S.1 44) (S.1 45) (S.1 46) := h.2.2.2.2.2.2.2.2.2.2.2.2.2.2.1
theorem IV.sg {t : Nat} {S : vs_S} {kd kn ks km ser kq kh kf c : Nat} {σ ν α β o : Nat → Nat} (h : IV t S kd kn ks km ser kq kh kf c σ ν α β o) : iS kd km ser σ ν := h.2.2.2.2.2.2.2.2.2.2.2.2.2.2.2.1
theorem IV.nw {t : Nat} {S : vs_S} {kd kn ks km ser kq kh kf c : Nat} {σ ν α β o : Nat → Nat} (h : IV t S kd kn ks km ser kq kh kf c σ ν α β o) : iG kd kn km σ ν α (S.1 25) (S.2.1 26) (S.1 47) (S.1 51) := h.2.2.2.2.2.2.2.2.2.2.2.2.2.2.2.2.1
theorem IV.nv {t : Nat} {S : vs_S} {kd kn ks km ser kq kh kf c : Nat} {σ ν α β o : Nat → Nat} (h : IV t S kd kn ks km ser kq kh kf c σ ν α β o) : iV kd (S.2.2.2.2.2 19 2) (S.1 49) := h.2.2.2.2.2.2.2.2.2.2.2.2.2.2.2.2.2.1
theorem IV.nb {t : Nat} {S : vs_S} {kd kn ks km ser kq kh kf c : Nat} {σ ν α β o : Nat → Nat} (h : IV t S kd kn ks km ser kq kh kf c σ ν α β o) : iB kd (S.2.2.2.2.2 0 6) (S.1 47) := h.2.2.2.2.2.2.2.2.2.2.2.2.2.2.2.2.2.2.1
theorem IV.sn {t : Nat} {S : vs_S} {kd kn ks km ser kq kh kf c : Nat} {σ ν α β o : Nat → Nat} (h : IV t S kd kn ks km ser kq kh kf c σ ν α β o) : iG kd ks km σ ν β (S.1 33) (S.2.1 34) (S.1 48) (S.1 52) := h.2.2.2.2.2.2.2.2.2.2.2.2.2.2.2.2.2.2.2.1
theorem IV.sv {t : Nat} {S : vs_S} {kd kn ks km ser kq kh kf c : Nat} {σ ν α β o : Nat → Nat} (h : IV t S kd kn ks km ser kq kh kf c σ ν α β o) : iV kd (S.2.2.2.2.2 27 2) (S.1 50) := h.2.2.2.2.2.2.2.2.2.2.2.2.2.2.2.2.2.2.2.2.1
theorem IV.qy {t : Nat} {S : vs_S} {kd kn ks km ser kq kh kf c : Nat} {σ ν α β o : Nat → Nat} (h : IV t S kd kn ks km ser kq kh kf c σ ν α β o) : iQ kq (S.1 11) (S.1 12) (S.1 13) (S.2.2.1 14) (S.1 53) (S.1 54) (S.1 55) (S.2.2.2.1 58) := h.2.2.2.2.2.2.2.2.2.2.2.2.2.2.2.2.2.2.2.2.2.1
theorem IV.od {t : Nat} {S : vs_S} {kd kn ks km ser kq kh kf c : Nat} {σ ν α β o : Nat → Nat} (h : IV t S kd kn ks km ser kq kh kf c σ ν α β o) : (S.1 56 = fun i => nI (o i)) ∧ ∀ q, o q < 6 := h.2.2.2.2.2.2.2.2.2.2.2.2.2.2.2.2.2.2.2.2.2.2.1
theorem IV.ht {t : Nat} {S : vs_S} {kd kn ks km ser kq kh kf c : Nat} {σ ν α β o : Nat → Nat} (h : IV t S kd kn ks km ser kq kh kf c σ ν α β o) : iH kh (S.1 17) (S.2.2.1 18) (S.1 57) (S.2.2.1 59) := h.2.2.2.2.2.2.2.2.2.2.2.2.2.2.2.2.2.2.2.2.2.2.2.1
theorem IV.fl {t : Nat} {S : vs_S} {kd kn ks km ser kq kh kf c : Nat} {σ ν α β o : Nat → Nat} (h : IV t S kd kn ks km ser kq kh kf c σ ν α β o) : FR σ (rbF (S.1 4) (S.1 5) (S.1 39) ν) km c (fX S kf) (fM S kf) := h.2.2.2.2.2.2.2.2.2.2.2.2.2.2.2.2.2.2.2.2.2.2.2.2
def Inv (t : Nat) (S : vs_S) : Prop := ∃ kd kn ks km ser kq kh kf c σ ν α β o, IV t S kd kn ks km ser kq kh kf c σ ν α β o
section
variable {t : Nat} {S : vs_S} {kd kn ks km ser kq kh kf c : Nat} {σ ν α β o : Nat → Nat}
theorem IV.step (h : IV t S kd kn ks km ser kq kh kf c σ ν α β o) : IV (t + 1) S kd kn ks km ser kq kh kf c σ ν α β o :=
  ⟨h.zd, h.zn, h.zs, h.zm, by obtain ⟨a, b, c⟩ := h.zt; exact ⟨by omega, by omega, by omega⟩, h.zq, h.zh, h.zf, h.zc, h.rn, h.rs, h.dc, h.db, h.dv, h.du, h.sg, h.nw, h.nv, h.nb, h.sn, h.sv, h.qy, h.od, h.ht, h.fl⟩
theorem IV.th (h : IV t S kd kn ks km ser kq kh kf c σ ν α β o) (k : Int32) : IV t (mTh S k) kd kn ks km ser kq kh kf c σ ν α β o :=
  ⟨h.zd, h.zn, h.zs, h.zm, h.zt, h.zq, h.zh, h.zf, h.zc, h.rn, h.rs, h.dc, h.db, h.dv, h.du, h.sg, h.nw, h.nv, h.nb, h.sn, h.sv, h.qy, h.od, h.ht, h.fl⟩
theorem IV.out (h : IV t S kd kn ks km ser kq kh kf c σ ν α β o) (g : Nat → Int64) : IV t (vs_uL S 63 g) kd kn ks km ser kq kh kf c σ ν α β o :=
  ⟨h.zd, h.zn, h.zs, h.zm, h.zt, h.zq, h.zh, h.zf, h.zc, h.rn, h.rs, h.dc, h.db, h.dv, h.du, h.sg, h.nw, h.nv, h.nb, h.sn, h.sv, h.qy, h.od, h.ht, h.fl⟩
theorem IV.outD (h : IV t S kd kn ks km ser kq kh kf c σ ν α β o) (g : Nat → UInt64) : IV t (vs_uD S 64 g) kd kn ks km ser kq kh kf c σ ν α β o :=
  ⟨h.zd, h.zn, h.zs, h.zm, h.zt, h.zq, h.zh, h.zf, h.zc, h.rn, h.rs, h.dc, h.db, h.dv, h.du, h.sg, h.nw, h.nv, h.nb, h.sn, h.sv, h.qy, h.od, h.ht, h.fl⟩
theorem IV.sok (h : IV t S kd kn ks km ser kq kh kf c σ ν α β o) (ht : t ≤ 512) : sOK σ km := by
  obtain ⟨z1, z2, _⟩ := h.zt
  obtain ⟨s1, s2, _⟩ := h.sg
  refine ⟨by omega, fun a ha => by have := s2 a ha; omega, ?_⟩
  intro a b ha hb e
  by_cases c1 : a < b
  · have := s1 a b c1 hb; omega
  · by_cases c2 : b < a
    · have := s1 b a c2 ha; omega
    · omega
end
