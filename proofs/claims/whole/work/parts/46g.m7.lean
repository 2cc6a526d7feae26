/- a pass of the class and a pass of the reference -/
abbrev PH (SX SM : vs_S) (o : Nat → Nat) (u kq N kd M : Nat) : Prop := (1 ≤ M) ∧ (kd ≤ 40) ∧ (∀ i, i < kq → isS SX i = isSM SM u (o i)) ∧ (∀ i, i < kq → SX.2.2.1 14 i = FP.d2f (SM.2.2.2.1 58 (o i)) ∧ WF (FP.d2f (SM.2.2.2.1 58 (o i)))) ∧ (∀ i, i < kq → ∀ d, d < kd → cdx SX d i = cdM SM d (o i)) ∧ (∀ q, 0 ≤ SX.1 2 q ∧ SX.1 2 q ≤ 255) ∧ (∀ q, 0 ≤ SM.1 43 q ∧ SM.1 43 q ≤ 255) ∧ (∀ d, d < kd → fnd SX d kq = fndM SM u d kq)
theorem PH.hM {SX SM : vs_S} {o : Nat → Nat} {u kq N kd M : Nat} (h : PH SX SM o u kq N kd M) : 1 ≤ M := h.1
theorem PH.hk {SX SM : vs_S} {o : Nat → Nat} {u kq N kd M : Nat} (h : PH SX SM o u kq N kd M) : kd ≤ 40 := h.2.1
theorem PH.hI {SX SM : vs_S} {o : Nat → Nat} {u kq N kd M : Nat} (h : PH SX SM o u kq N kd M) : ∀ i, i < kq → isS SX i = isSM SM u (o i) := h.2.2.1
theorem PH.hw {SX SM : vs_S} {o : Nat → Nat} {u kq N kd M : Nat} (h : PH SX SM o u kq N kd M) : ∀ i, i < kq → SX.2.2.1 14 i = FP.d2f (SM.2.2.2.1 58 (o i)) ∧ WF (FP.d2f (SM.2.2.2.1 58 (o i))) := h.2.2.2.1
theorem PH.hcd {SX SM : vs_S} {o : Nat → Nat} {u kq N kd M : Nat} (h : PH SX SM o u kq N kd M) : ∀ i, i < kq → ∀ d, d < kd → cdx SX d i = cdM SM d (o i) := h.2.2.2.2.1
theorem PH.hcX {SX SM : vs_S} {o : Nat → Nat} {u kq N kd M : Nat} (h : PH SX SM o u kq N kd M) : ∀ q, 0 ≤ SX.1 2 q ∧ SX.1 2 q ≤ 255 := h.2.2.2.2.2.1
theorem PH.hcM {SX SM : vs_S} {o : Nat → Nat} {u kq N kd M : Nat} (h : PH SX SM o u kq N kd M) : ∀ q, 0 ≤ SM.1 43 q ∧ SM.1 43 q ≤ 255 := h.2.2.2.2.2.2.1
theorem PH.hf {SX SM : vs_S} {o : Nat → Nat} {u kq N kd M : Nat} (h : PH SX SM o u kq N kd M) : ∀ d, d < kd → fnd SX d kq = fndM SM u d kq := h.2.2.2.2.2.2.2
theorem PH.sc {SX SM : vs_S} {o : Nat → Nat} {u kq N kd M : Nat} (H : PH SX SM o u kq N kd M) {x : Int32} {d : Nat} (hd : d < kd) (hs : sP SM x d = true) : scF SX (2 ^ d) kq = scM SM o u x d 1 kq ∧ vf_n32 (scF SX (2 ^ d) kq) := by
  have hk := H.hk
  have e1 : el (sP SM x) d 1 = [d] := by rw [el_c, if_pos hs, el_z]
  rw [scF_ls SX (Nat.pow_lt_pow_right (by decide) (by omega)) (by rw [ls_pow (by omega)]; simp), ls_pow (by omega), (scM_el SM o u x d 1 H.hcM kq (fun i hi => (H.hw i hi).2)).1, e1]
  refine ⟨scL_congr kq (fun i hi => ⟨H.hI i hi, (H.hw i hi).1, fun e he => ?_⟩), ?_⟩
  · have : e = d := by simpa using he
    rw [this]; exact H.hcd i hi d hd
  · exact fp_n (scL_fp kq (fun i hi => ⟨by rw [(H.hw i hi).1]; exact (H.hw i hi).2, fun e _ => H.hcX _⟩))
theorem BX_BM {SX SM : vs_S} {o : Nat → Nat} {u kq N kd M : Nat} (H : PH SX SM o u kq N kd M) (x : Int32) (cnd : Nat)
    (hc : ∀ d, d < kd → sP SM x d = true → cnd.testBit d = (decide (SM.1 50 d = 0) && mr SM d (mTok SM u N)))
    (l : List Nat) (b : Nat) (y y' : hp × Int32 × Int32) (hl : l.Pairwise (· < ·)) (hd : ∀ d, d ∈ l → b ≤ d ∧ d < kd ∧ sP SM x d = true)
    (HH : HI y.1 b M) (R : hr y.1 y'.1) (E : y.2 = y'.2) :
    ∃ b', b ≤ b' ∧ (b' = b ∨ (b' - 1) ∈ l) ∧ hr (BX SX kq M cnd l y).1 (BM SM o u kq N M x l y').1 ∧ (BX SX kq M cnd l y).2 = (BM SM o u kq N M x l y').2 ∧ HI (BX SX kq M cnd l y).1 b' M := by
  obtain ⟨y1, y2, y3⟩ := y
  obtain ⟨z1, z2, z3⟩ := y'
  simp only at HH R E
  obtain ⟨E2, E3⟩ := Prod.mk.inj E
  subst E2; subst E3
  have hM := H.hM
  have esc : scL (isS SX) (SX.2.2.1 14) (cdx SX) l kq = scL (fun i => isSM SM u (o i)) (fun i => FP.d2f (SM.2.2.2.1 58 (o i))) (fun d i => cdM SM d (o i)) l kq :=
    scL_congr kq (fun i hi => ⟨H.hI i hi, (H.hw i hi).1, fun d hdl => H.hcd i hi d (hd d hdl).2.1⟩)
  have efl : l.filter (fun d => cnd.testBit d && fnd SX d kq) = l.filter (gM SM u kq N) := by
    apply List.filter_congr
    intro d hdl
    obtain ⟨_, d2, d3⟩ := hd d hdl
    show (cnd.testBit d && fnd SX d kq) = (decide (SM.1 50 d = 0) && (fndM SM u d kq && mr SM d (mTok SM u N)))
    rw [hc d d2 d3, H.hf d d2]
    cases decide (SM.1 50 d = 0) <;> cases mr SM d (mTok SM u N) <;> cases fndM SM u d kq <;> rfl
  have econd : (y1.2.2 < M ∨ 0 < cmpL (scL (isS SX) (SX.2.2.1 14) (cdx SX) l kq) (lastp y1)) ↔ (z1.2.2 < M ∨ 0 < cmpL (scL (fun i => isSM SM u (o i)) (fun i => FP.d2f (SM.2.2.2.1 58 (o i))) (fun d i => cdM SM d (o i)) l kq) (z1.2.1 (M - 1))) := by
    rw [esc, R.1]
    by_cases q : z1.2.2 < M
    · exact ⟨fun _ => .inl q, fun _ => .inl q⟩
    · have h1 := HH.1
      have h2 := R.1
      have : lastp y1 = z1.2.1 (M - 1) := by
        unfold lastp
        rw [if_neg (by omega), (R.2 (y1.2.2 - 1) (by omega)).2, show y1.2.2 - 1 = M - 1 by omega]
      rw [this]
  obtain ⟨b', x1, x2, x3, x4, x5, x6⟩ := lkL_eq hM (fun d => scF SX (2 ^ d) kq) (fun d => scM SM o u x d 1 kq) (l.filter (gM SM u kq N)) b y1 z1 y3 (List.Pairwise.filter _ hl) (fun d hdl => by
    have hdl2 := (List.mem_filter.mp hdl).1
    obtain ⟨d1, d2, d3⟩ := hd d hdl2
    have hk := H.hk
    obtain ⟨s1, s2⟩ := H.sc d2 d3
    exact ⟨d1, by omega, s1, s2⟩) HH R
  unfold BX BM
  by_cases q : (y1.2.2 < M ∨ 0 < cmpL (scL (isS SX) (SX.2.2.1 14) (cdx SX) l kq) (lastp y1))
  · rw [if_pos q, if_pos (econd.mp q), efl]
    refine ⟨b', x2, ?_, x5, ?_, x6⟩
    · rcases x3 with x3 | x3
      · exact .inl x3
      · exact .inr (List.mem_filter.mp x3).1
    · exact Prod.ext rfl x4
  · rw [if_neg q, if_neg (fun w => q (econd.mpr w))]
    exact ⟨b, Nat.le_refl _, .inl rfl, R, rfl, HH⟩
theorem pL_eq {SX SM : vs_S} {o : Nat → Nat} {u kq N kd M : Nat} (H : PH SX SM o u kq N kd M) (x : Int32) (cnd : Nat)
    (hc : ∀ d, d < kd → sP SM x d = true → cnd.testBit d = (decide (SM.1 50 d = 0) && mr SM d (mTok SM u N))) :
    ∀ (r : Nat) (l : List Nat) (b : Nat) (y y' : hp × Int32 × Int32), l.Pairwise (· < ·) → (∀ d, d ∈ l → b ≤ d ∧ d < kd ∧ sP SM x d = true) → HI y.1 b M → hr y.1 y'.1 → y.2 = y'.2 →
    ∃ b', b ≤ b' ∧ (b' = b ∨ (b' - 1) ∈ l) ∧ hr (pL (BX SX kq M cnd) r l y).1 (pL (BM SM o u kq N M x) r l y').1 ∧ (pL (BX SX kq M cnd) r l y).2 = (pL (BM SM o u kq N M x) r l y').2 ∧ HI (pL (BX SX kq M cnd) r l y).1 b' M
  | 0, l, b, y, y', _, _, HH, R, E => ⟨b, Nat.le_refl _, .inl rfl, R, E, HH⟩
  | r + 1, l, b, y, y', hl, hd, HH, R, E => by
    rw [pL, pL]
    by_cases q : l = []
    · rw [if_pos q, if_pos q]; exact ⟨b, Nat.le_refl _, .inl rfl, R, E, HH⟩
    · rw [if_neg q, if_neg q]
      obtain ⟨b1, a1, a2, a3, a4, a5⟩ := BX_BM H x cnd hc (l.take 4) b y y' (List.Pairwise.take hl) (fun d h => hd d (List.mem_of_mem_take h)) HH R E
      have hsp := hl
      rw [← List.take_append_drop 4 l, List.pairwise_append] at hsp
      obtain ⟨b2, c1, c2, c3, c4, c5⟩ := pL_eq H x cnd hc r (l.drop 4) b1 _ _ (List.Pairwise.drop hl) (fun d h => by
        obtain ⟨d1, d2⟩ := hd d (List.mem_of_mem_drop h)
        refine ⟨?_, d2⟩
        rcases a2 with a2 | a2
        · omega
        · have := hsp.2.2 _ a2 d h; omega) a5 a3 a4
      refine ⟨b2, by omega, ?_, c3, c4, c5⟩
      rcases c2 with c2 | c2
      · rcases a2 with a2 | a2
        · left; omega
        · right; rw [c2]; exact List.mem_of_mem_take a2
      · right; exact List.mem_of_mem_drop c2
theorem pass_eq {SX SM : vs_S} {o : Nat → Nat} {u kq N kd M : Nat} (H : PH SX SM o u kq N kd M) (x : Int32) (cnd n : Nat) (hn : n < 2 ^ 40) (hl : ls n = el (sP SM x) 0 kd)
    (hc : ∀ d, d < kd → sP SM x d = true → cnd.testBit d = (decide (SM.1 50 d = 0) && mr SM d (mTok SM u N)))
    (b : Nat) (y y' : hp × Int32 × Int32) (hb : ∀ d, n.testBit d = true → b ≤ d) (HH : HI y.1 b M) (R : hr y.1 y'.1) (E : y.2 = y'.2) :
    ∃ b', b ≤ b' ∧ (b' = b ∨ n.testBit (b' - 1) = true) ∧ hr (ps SX kq M cnd 10 n y).1 (psM SM o u kq N kd M x (kd + 1) 0 y').1 ∧ (ps SX kq M cnd 10 n y).2 = (psM SM o u kq N kd M x (kd + 1) 0 y').2 ∧ HI (ps SX kq M cnd 10 n y).1 b' M := by
  have h40 := ls_len n
  have hkd : (ls n).length ≤ kd := by rw [hl]; exact el_len _ _ _
  rw [ps_pL SX kq M cnd 10 n y hn, psM_pL SM o u kq N kd M x H.hcM (fun i hi => (H.hw i hi).2) (kd + 1) 0 y' (Nat.zero_le _), show kd - 0 = kd from rfl, ← hl, pL_fuel (BM SM o u kq N M x) (kd + 1) 10 (ls n) y' (by omega) (by omega)]
  obtain ⟨b', a1, a2, a3⟩ := pL_eq H x cnd hc 10 (ls n) b y y' (ls_asc n) (fun d hd => by
    have h1 := (ls_mem hn).mp hd
    rw [hl, el_mem] at hd
    exact ⟨hb d h1, by omega, hd.2⟩) HH R E
  exact ⟨b', a1, a2.imp id (ls_mem hn).mp, a3⟩
