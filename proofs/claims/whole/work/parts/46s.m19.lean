/- clause, value, count, the beginning -/
theorem claS_eq (S : vs_S) (k : Nat) (a b d : Int32) (w : UInt32) (q : Nat) (hq : q = insq (fun j => later (S.1 12) (S.1 13) j b d) k) :
    claS S k a b d w = vs_ui (vs_uF (vs_uI (vs_uI (vs_uI S 11 (upd (shR (S.1 11) q k) q a)) 12 (upd (shR (S.1 12) q k) q b)) 13 (upd (shR (S.1 13) q k) q d)) 14 (vf_upd (shR (S.2.2.1 14) q k) q w)) 10 6 (S.2.2.2.2.1 10 6 + 1) := by
  obtain ⟨a1, a2, a3, a4, a5, a6, a7, a8, a9⟩ := qI_is b d k S
  rw [← hq] at a1 a2 a3 a4 a5
  unfold claS qSet
  rw [a1]
  generalize (qI b d k S).2 = T at a2 a3 a4 a5 a6 a7 a8 a9
  rw [a2, a3, a4, a5]
  obtain ⟨T1, T2, T3, T4⟩ := T
  obtain ⟨S1, S2, S3, S4⟩ := S
  simp only at a6 a7 a8 a9
  subst a8
  subst a9
  have eF : va_up T3 14 (vf_upd (shR (S3 14) q k) q w) = va_up S3 14 (vf_upd (shR (S3 14) q k) q w) := by
    funext p; unfold va_up
    by_cases c : p = 14
    · rw [if_pos c, if_pos c]
    · rw [if_neg c, if_neg c]; exact a7 p c
  have eI : ∀ (x y z : Nat → Int32), va_up (va_up (va_up T1 11 x) 12 y) 13 z = va_up (va_up (va_up S1 11 x) 12 y) 13 z := by
    intro x y z
    funext p; unfold va_up
    by_cases c : p = 13
    · rw [if_pos c, if_pos c]
    · rw [if_neg c, if_neg c]
      by_cases c2 : p = 12
      · rw [if_pos c2, if_pos c2]
      · rw [if_neg c2, if_neg c2]
        by_cases c3 : p = 11
        · rw [if_pos c3, if_pos c3]
        · rw [if_neg c3, if_neg c3]; exact a6 p c3 c2 c
  unfold vs_ui vs_uF vs_uI
  dsimp only
  rw [eI, eF]
section
variable {t : Nat} {S : vs_S} {kd kn ks km ser kq kh kf c : Nat} {σ ν α β o : Nat → Nat}
theorem IV.clause (h : IV t S kd kn ks km ser kq kh kf c σ ν α β o) (hk : kq < 6) {s0 u f : Int32} {w : UInt64} (hok : claOK s0 u f w) (G : Nat → Int64) :
    IV t (mclS (vs_uL (claS S kq s0 u f (FP.d2f w)) 63 G) kq s0 u f w) kd kn ks km ser (kq + 1) kh kf c σ ν α β o := by
  obtain ⟨hs, hu, hf, hw⟩ := hok
  obtain ⟨x, x1, x2, _⟩ := in_n (n := 3) (by decide) hs
  obtain ⟨y, y1, y2, _⟩ := in_n (n := 8) (by decide) hu
  obtain ⟨z, z1, z2, _⟩ := in_n (n := 3) (by decide) hf
  subst x2; subst y2; subst z2
  rw [claS_eq S kq _ _ _ _ _ rfl]
  have qy := iQ_add h.qy hk x1 y1 z1 hw rfl
  have e1 : S.2.2.2.2.1 10 6 + 1 = nI (kq + 1) := by rw [h.zq.1, nI_succ]
  exact ⟨h.zd, h.zn, h.zs, h.zm, h.zt, ⟨e1, rfl⟩, h.zh, h.zf, h.zc, h.rn, h.rs, h.dc, h.db, h.dv, h.du, h.sg, h.nw, h.nv, h.nb, h.sn, h.sv, qy, h.od, h.ht, h.fl⟩
theorem nn0 {n : Nat} (h : n < 2 ^ 31) : 0 ≤ nI n := by
  rw [Int32.le_iff_toInt_le, nI_toInt h, Int32.toInt_zero]; omega
theorem IV.vB (h : IV t S kd kn ks km ser kq kh kf c σ ν α β o) (ht : t ≤ 512) (u : Nat) (i : Int32) : valB S ks (nI u) i ↔ thM S kd 8 u i := by
  obtain ⟨L, l1, l2, l3, _⟩ := h.liv ht
  have hk := h.zd.2.2
  have hx : xTok S (nI u) = mTok S u 8 := h.tok u
  unfold valB thM
  rw [l2, hx]
  constructor
  · rintro ⟨a1, a2, a3⟩
    obtain ⟨j, j1, j2, j3⟩ := in_n (n := 40) (by decide) a1
    rw [j2, bit_n (by omega) (by omega), Bool.not_eq_false, l3] at a2
    rw [j3]
    rw [j3] at a3
    refine ⟨?_, a2.2.1, a2.2.2, a3⟩
    rw [j2]
    exact ⟨nn0 (by omega), nI_lt a2.1 (by omega)⟩
  · rintro ⟨a1, a2, a3, a4⟩
    obtain ⟨j, j1, j2, j3⟩ := in_n (n := kd) (by omega) a1
    rw [j3] at a2 a3
    refine ⟨?_, ?_, a4⟩
    · rw [j2]; exact ⟨nn0 (by omega), nI_lt (b := 40) (by omega) (by decide)⟩
    · rw [j2, bit_n (by omega) (by omega), Bool.not_eq_false, l3]
      exact ⟨j1, a2, a3⟩
theorem IV.vC (h : IV t S kd kn ks km ser kq kh kf c σ ν α β o) {u f : Nat} (hu : u < 8) (hf : f < 3) : S.1 31 u < S.1 30 f ↔ S.1 41 u < S.1 40 f := by
  rw [h.rs.2.2.1 u hu, h.rs.2.1 f hf]
theorem IV.vV (h : IV t S kd kn ks km ser kq kh kf c σ ν α β o) {i f : Nat} (hi : i < kd) (hf : f < 3) : S.1 3 (i * 3 + f) = S.1 42 (3 * i + f) := by
  rw [show i * 3 + f = 3 * i + f by omega]
  exact h.dv.1 _ (by omega)
theorem IV.cnt (h : IV t S kd kn ks km ser kq kh kf c σ ν α β o) : ∀ j, j < 9 → cnF S j = cnM S kd j
  | 0, _ => h.zd.1.trans h.zd.2.1.symm
  | 1, _ => h.cnB.1
  | 2, _ => h.zn.1.trans h.zn.2.symm
  | 3, _ => h.zs.1.trans h.zs.2.symm
  | 4, _ => h.zc.1
  | 5, _ => h.zc.2
  | 6, _ => h.fl.2.2.1
  | 7, _ => h.fl.2.2.2.1
  | 8, _ => h.zf.1.trans h.zf.2.symm
  | j + 9, hj => by omega
theorem IV.tokN (h : IV t S kd kn ks km ser kq kh kf c σ ν α β o) (u : Nat) : tk_o (S.1 21) 8 (1 <<< (nI u &&& 31)) = tkm (S.1 36) (1 <<< (nI u &&& 31)) 8 := by
  rw [tk_o_congr h.rn.1, tok_eq h.rn.2.2.2]
end
theorem z_dec (d : Nat) (x : Bool) : (0 : Nat).testBit d = (decide (d < 0) && x) := by rw [Nat.zero_testBit, decide_eq_false (by omega)]; rfl
theorem Inv_0 : Inv 0 S00 := by
  have hg : iG 0 0 0 zo zo zo (fun _ => 0) (fun _ => 0) (fun _ => 0) (fun _ => 0) := ⟨by omega, fun i hi => by omega, fun i j _ hj => by omega, fun d hd => by omega, fun d d' _ hd => by omega⟩
  have hv : iV 0 0 (fun _ => 0) := ⟨⟨0, by decide, rfl, fun d => z_dec d _⟩, fun _ => .inl rfl, fun _ _ => rfl⟩
  have hb : iB 0 0 (fun _ => 0) := ⟨⟨0, by decide, rfl, fun d => z_dec d _⟩, fun d d' _ hd => by omega⟩
  have hr : iR (fun _ => 0) (fun _ => 0) (fun _ => 0) (fun _ => 0) (fun _ => 0) (fun _ => 0) := ⟨fun _ _ => rfl, fun _ _ => rfl, fun _ _ => rfl, fun i _ k hk => by
    have : bt 0 k = true := hk
    rw [b_0] at this; cases this⟩
  refine ⟨0, 0, 0, 0, 0, 0, 0, 0, 0, zo, zo, zo, zo, zo, ⟨⟨rfl, rfl, by omega⟩, ⟨rfl, rfl⟩, ⟨rfl, rfl⟩, ⟨rfl, rfl⟩, ⟨by omega, by omega, by omega⟩, ⟨rfl, rfl⟩, ⟨rfl, rfl⟩, ⟨rfl, rfl⟩, ⟨rfl, rfl⟩, hr, hr, ?_, ⟨fun _ => b0255, fun _ => b0255⟩, ?_, ?_, ?_, hg, hv, hb, hg, hv, ?_, ?_, ?_, ?_⟩⟩
  · exact ⟨fun q hq => by omega, fun _ _ => rfl, fun _ _ => rfl⟩
  · exact ⟨fun q hq => by omega, fun _ _ => rfl, fun _ _ => rfl⟩
  · exact ⟨fun d hd => by omega, ⟨rfl, rfl⟩, fun _ _ => ⟨rfl, rfl⟩⟩
  · exact ⟨fun a b _ hb => by omega, fun a ha => by omega, fun a ha => by omega⟩
  · exact ⟨by omega, fun i hi => by omega, fun i hi => by omega⟩
  · exact ⟨rfl, fun q => by show 0 < 6; decide⟩
  · exact ⟨by omega, fun j hj => by omega⟩
  · exact ⟨rfl, Nat.zero_le _, rfl, rfl, rfl, [], rfl, List.Perm.refl _, List.Pairwise.nil, List.Pairwise.nil, fun z hz => by simp at hz⟩
