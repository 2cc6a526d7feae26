/- the kept relation over the small calls -/
section
variable {t : Nat} {S : vs_S} {kd kn ks km ser kq kh kf c : Nat} {σ ν α β o : Nat → Nat}
theorem cl_nI {n : Nat} (h : n < 2 ^ 31) : (nI n).toNatClampNeg = n := nI_clamp h
theorem in_n {x : Int32} {n : Nat} (hn : n < 2 ^ 31) (h : 0 ≤ x ∧ x < nI n) : ∃ j, j < n ∧ x = nI j ∧ x.toNatClampNeg = j := by
  obtain ⟨j, h1, h2⟩ := i32_of h.1 h.2 hn
  exact ⟨j, h1, h2, by rw [h2]; exact nI_clamp (by omega)⟩
theorem IV.member (h : IV t S kd kn ks km ser kq kh kf c σ ν α β o) {m g on : Int32} (hok : memOK m g) (G : Nat → Int64) :
    IV t (vs_uI (mTh (vs_uL (vs_uI S 21 (upd (S.1 21) m.toNatClampNeg (memV S m g on))) 63 G) 0) 36 (upd (S.1 36) m.toNatClampNeg (jn_v (S.1 36 m.toNatClampNeg) g on))) kd kn ks km ser kq kh kf c σ ν α β o ∧ memV S m g on = jn_v (S.1 36 m.toNatClampNeg) g on ∧ S.1 21 m.toNatClampNeg = S.1 36 m.toNatClampNeg := by
  obtain ⟨⟨a1, a2⟩, ⟨b1, b2⟩, b3, _⟩ := hok
  obtain ⟨j, j1, j2, j3⟩ := in_n (n := 16) (by decide) ⟨a1, a2⟩
  obtain ⟨k, k1, k2, k3⟩ := in_n (n := 16) (by decide) ⟨b1, b2⟩
  have hk8 : 8 ≤ k := by
    apply Classical.byContradiction
    intro q
    apply b3
    rw [k2]
    exact nI_lt (b := 8) (by omega) (by decide)
  obtain ⟨r1, r2⟩ := iR_member h.rn (m := m.toNatClampNeg) (by omega) hk8 k1 k2 on
  exact ⟨⟨h.zd, h.zn, h.zs, h.zm, h.zt, h.zq, h.zh, h.zf, h.zc, r2, h.rs, h.dc, h.db, h.dv, h.du, h.sg, h.nw, h.nv, h.nb, h.sn, h.sv, h.qy, h.od, h.ht, h.fl⟩, r1, h.rn.1 _ (by omega)⟩
theorem IV.level (h : IV t S kd kn ks km ser kq kh kf c σ ν α β o) {what i n : Int32} (hok : lvlOK what i n) (G : Nat → Int64) :
    IV t (vs_uI (mTh (vs_uL (vs_uI S (lvlP what) (upd (S.1 (lvlP what)) i.toNatClampNeg n)) 63 G) 0) (mlvP what) (upd ((vs_uL (vs_uI S (lvlP what) (upd (S.1 (lvlP what)) i.toNatClampNeg n)) 63 G).1 (mlvP what)) i.toNatClampNeg n)) kd kn ks km ser kq kh kf c σ ν α β o ∧ S.1 (lvlP what) i.toNatClampNeg = (vs_uL (vs_uI S (lvlP what) (upd (S.1 (lvlP what)) i.toNatClampNeg n)) 63 G).1 (mlvP what) i.toNatClampNeg := by
  obtain ⟨_, hi, _⟩ := hok
  unfold lvlN at hi
  by_cases hw : what = 0
  · rw [if_pos hw] at hi
    obtain ⟨j, j1, j2, j3⟩ := in_n (n := 3) (by decide) hi
    have e1 : lvlP what = 22 := if_pos hw
    have e2 : mlvP what = 37 := if_pos hw
    rw [e1, e2]
    have r := (iR_lev h.rn i.toNatClampNeg n).1
    exact ⟨⟨h.zd, h.zn, h.zs, h.zm, h.zt, h.zq, h.zh, h.zf, h.zc, r, h.rs, h.dc, h.db, h.dv, h.du, h.sg, h.nw, h.nv, h.nb, h.sn, h.sv, h.qy, h.od, h.ht, h.fl⟩, h.rn.2.1 _ (by omega)⟩
  · rw [if_neg hw] at hi
    obtain ⟨j, j1, j2, j3⟩ := in_n (n := 8) (by decide) hi
    have e1 : lvlP what = 23 := if_neg hw
    have e2 : mlvP what = 38 := if_neg hw
    rw [e1, e2]
    have r := (iR_lev h.rn i.toNatClampNeg n).2
    exact ⟨⟨h.zd, h.zn, h.zs, h.zm, h.zt, h.zq, h.zh, h.zf, h.zc, r, h.rs, h.dc, h.db, h.dv, h.du, h.sg, h.nw, h.nv, h.nb, h.sn, h.sv, h.qy, h.od, h.ht, h.fl⟩, h.rn.2.2.1 _ (by omega)⟩
theorem IV.weigh (h : IV t S kd kn ks km ser kq kh kf c σ ν α β o) {f u : Int32} {w : UInt64} (hok : weiOK f u w) (G : Nat → Int64) :
    IV t (vs_uI (mTh (vs_uL (vs_uI S 2 (upd (S.1 2) ((kd * 3 + f.toNatClampNeg) * 8 + u.toNatClampNeg) (cdV w))) 63 G) 0) 43 (upd (S.1 43) (960 + 8 * f.toNatClampNeg + u.toNatClampNeg) (cdV w))) kd kn ks km ser kq kh kf c σ ν α β o := by
  obtain ⟨hf, hu, hw⟩ := hok
  obtain ⟨j, j1, j2, j3⟩ := in_n (n := 3) (by decide) hf
  obtain ⟨k, k1, k2, k3⟩ := in_n (n := 8) (by decide) hu
  rw [j3, k3, show (kd * 3 + j) * 8 + k = 24 * kd + (8 * j + k) by omega, show 960 + 8 * j + k = 960 + (8 * j + k) by omega]
  have hk := h.zd.2.2
  have r := iC_upd h.dc (by omega) (j := 8 * j + k) (by omega) (cdV w)
  have hb := cdV_b hw
  exact ⟨h.zd, h.zn, h.zs, h.zm, h.zt, h.zq, h.zh, h.zf, h.zc, h.rn, h.rs, r, ⟨b_upd h.db.1 _ hb, b_upd h.db.2 _ hb⟩, h.dv, h.du, h.sg, h.nw, h.nv, h.nb, h.sn, h.sv, h.qy, h.od, h.ht, h.fl⟩
theorem IV.put (h : IV t S kd kn ks km ser kq kh kf c σ ν α β o) {f v : Int32} (hok : 0 ≤ f ∧ f < 3) (G : Nat → Int64) :
    IV t (vs_uI (mTh (vs_uL (vs_uI S 3 (upd (S.1 3) (kd * 3 + f.toNatClampNeg) v)) 63 G) 0) 42 (upd (S.1 42) (120 + f.toNatClampNeg) v)) kd kn ks km ser kq kh kf c σ ν α β o ∧ S.1 3 (kd * 3 + f.toNatClampNeg) = S.1 42 (120 + f.toNatClampNeg) := by
  obtain ⟨j, j1, j2, j3⟩ := in_n (n := 3) (by decide) hok
  rw [j3, show kd * 3 + j = 3 * kd + j by omega]
  have hk := h.zd.2.2
  have r := iC_upd h.dv (by omega) (j := j) (by omega) v
  exact ⟨⟨h.zd, h.zn, h.zs, h.zm, h.zt, h.zq, h.zh, h.zf, h.zc, h.rn, h.rs, h.dc, h.db, r, h.du, h.sg, h.nw, h.nv, h.nb, h.sn, h.sv, h.qy, h.od, h.ht, h.fl⟩, h.dv.2.1 j (by omega)⟩
theorem IV.rule (h : IV t S kd kn ks km ser kq kh kf c σ ν α β o) {u al : Int32} (G : Nat → Int64) :
    IV t (vs_uI (mTh (vs_uL (vs_uI S (rulP al) (upd (S.1 (rulP al)) kd (rulV S kd u al))) 63 G) 0) (mruP al) (upd ((vs_uL (vs_uI S (rulP al) (upd (S.1 (rulP al)) kd (rulV S kd u al))) 63 G).1 (mruP al)) 40 ((vs_uL (vs_uI S (rulP al) (upd (S.1 (rulP al)) kd (rulV S kd u al))) 63 G).1 (mruP al) 40 ||| (1 <<< (u &&& 31))))) kd kn ks km ser kq kh kf c σ ν α β o ∧ S.1 (rulP al) kd = (vs_uL (vs_uI S (rulP al) (upd (S.1 (rulP al)) kd (rulV S kd u al))) 63 G).1 (mruP al) 40 := by
  have hk := h.zd.2.2
  have e := h.du.2.1
  unfold rulV
  by_cases ha : al = 0
  · have e1 : rulP al = 5 := if_pos ha
    have e2 : mruP al = 45 := if_pos ha
    rw [e1, e2]
    have r := (iU_al h.du hk (S.1 5 kd ||| (1 <<< (u &&& 31)))).2
    have hf := FR_ext (rb' := rbF (S.1 4) (upd (S.1 5) kd (S.1 5 kd ||| (1 <<< (u &&& 31)))) (S.1 39) ν) (Nat.le_refl km) (fun _ _ => rfl) (fun a v ha hv => rbF_ext (ν := ν) (ν' := ν) rfl rfl (fun d hd => ⟨rfl, (u_ne (by have := (h.sg.2.2 a ha).2 d hd; omega)).symm⟩)) h.fl
    have e4 : S.1 45 40 = S.1 5 kd := e.2.symm
    refine ⟨⟨h.zd, h.zn, h.zs, h.zm, h.zt, h.zq, h.zh, h.zf, h.zc, h.rn, h.rs, h.dc, h.db, h.dv, ?_, h.sg, h.nw, h.nv, h.nb, h.sn, h.sv, h.qy, h.od, h.ht, hf⟩, e.2⟩
    show iU kd (S.1 4) (upd (S.1 5) kd (S.1 5 kd ||| (1 <<< (u &&& 31)))) (S.1 44) (upd (S.1 45) 40 (S.1 45 40 ||| (1 <<< (u &&& 31)))) (S.1 46)
    rw [e4]; exact r
  · have e1 : rulP al = 4 := if_neg ha
    have e2 : mruP al = 44 := if_neg ha
    rw [e1, e2]
    have r := (iU_al h.du hk (S.1 4 kd ||| (1 <<< (u &&& 31)))).1
    have hf := FR_ext (rb' := rbF (upd (S.1 4) kd (S.1 4 kd ||| (1 <<< (u &&& 31)))) (S.1 5) (S.1 39) ν) (Nat.le_refl km) (fun _ _ => rfl) (fun a v ha hv => rbF_ext (ν := ν) (ν' := ν) rfl rfl (fun d hd => ⟨(u_ne (by have := (h.sg.2.2 a ha).2 d hd; omega)).symm, rfl⟩)) h.fl
    have e4 : S.1 44 40 = S.1 4 kd := e.1.symm
    refine ⟨⟨h.zd, h.zn, h.zs, h.zm, h.zt, h.zq, h.zh, h.zf, h.zc, h.rn, h.rs, h.dc, h.db, h.dv, ?_, h.sg, h.nw, h.nv, h.nb, h.sn, h.sv, h.qy, h.od, h.ht, hf⟩, e.1⟩
    show iU kd (upd (S.1 4) kd (S.1 4 kd ||| (1 <<< (u &&& 31)))) (S.1 5) (upd (S.1 44) 40 (S.1 44 40 ||| (1 <<< (u &&& 31)))) (S.1 45) (S.1 46)
    rw [e4]; exact r
theorem IV.sb (h : IV t S kd kn ks km ser kq kh kf c σ ν α β o) (ht : t ≤ 512) : ∀ a, a < km → σ a < 2 ^ 31 := fun a ha => by
  have := h.sg.2.1 a ha
  have := h.zt
  omega
theorem IV.remove (h : IV t S kd kn ks km ser kq kh kf c σ ν α β o) (ht : t ≤ 512) {e : Nat} (he : e < kd) :
    IV t (rmS (vs_ul (vs_ul S 19 2 (S.2.2.2.2.2 19 2 ||| sh1 (nI e))) 0 6 (S.2.2.2.2.2 0 6 &&& (sh1 (nI e) ^^^ (-1)))) e) kd kn ks km ser kq kh kf c σ ν α β o := by
  have hk := h.zd.2.2
  have r1 := iV_rem h.nv he hk
  unfold rmS
  by_cases q : S.1 47 e = -1
  · obtain ⟨r2, r3⟩ := iB_rem h.nb he hk (sg' := upd (S.1 47) e (-2)) (by rw [if_pos q])
    have r4 := iG_sg (h.sb ht) r3 h.nw
    rw [if_pos (show (vs_ul (vs_ul S 19 2 (S.2.2.2.2.2 19 2 ||| sh1 (nI e))) 0 6 (S.2.2.2.2.2 0 6 &&& (sh1 (nI e) ^^^ (-1)))).1 47 e = -1 from q)]
    exact ⟨h.zd, h.zn, h.zs, h.zm, h.zt, h.zq, h.zh, h.zf, h.zc, h.rn, h.rs, h.dc, h.db, h.dv, h.du, h.sg, r4, r1, r2, h.sn, h.sv, h.qy, h.od, h.ht, h.fl⟩
  · obtain ⟨r2, r3⟩ := iB_rem h.nb he hk (sg' := S.1 47) (by rw [if_neg q])
    rw [if_neg (show ¬ (vs_ul (vs_ul S 19 2 (S.2.2.2.2.2 19 2 ||| sh1 (nI e))) 0 6 (S.2.2.2.2.2 0 6 &&& (sh1 (nI e) ^^^ (-1)))).1 47 e = -1 from q)]
    exact ⟨h.zd, h.zn, h.zs, h.zm, h.zt, h.zq, h.zh, h.zf, h.zc, h.rn, h.rs, h.dc, h.db, h.dv, h.du, h.sg, h.nw, r1, r2, h.sn, h.sv, h.qy, h.od, h.ht, h.fl⟩
theorem IV.clear (h : IV t S kd kn ks km ser kq kh kf c σ ν α β o) : IV t (vs_ui (vs_ui (vs_ui S 10 6 0) 35 39 0) 35 31 0) kd kn ks km ser 0 kh kf c σ ν α β o :=
  ⟨h.zd, h.zn, h.zs, h.zm, h.zt, ⟨rfl, rfl⟩, h.zh, h.zf, h.zc, h.rn, h.rs, h.dc, h.db, h.dv, h.du, h.sg, h.nw, h.nv, h.nb, h.sn, h.sv, ⟨Nat.zero_le _, fun i hi => by omega, fun i hi => by omega⟩, h.od, h.ht, h.fl⟩
theorem claS_rows (S : vs_S) (k : Nat) (a b d : Int32) (w : UInt32) (q : Nat) (hq : q = insq (fun j => later (S.1 12) (S.1 13) j b d) k) :
    (claS S k a b d w).1 11 = upd (shR (S.1 11) q k) q a ∧ (claS S k a b d w).1 12 = upd (shR (S.1 12) q k) q b ∧ (claS S k a b d w).1 13 = upd (shR (S.1 13) q k) q d ∧ (claS S k a b d w).2.2.1 14 = vf_upd (shR (S.2.2.1 14) q k) q w ∧ (∀ p, p ≠ 11 → p ≠ 12 → p ≠ 13 → (claS S k a b d w).1 p = S.1 p) ∧ (∀ p, p ≠ 14 → (claS S k a b d w).2.2.1 p = S.2.2.1 p) ∧ (claS S k a b d w).2.1 = S.2.1 ∧ (claS S k a b d w).2.2.2.1 = S.2.2.2.1 ∧ (claS S k a b d w).2.2.2.2.1 10 6 = S.2.2.2.2.1 10 6 + 1 ∧ (∀ p, p ≠ 10 → (claS S k a b d w).2.2.2.2.1 p = S.2.2.2.2.1 p) ∧ (claS S k a b d w).2.2.2.2.2 = S.2.2.2.2.2 := by
  obtain ⟨a1, a2, a3, a4, a5, a6, a7, a8, a9⟩ := qI_is b d k S
  rw [← hq] at a1 a2 a3 a4 a5
  unfold claS qSet
  rw [a1]
  generalize (qI b d k S).2 = T at a2 a3 a4 a5 a6 a7 a8 a9
  refine ⟨?_, ?_, ?_, ?_, ?_, ?_, a8, ?_, ?_, ?_, ?_⟩
  · show upd (T.1 11) q a = _; rw [a2]
  · show upd (T.1 12) q b = _; rw [a3]
  · show upd (T.1 13) q d = _; rw [a4]
  · show vf_upd (T.2.2.1 14) q w = _; rw [a5]
  · intro p h1 h2 h3
    rw [← a6 p h1 h2 h3]
    show va_up (va_up (va_up T.1 11 _) 12 _) 13 _ p = _
    unfold va_up
    rw [if_neg h3, if_neg h2, if_neg h1]
  · intro p h1
    rw [← a7 p h1]
    show va_up T.2.2.1 14 _ p = _
    unfold va_up
    rw [if_neg h1]
  · show T.2.2.2.1 = _; rw [a9]
  · show T.2.2.2.2.1 10 6 + 1 = _; rw [a9]
  · intro p h1
    show va_up T.2.2.2.2.1 10 _ p = _
    unfold va_up
    rw [if_neg h1, a9]
  · show T.2.2.2.2.2 = _; rw [a9]
end
