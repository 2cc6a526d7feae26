/- every call of the law, on the kept relation -/
theorem lo_0 (A B : vs_S) : lo_ 0 A B = B := rfl
theorem lo_s (n : Nat) (A B : vs_S) : lo_ (n + 1) A B = A := rfl
section OPS
variable {l : Launch} {b : Nat} {D : va_G} {aC : Nat → ClassId}
theorem o_member (hfl : l.flags = flags0) : op_member Inv l b D aC := by
  rintro t S ht ⟨kd, kn, ks, km, ser, kq, kh, kf, c, σ, ν, α, β, o, h⟩ a1 a2 a3
  by_cases hok : memOK a1 a2
  · have hx := k_L_member l b D aC S _ a1 a2 (b01 (¬ a3 = 0)) _ 0 false _ (k_X_member l b D aC S hfl a1 a2 (b01 (¬ a3 = 0)) 0 (.inl ⟨rfl, hok⟩)) (fun _ _ h => h) (by decide)
    rw [lo_0] at hx
    refine ⟨0, _, _, _, hx, k_M_member_0 l b D aC _ a1 a2 (b01 (¬ a3 = 0)) hok, rfl, by decide, fun _ => ?_, kd, kn, ks, km, ser, kq, kh, kf, c, σ, ν, α, β, o, (h.member hok _).1.step⟩
    obtain ⟨_, i2, i3⟩ := h.member hok (on := b01 (¬ a3 = 0)) (fun _ => 0)
    show (if b01 (¬ memV S a1 a2 (b01 (¬ a3 = 0)) = S.1 21 a1.toNatClampNeg) = 0 then (0 : Int64) else 1) = if b01 (¬ jn_v (S.1 36 a1.toNatClampNeg) a2 (b01 (¬ a3 = 0)) = S.1 36 a1.toNatClampNeg) = 0 then 0 else 1
    rw [i2, i3]
  · have hx := k_L_member l b D aC S _ a1 a2 (b01 (¬ a3 = 0)) _ 1 false _ (k_X_member l b D aC S hfl a1 a2 (b01 (¬ a3 = 0)) 1 (.inr ⟨rfl, hok⟩)) (fun _ _ h => h) (by decide)
    rw [lo_s] at hx
    exact ⟨1, _, _, _, hx, k_M_member_1 l b D aC S a1 a2 (b01 (¬ a3 = 0)) hok, rfl, by decide, fun q => absurd q (by decide), kd, kn, ks, km, ser, kq, kh, kf, c, σ, ν, α, β, o, (h.th 1).step⟩
theorem o_level (hfl : l.flags = flags0) : op_level Inv l b D aC := by
  rintro t S ht ⟨kd, kn, ks, km, ser, kq, kh, kf, c, σ, ν, α, β, o, h⟩ a1 a2 a3
  by_cases hok : lvlOK a1 a2 a3
  · have hx := k_L_level l b D aC S _ a1 a2 a3 _ 0 false _ (k_X_level l b D aC S hfl a1 a2 a3 0 (.inl ⟨rfl, hok⟩)) (fun _ _ h => h) (by decide)
    rw [lo_0] at hx
    refine ⟨0, _, _, _, hx, k_M_level_0 l b D aC _ a1 a2 a3 hok, rfl, by decide, fun _ => ?_, kd, kn, ks, km, ser, kq, kh, kf, c, σ, ν, α, β, o, (h.level hok _).1.step⟩
    exact congrArg Int32.toInt64 (h.level hok _).2
  · have hx := k_L_level l b D aC S _ a1 a2 a3 _ 1 false _ (k_X_level l b D aC S hfl a1 a2 a3 1 (.inr ⟨rfl, hok⟩)) (fun _ _ h => h) (by decide)
    rw [lo_s] at hx
    exact ⟨1, _, _, _, hx, k_M_level_1 l b D aC S a1 a2 a3 hok, rfl, by decide, fun q => absurd q (by decide), kd, kn, ks, km, ser, kq, kh, kf, c, σ, ν, α, β, o, (h.th 1).step⟩
theorem o_weigh (hfl : l.flags = flags0) : op_weigh Inv l b D aC := by
  rintro t S ht ⟨kd, kn, ks, km, ser, kq, kh, kf, c, σ, ν, α, β, o, h⟩ a1 a2 a3
  by_cases hok : weiOK a1 a2 (wt a3)
  · have hx := k_L_weigh l b D aC S _ a1 a2 (wt a3) _ 0 false _ (k_X_weigh l b D aC S hfl a1 a2 (wt a3) kd 0 h.zd.1 h.zd.2.2 cd_ok (.inl ⟨rfl, hok⟩)) (fun _ _ h => h) (by decide)
    rw [lo_0] at hx
    exact ⟨0, _, _, _, hx, k_M_weigh_0 l b D aC _ a1 a2 (wt a3) hok (cd_ok hok.2.2), rfl, by decide, fun _ => rfl, kd, kn, ks, km, ser, kq, kh, kf, c, σ, ν, α, β, o, (h.weigh hok _).step⟩
  · have hx := k_L_weigh l b D aC S _ a1 a2 (wt a3) _ 1 false _ (k_X_weigh l b D aC S hfl a1 a2 (wt a3) kd 1 h.zd.1 h.zd.2.2 cd_ok (.inr ⟨rfl, hok⟩)) (fun _ _ h => h) (by decide)
    rw [lo_s] at hx
    exact ⟨1, _, _, _, hx, k_M_weigh_1 l b D aC S a1 a2 (wt a3) hok, rfl, by decide, fun q => absurd q (by decide), kd, kn, ks, km, ser, kq, kh, kf, c, σ, ν, α, β, o, (h.th 1).step⟩
theorem o_put (hfl : l.flags = flags0) : op_put Inv l b D aC := by
  rintro t S ht ⟨kd, kn, ks, km, ser, kq, kh, kf, c, σ, ν, α, β, o, h⟩ a1 a2
  by_cases hok : 0 ≤ a1 ∧ a1 < 3
  · have hx := k_L_put l b D aC S _ a1 a2 _ 0 false _ (k_X_put l b D aC S hfl a1 a2 kd 0 h.zd.1 h.zd.2.2 (.inl ⟨rfl, hok⟩)) (fun _ _ h => h) (by decide)
    rw [lo_0] at hx
    refine ⟨0, _, _, _, hx, k_M_put_0 l b D aC _ a1 a2 hok, rfl, by decide, fun _ => ?_, kd, kn, ks, km, ser, kq, kh, kf, c, σ, ν, α, β, o, (h.put hok _).1.step⟩
    exact congrArg Int32.toInt64 (h.put (v := a2) hok (fun _ => 0)).2
  · have hx := k_L_put l b D aC S _ a1 a2 _ 1 false _ (k_X_put l b D aC S hfl a1 a2 kd 1 h.zd.1 h.zd.2.2 (.inr ⟨rfl, hok⟩)) (fun _ _ h => h) (by decide)
    rw [lo_s] at hx
    exact ⟨1, _, _, _, hx, k_M_put_1 l b D aC S a1 a2 hok, rfl, by decide, fun q => absurd q (by decide), kd, kn, ks, km, ser, kq, kh, kf, c, σ, ν, α, β, o, (h.th 1).step⟩
theorem o_rule (hfl : l.flags = flags0) : op_rule Inv l b D aC := by
  rintro t S ht ⟨kd, kn, ks, km, ser, kq, kh, kf, c, σ, ν, α, β, o, h⟩ a1 a2
  by_cases hok : 0 ≤ a1 ∧ a1 < 16
  · have hx := k_L_rule l b D aC S _ a1 (b01 (¬ a2 = 0)) _ 0 false _ (k_X_rule l b D aC S hfl a1 (b01 (¬ a2 = 0)) kd 0 h.zd.1 h.zd.2.2 (.inl ⟨rfl, hok⟩)) (fun _ _ h => h) (by decide)
    rw [lo_0] at hx
    refine ⟨0, _, _, _, hx, k_M_rule_0 l b D aC _ a1 (b01 (¬ a2 = 0)) hok, rfl, by decide, fun _ => ?_, kd, kn, ks, km, ser, kq, kh, kf, c, σ, ν, α, β, o, (h.rule _).1.step⟩
    have e := (h.rule (u := a1) (al := b01 (¬ a2 = 0)) (vp_updL (S.2.1 63) 0 (if b01 (¬ rulV S kd a1 (b01 (¬ a2 = 0)) = S.1 (rulP (b01 (¬ a2 = 0))) kd) = 0 then (0 : Int64) else 1))).2
    show (if b01 (¬ S.1 (rulP (b01 (¬ a2 = 0))) kd ||| (1 <<< (a1 &&& 31)) = S.1 (rulP (b01 (¬ a2 = 0))) kd) = 0 then (0 : Int64) else 1) = _
    rw [e]
    rfl
  · have hx := k_L_rule l b D aC S _ a1 (b01 (¬ a2 = 0)) _ 1 false _ (k_X_rule l b D aC S hfl a1 (b01 (¬ a2 = 0)) kd 1 h.zd.1 h.zd.2.2 (.inr ⟨rfl, hok⟩)) (fun _ _ h => h) (by decide)
    rw [lo_s] at hx
    exact ⟨1, _, _, _, hx, k_M_rule_1 l b D aC S a1 (b01 (¬ a2 = 0)) hok, rfl, by decide, fun q => absurd q (by decide), kd, kn, ks, km, ser, kq, kh, kf, c, σ, ν, α, β, o, (h.th 1).step⟩
theorem o_add (hfl : l.flags = flags0) : op_add Inv l b D aC := by
  rintro t S ht ⟨kd, kn, ks, km, ser, kq, kh, kf, c, σ, ν, α, β, o, h⟩ a1
  have hk := h.zd.2.2
  have hin : addIn S a1 ↔ (a1 = -1 ∨ (0 ≤ a1 ∧ a1 < nI kd)) := by unfold addIn; rw [h.zd.1]
  by_cases hok : addIn S a1
  · by_cases h40 : kd < 40
    · have hx := k_L_add l b D aC S _ a1 _ 0 false _ (k_X_add l b D aC S hfl a1 kd 0 h.zd.1 hk (.inl ⟨rfl, hok, h40⟩)) (fun _ _ h => h) (by decide)
      rw [lo_0] at hx
      have hq : a1 = -1 ∨ ∃ p, p < kd ∧ a1 = nI p := (hin.mp hok).imp id (fun q => i32_of q.1 q.2 (by omega))
      refine ⟨0, _, _, _, hx, k_M_add_0 l b D aC _ a1 kd ?_ h40 (hin.mp hok), rfl, by decide, fun _ => rfl, kd + 1, kn, ks, km, ser, kq, kh, kf, c, σ, ν, α, β, o, (h.add (by omega) h40 hq _).step⟩
      have e35 : ∀ T : vs_S, T.2.2.2.2.1 35 27 = S.2.2.2.2.1 35 27 → T.2.2.2.2.1 35 27 = nI kd := fun T e => e.trans h.zd.2.1
      apply e35
      unfold adS adT fd2
      split
      · rfl
      · split <;> rfl
    · have hx := k_L_add l b D aC S _ a1 _ 2 false _ (k_X_add l b D aC S hfl a1 kd 2 h.zd.1 hk (.inr (.inr ⟨rfl, hok, h40⟩))) (fun _ _ h => h) (by decide)
      rw [lo_s] at hx
      exact ⟨2, _, _, _, hx, k_M_add_2 l b D aC S a1 kd h.zd.2.1 (by omega) (hin.mp hok), rfl, by decide, fun q => absurd q (by decide), kd, kn, ks, km, ser, kq, kh, kf, c, σ, ν, α, β, o, (h.th 2).step⟩
  · have hx := k_L_add l b D aC S _ a1 _ 1 false _ (k_X_add l b D aC S hfl a1 kd 1 h.zd.1 hk (.inr (.inl ⟨rfl, hok⟩))) (fun _ _ h => h) (by decide)
    rw [lo_s] at hx
    exact ⟨1, _, _, _, hx, k_M_add_1 l b D aC S a1 kd h.zd.2.1 hk (fun q => hok (hin.mpr q)), rfl, by decide, fun q => absurd q (by decide), kd, kn, ks, km, ser, kq, kh, kf, c, σ, ν, α, β, o, (h.th 1).step⟩
theorem o_remove (hfl : l.flags = flags0) : op_remove Inv l b D aC := by
  rintro t S ht ⟨kd, kn, ks, km, ser, kq, kh, kf, c, σ, ν, α, β, o, h⟩ a1
  have hk := h.zd.2.2
  have hin : remOK S a1 ↔ ((0 ≤ a1 ∧ a1 < nI kd) ∧ S.1 49 a1.toNatClampNeg = 0) := by
    unfold remOK
    rw [h.zd.1]
    constructor
    · rintro ⟨q1, q2⟩
      obtain ⟨j, j1, j2, j3⟩ := in_n (by omega) q1
      refine ⟨q1, ?_⟩
      rw [j3]
      rw [j2] at q2
      exact (iV_bit h.nv j1 hk).mp q2
    · rintro ⟨q1, q2⟩
      obtain ⟨j, j1, j2, j3⟩ := in_n (by omega) q1
      refine ⟨q1, ?_⟩
      rw [j2]
      rw [j3] at q2
      exact (iV_bit h.nv j1 hk).mpr q2
  by_cases hok : remOK S a1
  · have hx := k_L_remove l b D aC S _ a1 0 false _ (k_X_remove l b D aC S hfl a1 0 (.inl ⟨rfl, hok⟩)) (fun _ _ h => h) (by decide)
    rw [lo_0] at hx
    obtain ⟨q1, q2⟩ := hin.mp hok
    obtain ⟨j, j1, j2, j3⟩ := in_n (by omega) q1
    rw [j3] at q2
    subst j2
    exact ⟨0, _, _, hx, k_M_remove_0 l b D aC _ j kd h.zd.2.1 hk j1 q2, by unfold rmS; split <;> rfl, by decide, kd, kn, ks, km, ser, kq, kh, kf, c, σ, ν, α, β, o, (h.remove (by omega) j1).step⟩
  · have hx := k_L_remove l b D aC S _ a1 1 false _ (k_X_remove l b D aC S hfl a1 1 (.inr ⟨rfl, hok⟩)) (fun _ _ h => h) (by decide)
    rw [lo_s] at hx
    exact ⟨1, _, _, hx, k_M_remove_1 l b D aC S a1 kd h.zd.2.1 hk (fun q => hok (hin.mpr q)), rfl, by decide, kd, kn, ks, km, ser, kq, kh, kf, c, σ, ν, α, β, o, (h.th 1).step⟩
theorem o_flush (hfl : l.flags = flags0) : op_flush Inv l b D aC := by
  rintro t S ht ⟨kd, kn, ks, km, ser, kq, kh, kf, c, σ, ν, α, β, o, h⟩
  have hk := h.zd.2.2
  have hn6 := h.nw.1
  obtain ⟨cb1, cb2⟩ := h.cnB
  by_cases h6 : kn < 6
  · have hx := k_L_flush l b D aC S _ _ 0 false _ (k_X_flush l b D aC S hfl kn 0 h.zn.1 hn6 (.inl ⟨rfl, h6⟩)) (fun _ _ h => h) (by decide)
    rw [lo_0] at hx
    by_cases h0 : S.2.2.2.2.2 0 6 = 0
    · have ef : flS S kn = vs_ul S 0 6 0 := by unfold flS flT; rw [if_pos h0]
      rw [ef] at hx
      refine ⟨0, _, _, _, hx, k_M_flush_0 l b D aC _ kn kd h.zn.2 h6 h.zd.2.1 hk (cb2.mp h0), rfl, by decide, fun _ => ?_, kd, kn, ks, km, ser, kq, kh, kf, c, σ, ν, α, β, o, (h.flush0 h0 _).step⟩
      show (bcR (S.2.2.2.2.2 0 6)).toInt64 = (0 : Int32).toInt64
      rw [cb1, cb2.mp h0]; rfl
    · have ef : flS S kn = vs_ul (xApp S kn (S.2.2.2.2.2 0 6)) 0 6 0 := by unfold flS flT; rw [if_neg h0]
      rw [ef] at hx
      obtain ⟨σ', ν', α', hi⟩ := h.flush1 (by omega) h6 (vp_updL ((vs_ul (xApp S kn (S.2.2.2.2.2 0 6)) 0 6 0).2.1 63) 0 (bcR (S.2.2.2.2.2 0 6)).toInt64)
      refine ⟨0, _, _, _, hx, k_M_flush_2 l b D aC _ kn kd h.zn.2 h6 h.zd.2.1 hk (fun q => h0 (cb2.mpr q)), rfl, by decide, fun _ => ?_, kd, _, ks, _, _, kq, kh, kf, c, σ', ν', α', β, o, hi⟩
      show (bcR (S.2.2.2.2.2 0 6)).toInt64 = (nI (cn (isB S) kd)).toInt64
      rw [cb1]
  · have hx := k_L_flush l b D aC S _ _ 1 false _ (k_X_flush l b D aC S hfl kn 1 h.zn.1 hn6 (.inr ⟨rfl, h6⟩)) (fun _ _ h => h) (by decide)
    rw [lo_s] at hx
    have e6 : kn = 6 := by omega
    subst e6
    exact ⟨1, _, _, _, hx, k_M_flush_1 l b D aC S h.zn.2, rfl, by decide, fun q => absurd q (by decide), kd, 6, ks, km, ser, kq, kh, kf, c, σ, ν, α, β, o, (h.th 1).step⟩
theorem o_merge : op_merge Inv l b D aC := by
  rintro t S ht ⟨kd, kn, ks, km, ser, kq, kh, kf, c, σ, ν, α, β, o, h⟩
  have hk := h.zd.2.2
  have hn6 := h.nw.1
  obtain ⟨W, F, w1, f1, w2, f2, w3, f3⟩ := h.mg (by omega)
  have hw : mgG S kn = 0 ↔ cn (wnt S) kd = 0 := by rw [w2, lN_0 w1]; exact bits_0 w3
  by_cases hc : kn < 2 ∧ mgG S kn = 0
  · exact ⟨0, _, _, k_X_merge_0 l b D aC S kn h.zn.1 hn6 hc, k_M_merge_0 l b D aC S kn kd h.zn.2 hn6 h.zd.2.1 hk ⟨hc.1, hw.mp hc.2⟩, kd, kn, ks, km, ser, kq, kh, kf, c, σ, ν, α, β, o, (h.th 0).step⟩
  · have hx := k_X_merge_1 l b D aC S kn h.zn.1 hn6 hc
    have ev : bcR (mgG S kn) = nI (cn (wnt S) kd) := by rw [w2, bcR_n w1, cn_bits hk w3]
    rw [ev] at hx
    obtain ⟨kn', km', σ', ν', α', hi⟩ := h.merge1 (by omega)
    have e : ∀ T : vs_S, T = mgT S (mgA S kn &&& (mgG S kn ^^^ (-1))) → T.2.2.2.2.1 35 28 = nI kn ∧ T.2.2.2.2.1 35 27 = nI kd ∧ cn (wnt T) kd = cn (wnt S) kd := by
      intro T eT
      subst eT
      unfold mgT
      split
      · exact ⟨h.zn.2, h.zd.2.1, rfl⟩
      · exact ⟨h.zn.2, h.zd.2.1, rfl⟩
    obtain ⟨e1, e2, e3⟩ := e _ rfl
    have hm := k_M_merge_1 l b D aC _ kn kd e1 hn6 e2 hk (fun q => hc ⟨q.1, hw.mpr (e3 ▸ q.2)⟩)
    rw [e3] at hm
    exact ⟨_, _, _, hx, hm, kd, kn', ks, km', _, kq, kh, kf, c, σ', ν', α', β, o, hi⟩
theorem nar02 {x : Int32} (h : x = 0 ∨ x = 1) : vp_nar .boolean x = x := by
  rcases h with h | h <;> subst h <;> rfl
theorem o_refresh : op_refresh Inv l b D aC := by
  rintro t S ht ⟨kd, kn, ks, km, ser, kq, kh, kf, c, σ, ν, α, β, o, h⟩
  have hk := h.zd.2.2
  have hn6 := h.nw.1
  have hf5 : kf ≤ 5 := h.fl.2.1
  have ev := h.rfv (by omega)
  by_cases hs : sameX S = true
  · obtain ⟨a, b', L, k, a2, b2, d2, q1, q2, hi⟩ := h.refresh0 (by omega) hs
    have hx := k_X_refresh_0 l b D aC S kn kf h.zn.1 hn6 h.zf.1 hf5 hs
    rw [q1, ev] at hx
    have hm := k_M_refresh l b D aC (F4 (cpV S) a b' L (nI k)) kn kd kf h.zn.2 hn6 h.zd.2.1 hk h.zf.2 hf5 (fun d _ => nar02 (h.nv.2.1 d))
    rw [q2] at hm
    exact ⟨_, _, _, hx, hm, kd, kn, kn, km, ser, kq, kh, k, c, σ, ν, α, α, o, hi.step⟩
  · obtain ⟨a2, b2, d2, q2, hi⟩ := h.refresh1 hs
    have hx := k_X_refresh_1 l b D aC S kn h.zn.1 hn6 hs
    rw [ev] at hx
    have hm := k_M_refresh l b D aC (vs_ui (cpV S) 6 3 0) kn kd kf h.zn.2 hn6 h.zd.2.1 hk h.zf.2 hf5 (fun d _ => nar02 (h.nv.2.1 d))
    rw [q2] at hm
    exact ⟨_, _, _, hx, hm, kd, kn, kn, km, ser, kq, kh, 0, c, σ, ν, α, α, o, hi.step⟩
theorem o_clause (hfl : l.flags = flags0) : op_clause Inv l b D aC := by
  rintro t S ht ⟨kd, kn, ks, km, ser, kq, kh, kf, c, σ, ν, α, β, o, h⟩ a1 a2 a3 a4
  have hq6 := h.qy.1
  have hw : isWX (wt a4) = true → vf_n32 (FP.d2f (wt a4)) := fun q => WF_n (isW_WF q)
  by_cases hok : claOK a1 a2 a3 (wt a4)
  · by_cases h6 : kq < 6
    · have hx := k_L_clause l b D aC S _ a1 a2 a3 (wt a4) _ 0 false _ (k_X_clause l b D aC S hfl a1 a2 a3 (wt a4) kq 0 h.zq.1 hq6 hw (.inl ⟨rfl, hok, h6⟩)) (fun _ _ h => h) (by decide)
      rw [lo_0] at hx
      have e31 : (claS S kq a1 a2 a3 (FP.d2f (wt a4))).2.2.2.2.1 35 31 = nI kq := by rw [claS_eq S kq _ _ _ _ _ rfl]; exact h.zq.2
      exact ⟨0, _, _, _, hx, k_M_clause_0 l b D aC _ a1 a2 a3 (wt a4) kq hok e31 h6, rfl, by decide, fun _ => rfl, kd, kn, ks, km, ser, kq + 1, kh, kf, c, σ, ν, α, β, o, (h.clause h6 hok _).step⟩
    · have hx := k_L_clause l b D aC S _ a1 a2 a3 (wt a4) _ 2 false _ (k_X_clause l b D aC S hfl a1 a2 a3 (wt a4) kq 2 h.zq.1 hq6 hw (.inr (.inr ⟨rfl, hok, h6⟩))) (fun _ _ h => h) (by decide)
      rw [lo_s] at hx
      have e6 : kq = 6 := by omega
      subst e6
      exact ⟨2, _, _, _, hx, k_M_clause_2 l b D aC S a1 a2 a3 (wt a4) hok h.zq.2, rfl, by decide, fun q => absurd q (by decide), kd, kn, ks, km, ser, 6, kh, kf, c, σ, ν, α, β, o, (h.th 2).step⟩
  · have hx := k_L_clause l b D aC S _ a1 a2 a3 (wt a4) _ 1 false _ (k_X_clause l b D aC S hfl a1 a2 a3 (wt a4) kq 1 h.zq.1 hq6 hw (.inr (.inl ⟨rfl, hok⟩))) (fun _ _ h => h) (by decide)
    rw [lo_s] at hx
    exact ⟨1, _, _, _, hx, k_M_clause_1 l b D aC S a1 a2 a3 (wt a4) hok, rfl, by decide, fun q => absurd q (by decide), kd, kn, ks, km, ser, kq, kh, kf, c, σ, ν, α, β, o, (h.th 1).step⟩
theorem o_clear : op_clear Inv l b D aC := by
  rintro t S ht ⟨kd, kn, ks, km, ser, kq, kh, kf, c, σ, ν, α, β, o, h⟩
  have hx := k_X_clear l b D aC S
  have hm := k_M_clear l b D aC (vs_ui S 10 6 0)
  rw [h.zq.1] at hx
  rw [show (vs_ui S 10 6 0).2.2.2.2.1 35 31 = nI kq from h.zq.2] at hm
  exact ⟨_, _, _, hx, hm, kd, kn, ks, km, ser, 0, kh, kf, c, σ, ν, α, β, o, h.clear.step⟩
theorem o_hit (hfl : l.flags = flags0) : op_hit Inv l b D aC := by
  rintro t S ht ⟨kd, kn, ks, km, ser, kq, kh, kf, c, σ, ν, α, β, o, h⟩ a1
  have h8 := h.ht.1
  by_cases hok : 0 ≤ a1 ∧ a1 < nI kh
  · have hx := k_L_hit l b D aC S _ a1 _ 0 false _ (k_X_hit l b D aC S hfl a1 kh 0 h.zh.1 h8 (.inl ⟨rfl, hok⟩)) (fun _ _ h => h) (by decide)
    rw [lo_0] at hx
    obtain ⟨j, j1, j2, j3⟩ := in_n (by omega) hok
    rw [j3] at hx
    subst j2
    exact ⟨0, _, _, _, hx, k_M_hit_0 l b D aC _ j kh h.zh.2 h8 j1, rfl, by decide, fun _ => congrArg Int32.toInt64 (h.ht.2 j j1).1, kd, kn, ks, km, ser, kq, kh, kf, c, σ, ν, α, β, o, ((h.out _).th 0).step⟩
  · have hx := k_L_hit l b D aC S _ a1 _ 1 false _ (k_X_hit l b D aC S hfl a1 kh 1 h.zh.1 h8 (.inr ⟨rfl, hok⟩)) (fun _ _ h => h) (by decide)
    rw [lo_s] at hx
    exact ⟨1, _, _, _, hx, k_M_hit_1 l b D aC S a1 kh h.zh.2 h8 hok, rfl, by decide, fun q => absurd q (by decide), kd, kn, ks, km, ser, kq, kh, kf, c, σ, ν, α, β, o, (h.th 1).step⟩
theorem o_score (hfl : l.flags = flags0) : op_score Inv l b D aC := by
  rintro t S ht ⟨kd, kn, ks, km, ser, kq, kh, kf, c, σ, ν, α, β, o, h⟩ a1
  have h8 := h.ht.1
  have hn : ∀ j, j < kh → vf_n64 (FP.f2d (S.2.2.1 18 j)) := fun j hj => f2d_n (h.ht.2 j hj).2.2
  by_cases hok : 0 ≤ a1 ∧ a1 < nI kh
  · have hx := k_L_score l b D aC S _ a1 _ 0 false _ (k_X_score l b D aC S hfl a1 kh 0 h.zh.1 h8 (.inl ⟨rfl, hok⟩) hn) (fun _ _ h => h) (by decide)
    rw [lo_0] at hx
    obtain ⟨j, j1, j2, j3⟩ := in_n (by omega) hok
    rw [j3] at hx
    subst j2
    have e := (h.ht.2 j j1).2.1
    have hn2 : vf_n64 (FP.f2d (S.2.2.1 59 j)) := by rw [← e]; exact hn j j1
    exact ⟨0, _, _, _, hx, k_M_score_0 l b D aC _ j kh h.zh.2 h8 j1 hn2, rfl, by decide, fun _ => ⟨congrArg FP.f2d e, dL_self hn2⟩, kd, kn, ks, km, ser, kq, kh, kf, c, σ, ν, α, β, o, ((h.outD _).th 0).step⟩
  · have hx := k_L_score l b D aC S _ a1 _ 1 false _ (k_X_score l b D aC S hfl a1 kh 1 h.zh.1 h8 (.inr ⟨rfl, hok⟩) hn) (fun _ _ h => h) (by decide)
    rw [lo_s] at hx
    exact ⟨1, _, _, _, hx, k_M_score_1 l b D aC S a1 kh h.zh.2 h8 hok, rfl, by decide, fun q => absurd q (by decide), kd, kn, ks, km, ser, kq, kh, kf, c, σ, ν, α, β, o, (h.th 1).step⟩
theorem o_value (hfl : l.flags = flags0) : op_value Inv l b D aC := by
  rintro t S ht ⟨kd, kn, ks, km, ser, kq, kh, kf, c, σ, ν, α, β, o, h⟩ a1 a2 a3
  have hk := h.zd.2.2
  have hs6 := h.sn.1
  by_cases hA : valA a1 a3
  · obtain ⟨u, u1, u2, u3⟩ := in_n (n := 8) (by decide) hA.1
    obtain ⟨f, f1, f2, f3⟩ := in_n (n := 3) (by decide) hA.2
    subst u2; subst f2
    have htk : tokH S u 8 := tkm_9 h.rs.2.2.2 _
    have hse : ∀ d, d < kd → setl S d := h.du.1
    have hB := h.vB (by omega) u a2
    have hC : valC S (nI u) (nI f) ↔ ¬ S.1 41 u < S.1 40 f := by unfold valC; rw [u3, f3, h.vC u1 f1]
    by_cases hb : valB S ks (nI u) a2
    · have hth := hB.mp hb
      by_cases hc : valC S (nI u) (nI f)
      · have hx := k_L_value l b D aC S _ (nI u) a2 (nI f) _ 0 false _ (k_X_value l b D aC S hfl (nI u) a2 (nI f) ks 0 h.zs.1 hs6 (.inl ⟨rfl, hA, hb, hc⟩)) (fun _ _ h => h) (by decide)
        rw [lo_0] at hx
        obtain ⟨i, i1, i2, i3⟩ := in_n (by omega) hth.1
        rw [i3, f3] at hx
        subst i2
        exact ⟨0, _, _, _, hx, k_M_value_0 l b D aC _ u f kd 8 i u1 f1 htk h.zd.2.1 hk hse (by omega) hth (hC.mp hc), rfl, by decide, fun _ => congrArg Int32.toInt64 (h.vV i1 f1), kd, kn, ks, km, ser, kq, kh, kf, c, σ, ν, α, β, o, ((h.out _).th 0).step⟩
      · have hx := k_L_value l b D aC S _ (nI u) a2 (nI f) _ 3 false _ (k_X_value l b D aC S hfl (nI u) a2 (nI f) ks 3 h.zs.1 hs6 (.inr (.inr (.inr ⟨rfl, hA, hb, hc⟩)))) (fun _ _ h => h) (by decide)
        rw [lo_s] at hx
        exact ⟨3, _, _, _, hx, k_M_value_3 l b D aC S u f kd 8 a2 u1 f1 htk h.zd.2.1 hk hse hth (Classical.byContradiction fun q => hc (hC.mpr q)), rfl, by decide, fun q => absurd q (by decide), kd, kn, ks, km, ser, kq, kh, kf, c, σ, ν, α, β, o, (h.th 3).step⟩
    · have hx := k_L_value l b D aC S _ (nI u) a2 (nI f) _ 2 false _ (k_X_value l b D aC S hfl (nI u) a2 (nI f) ks 2 h.zs.1 hs6 (.inr (.inr (.inl ⟨rfl, hA, hb⟩)))) (fun _ _ h => h) (by decide)
      rw [lo_s] at hx
      exact ⟨2, _, _, _, hx, k_M_value_2 l b D aC S u f kd 8 a2 u1 f1 htk h.zd.2.1 hk hse (fun q => hb (hB.mpr q)), rfl, by decide, fun q => absurd q (by decide), kd, kn, ks, km, ser, kq, kh, kf, c, σ, ν, α, β, o, (h.th 2).step⟩
  · have hx := k_L_value l b D aC S _ a1 a2 a3 _ 1 false _ (k_X_value l b D aC S hfl a1 a2 a3 ks 1 h.zs.1 hs6 (.inr (.inl ⟨rfl, hA⟩))) (fun _ _ h => h) (by decide)
    rw [lo_s] at hx
    exact ⟨1, _, _, _, hx, k_M_value_1 l b D aC S a1 a2 a3 hA, rfl, by decide, fun q => absurd q (by decide), kd, kn, ks, km, ser, kq, kh, kf, c, σ, ν, α, β, o, (h.th 1).step⟩
theorem cn_rng {w : Int32} {a n : Nat} (ha : a + n < 2 ^ 31) (h1 : nI a ≤ w) (h2 : w < nI (a + n)) : ∃ j, j < n ∧ w = nI (a + j) := by
  obtain ⟨k, k1, k2⟩ := i32_of (n := a + n) (by
    have : 0 ≤ nI a := nn0 (by omega)
    rw [Int32.le_iff_toInt_le] at *; omega) h2 ha
  subst k2
  rw [nI_leI (by omega) (by omega)] at h1
  exact ⟨k - a, by omega, by rw [show a + (k - a) = k by omega]⟩
theorem i_nl {x a : Int32} (h : a ≤ x) : ¬ x < a := by
  rw [Int32.le_iff_toInt_le] at h
  rw [Int32.lt_iff_toInt_lt]
  omega
theorem i_lt {x a b : Int32} (h : x ≤ a) (hb : a.toInt + 1 = b.toInt) : x < b := by
  rw [Int32.le_iff_toInt_le] at h
  rw [Int32.lt_iff_toInt_lt]
  omega
theorem i_nle {x a b : Int32} (h : x ≤ a) (hb : a.toInt + 1 = b.toInt) : ¬ b ≤ x := by
  rw [Int32.le_iff_toInt_le] at h ⊢
  omega
theorem i_ge {x a : Int32} (h : ¬ x < a) : a ≤ x := by
  rw [Int32.lt_iff_toInt_lt] at h
  rw [Int32.le_iff_toInt_le]
  omega
theorem o_count (hfl : l.flags = flags0) : op_count Inv l b D aC := by
  rintro t S ht ⟨kd, kn, ks, km, ser, kq, kh, kf, c, σ, ν, α, β, o, h⟩ a1
  have hk := h.zd.2.2
  have nle : ∀ {x y : Int32}, ¬ x < y → y ≤ x := fun {x y} q => by rw [Int32.lt_iff_toInt_lt] at q; rw [Int32.le_iff_toInt_le]; omega
  have nlt : ∀ {x y : Int32}, ¬ x ≤ y → y < x := fun {x y} q => by rw [Int32.le_iff_toInt_le] at q; rw [Int32.lt_iff_toInt_lt]; omega
  by_cases hA : cnA a1
  · obtain ⟨j, j1, j2⟩ := cn_rng (a := 10) (n := 8) (by decide) (nle hA.1) (nlt hA.2)
    have hx := k_L_count l b D aC S _ a1 _ 0 true _ (k_X_count_A l b D aC S a1 hA) (fun _ _ h => .inl ⟨rfl, h.1, h.2⟩) (by decide)
    rw [lo_0, show a1 - 10 = nI j by rw [j2, show 10 + j = j + 10 by omega]; exact (pk_sub (a := j + 10) (b := 10) (by omega)).trans (by rw [Nat.add_sub_cancel]), h.tokN j] at hx
    subst j2
    exact ⟨0, _, _, _, hx, k_M_count_A l b D aC _ j 8 j1 (tkm_9 h.rn.2.2.2 _), rfl, by decide, fun _ => rfl, kd, kn, ks, km, ser, kq, kh, kf, c, σ, ν, α, β, o, ((h.out _).th 0).step⟩
  · by_cases hB : cnB a1
    · obtain ⟨j, j1, j2⟩ := cn_rng (a := 20) (n := 8) (by decide) (nle hB.1) (nlt hB.2)
      have hx := k_L_count l b D aC S _ a1 _ 0 true _ (k_X_count_B l b D aC S a1 hA hB) (fun _ _ h => .inl ⟨rfl, h.1, h.2⟩) (by decide)
      rw [lo_0, show a1 - 20 = nI j by rw [j2, show 20 + j = j + 20 by omega]; exact (pk_sub (a := j + 20) (b := 20) (by omega)).trans (by rw [Nat.add_sub_cancel]), h.tok j] at hx
      subst j2
      exact ⟨0, _, _, _, hx, k_M_count_B l b D aC _ j 8 j1 (tkm_9 h.rs.2.2.2 _), rfl, by decide, fun _ => rfl, kd, kn, ks, km, ser, kq, kh, kf, c, σ, ν, α, β, o, ((h.out _).th 0).step⟩
    · by_cases hC : cnC a1
      · obtain ⟨j, j1, j2, _⟩ := in_n (n := 9) (by decide) hC
        subst j2
        have hx := k_L_count l b D aC S _ (nI j) _ 0 true _ (k_X_count_C l b D aC S j j1) (fun _ _ h => .inl ⟨rfl, h.1, h.2⟩) (by decide)
        rw [lo_0, h.cnt j j1] at hx
        have hm := k_M_count_C l b D aC (vs_uL S 63 (vp_updL (S.2.1 63) 0 (cnM S kd j).toInt64)) j kd j1 h.zd.2.1 hk
        exact ⟨0, _, _, _, hx, hm, rfl, by decide, fun _ => rfl, kd, kn, ks, km, ser, kq, kh, kf, c, σ, ν, α, β, o, ((h.out _).th 0).step⟩
      · have hx := k_L_count l b D aC S S a1 0 1 false _ (k_X_count_D l b D aC S hfl a1 hA hB hC) (fun _ _ h => h.imp (fun q => absurd q.1 (by decide)) id) (by decide)
        rw [lo_s] at hx
        have gA : ¬ (10 ≤ a1 ∧ a1 ≤ 17) := fun q => hA ⟨i_nl q.1, i_nle q.2 (b := 18) (by decide)⟩
        have gB : ¬ (20 ≤ a1 ∧ a1 ≤ 27) := fun q => hB ⟨i_nl q.1, i_nle q.2 (b := 28) (by decide)⟩
        have gC : ¬ (0 ≤ a1 ∧ a1 ≤ 8) := fun q => hC ⟨q.1, i_lt q.2 (b := 9) (by decide)⟩
        exact ⟨1, _, _, _, hx, k_M_count_D l b D aC S a1 gA gB gC, rfl, by decide, fun q => absurd q (by decide), kd, kn, ks, km, ser, kq, kh, kf, c, σ, ν, α, β, o, (h.th 1).step⟩
theorem o_search (hfl : l.flags = flags0) : op_search Inv l b D aC := by
  rintro t S ht ⟨kd, kn, ks, km, ser, kq, kh, kf, c, σ, ν, α, β, o, h⟩ a1 a2
  have hk := h.zd.2.2
  have hs6 := h.sn.1
  have hq6 := h.qy.1
  have hf5 : kf ≤ 5 := h.fl.2.1
  by_cases hok : seaOK a1 a2
  · obtain ⟨q1, q2, q3⟩ := hok
    obtain ⟨u, u1, u2, _⟩ := in_n (n := 8) (by decide) q1
    obtain ⟨M, M1, M2⟩ := cn_rng (w := a2) (a := 1) (n := 8) (by decide) (show (1 : Int32) ≤ a2 from i_ge q2) (i_lt q3 (b := nI (1 + 8)) (by decide))
    subst u2; subst M2
    obtain ⟨L, l1, l2, _, l4⟩ := h.liv (by omega)
    have hN : ∀ i, i < ks → (S.2.1 34) i = lN (ν (β i)) ∧ ν (β i) < 2 ^ 40 := fun i hi => ⟨(h.sn.2.1 i hi).2.2.2.1, (h.sg.2.2 _ (h.sn.2.1 i hi).1).1⟩
    obtain ⟨_, g2, _⟩ := arrN_all (S.1 54) (S.1 55) (S.1 54) (S.1 55) zo zo kq (fun _ _ => ⟨rfl, rfl⟩)
    have hfd : ∀ i, i < kq → (∃ f, f < 3 ∧ S.1 13 i = nI f) ∧ ∃ t, t < 8 ∧ S.1 12 i = nI t := fun i hi => by
      obtain ⟨_, e2, e3, _⟩ := h.qy.2.1 i hi
      obtain ⟨_, p2, p3, _⟩ := h.qy.2.2 _ (g2 i hi)
      rw [e2, e3]
      exact ⟨p3, p2⟩
    have hWF : ∀ i, i < kq → WF (S.2.2.1 14 i) := fun i hi => by
      rw [(h.qy.2.1 i hi).2.2.2]
      exact isW_WF (h.qy.2.2 _ (g2 i hi)).2.2.2
    have hx := k_L_search l b D aC S _ (nI u) (nI (1 + M)) _ 0 false _ (k_X_search_0 l b D aC S u (1 + M) kf ks kd kq L (fun i => ν (β i)) u1 (by omega) (by omega) h.zf.1 hf5 h.zs.1 hs6 h.zd.1 hk l1 l2 hN h.zq.1 hq6 hfd (fun n _ i hi => scOK_of (S := sq S u (1 + M) kq) h.db.1 (k := kq) hWF n i hi) _ rfl) (fun _ _ h => .inl ⟨rfl, h.1, h.2⟩) (by decide)
    rw [lo_0] at hx
    generalize hy : sgo (sq S u (1 + M) kq) u kd kq (1 + M) L (fun i => ν (β i)) ((S.1 7, S.1 8, S.2.1 9, kf, S.2.2.2.2.1 6 4, S.2.2.2.2.1 6 5), (S.1 17, S.2.2.1 18, 0), 0, 0) ks = y at hx
    generalize hS1 : vs_uL (xS (xFl (sq S u (1 + M) kq) y.1) y.2.1 y.2.2.1 y.2.2.2) 63 (vp_updL ((xS (xFl (sq S u (1 + M) kq) y.1) y.2.1 y.2.2.1 y.2.2.2).2.1 63) 0 (nI y.2.1.2.2).toInt64) = S1 at hx
    have hb6 : ∀ q, arrN (S1.1 54) (S1.1 55) kq o q < 6 := arrN_b h.od.2 kq hq6
    obtain ⟨o1, o2, o3⟩ := arrN_all (S.1 54) (S.1 55) (S.1 54) (S.1 55) o zo kq (fun _ _ => ⟨rfl, rfl⟩)
    have hH : sH (sqM S1 o kq) (arrN (S1.1 54) (S1.1 55) kq o) u kq 8 kd := by
      subst hS1
      refine ⟨u1, h.zq.2, hq6, rfl, o2, fun i hi => ⟨(h.qy.2.2 i hi).2.2.1, (h.qy.2.2 i hi).2.1⟩, fun x a n i hi => scMK_of u (by exact h.db.2) (k := kq) (by exact fun i hi => isW_WF (h.qy.2.2 _ (o2 i hi)).2.2.2) x a n i hi, tkm_9 h.rs.2.2.2 _, hk, h.du.1, h.zd.2.1⟩
    have e1 : S1.1 56 = fun i => nI (o i) := by subst hS1; exact h.od.1
    have e2 : S1.2.2.2.2.1 35 29 = nI ks := by subst hS1; exact h.zs.2
    have e3 : S1.2.2.2.2.1 35 35 = nI kf := by subst hS1; exact h.zf.2
    have e4 : ((S1.1 60, S1.1 61, S1.1 62, kf, (S1.2.2.2.2.1 35 36), (S1.2.2.2.2.1 35 37), (S1.2.2.2.2.1 35 38)), (S1.1 57, S1.2.2.1 59, 0), 0, 0) = ((fM S kf, (S.1 57, S.2.2.1 59, 0), 0, 0) : fm × hp × Int32 × Int32) := by subst hS1; rfl
    have hm := k_M_search_0 l b D aC S1 o u (1 + M) kq 8 kd kf ks u1 (by omega) (by omega) e1 h.od.2 hH e2 hs6 e3 hf5 _ rfl
    rw [e4] at hm
    generalize hy' : sgM (sqM S1 o kq) (arrN (S1.1 54) (S1.1 55) kq o) u kq 8 kd (1 + M) (fM S kf, (S.1 57, S.2.2.1 59, 0), 0, 0) ks = y' at hm
    obtain ⟨r1, kh', kf', c', o', hi⟩ := h.search ht u1 (by omega) (by omega) l4 _ hy.symm hS1.symm hy'.symm hb6
    refine ⟨0, _, _, _, hx, hm, rfl, by decide, fun _ => ?_, kd, kn, ks, km, ser, kq, kh', kf', c', σ, ν, α, β, o', hi⟩
    show S1.2.1 63 0 = _
    rw [← hS1, ← r1]
    rfl
  · have hx := k_L_search l b D aC S S a1 a2 0 1 false _ (k_X_search_1 l b D aC S hfl a1 a2 hok) (fun _ _ h => h.imp (fun q => absurd q.1 (by decide)) id) (by decide)
    rw [lo_s] at hx
    exact ⟨1, _, _, _, hx, k_M_search_1 l b D aC S a1 a2 hok, rfl, by decide, fun q => absurd q (by decide), kd, kn, ks, km, ser, kq, kh, kf, c, σ, ν, α, β, o, (h.th 1).step⟩
theorem o_all (hfl : l.flags = flags0) : opsA Inv l b D aC := ⟨o_member hfl, o_level hfl, o_weigh hfl, o_put hfl, o_rule hfl, o_add hfl, o_remove hfl, o_flush hfl, o_merge, o_refresh, o_clause hfl, o_clear, o_search hfl, o_hit hfl, o_score hfl, o_value hfl, o_count hfl⟩
theorem Inv_up : ∀ t S, t < 512 → Inv t S → Inv (t + 1) S := by
  rintro t S _ ⟨kd, kn, ks, km, ser, kq, kh, kf, c, σ, ν, α, β, o, h⟩
  exact ⟨kd, kn, ks, km, ser, kq, kh, kf, c, σ, ν, α, β, o, h.step⟩
end OPS
