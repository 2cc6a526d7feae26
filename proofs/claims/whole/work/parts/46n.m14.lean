/- add -/
theorem iC_add {w kd : Nat} {cx cm : Nat → Int32} (H : iC w (w * 40) kd cx cm) (hk : kd < 40) : iC w (w * 40) (kd + 1) cx (acp w (w * 40) kd cm w) := by
  obtain ⟨h1, h2, h3⟩ := H
  have e1 : w * (kd + 1) = w * kd + w := Nat.mul_succ w kd
  have e2 : w * kd + w ≤ w * 40 := by rw [← e1]; exact Nat.mul_le_mul_left w hk
  rw [iC, e1]
  refine ⟨?_, ?_, ?_⟩
  · intro q hq
    unfold acp
    by_cases c : w * kd ≤ q ∧ q < w * kd + w
    · rw [if_pos c, ← h2 (q - w * kd) (by omega)]; congr 1; omega
    · rw [if_neg c, if_neg (by omega)]; exact h1 q (by omega)
  · intro j hj
    unfold acp
    rw [if_neg (by omega), if_pos (by omega)]
    exact h3 _ (by omega)
  · intro q hq; exact h3 q (by omega)
theorem b_acp {w B d : Nat} {cm : Nat → Int32} (H : ∀ q, 0 ≤ cm q ∧ cm q ≤ 255) (i : Nat) : ∀ q, 0 ≤ acp w B d cm i q ∧ acp w B d cm i q ≤ 255 := by
  intro q
  unfold acp
  split
  · exact H _
  · split
    · exact b0255
    · exact H _
theorem iU_add {kd : Nat} {ax dx am dm pm : Nat → Int32} (H : iU kd ax dx am dm pm) (hk : kd < 40) : iU (kd + 1) ax dx (upd (upd am kd (am 40)) 40 0) (upd (upd dm kd (dm 40)) 40 0) (upd pm kd (-1)) := by
  obtain ⟨h1, ⟨h2, h3⟩, h4⟩ := H
  refine ⟨?_, ⟨?_, ?_⟩, fun d hd => h4 d (by omega)⟩
  · intro d hd
    by_cases c : d = kd
    · subst c
      left
      rw [u_eq, u_ne (by omega), u_eq, u_ne (by omega), u_eq]
      exact ⟨rfl, h3, h2⟩
    · exact setR_congr (fun _ _ => ⟨rfl, rfl⟩) ⟨by rw [u_ne (by omega), u_ne c], by rw [u_ne (by omega), u_ne c], by rw [u_ne c]⟩ (h1 d (by omega))
  · rw [u_eq]; exact (h4 _ (by omega)).1
  · rw [u_eq]; exact (h4 _ (by omega)).2
theorem iU_addq {kd q : Nat} {ax dx am dm pm : Nat → Int32} (H : iU kd ax dx am dm pm) (hk : kd < 40) (hq : q < kd) {ax' : Nat → Int32} (ha : ax' = if ax kd = 0 then upd ax kd (ax q) else ax) : iU (kd + 1) ax' (upd dx kd (dx kd ||| dx q)) (upd (upd am kd (am 40)) 40 0) (upd (upd dm kd (dm 40)) 40 0) (upd pm kd (nI q)) := by
  obtain ⟨h1, ⟨h2, h3⟩, h4⟩ := H
  have hne : ∀ d, d ≠ kd → ax' d = ax d := by
    intro d hd
    rw [ha]
    split
    · rw [u_ne hd]
    · rfl
  refine ⟨?_, ⟨?_, ?_⟩, fun d hd => ⟨by rw [hne d (by omega)]; exact (h4 d (by omega)).1, by rw [u_ne (by omega)]; exact (h4 d (by omega)).2⟩⟩
  · intro d hd
    by_cases c : d = kd
    · subst c
      right
      refine ⟨q, hq, u_eq, ?_, ?_⟩
      · rw [u_eq, u_ne (by omega), u_eq, u_ne (by omega), h3]
      · rw [u_ne (by omega), u_eq, hne q (by omega), ha, ← h2]
        by_cases z : ax d = 0
        · rw [if_pos z, if_pos z, u_eq]
        · rw [if_neg z, if_neg z]
    · exact setR_congr (fun e he => ⟨(hne e (by omega)).symm, by rw [u_ne (by omega)]⟩) ⟨by rw [u_ne (by omega), u_ne c], by rw [u_ne (by omega), u_ne c], by rw [u_ne c]⟩ (h1 d (by omega))
  · rw [u_eq, hne _ (by omega)]; exact (h4 _ (by omega)).1
  · rw [u_eq, u_ne (by omega)]; exact (h4 _ (by omega)).2
theorem iG_add {kd kn km : Nat} {σ ν α : Nat → Nat} {num : Nat → Int32} {ids : Nat → Int64} {sg segs : Nat → Int32} (hσ : ∀ a, a < km → σ a < 2 ^ 31) {v : Int32} (hv : v < 0) (H : iG kd kn km σ ν α num ids sg segs) : iG (kd + 1) kn km σ ν α num ids (upd sg kd v) segs := by
  obtain ⟨h1, h2, h3, h4, h5⟩ := H
  have hn : ∀ d, d < kd + 1 → ¬ upd sg kd v d < 0 → d < kd ∧ upd sg kd v d = sg d := by
    intro d hd hs
    by_cases c : d = kd
    · subst c; rw [u_eq] at hs; exact absurd hv hs
    · exact ⟨by omega, u_ne c⟩
  refine ⟨h1, ?_, h3, ?_, ?_⟩
  · intro i hi
    obtain ⟨a1, a2, a3, a4, a5⟩ := h2 i hi
    refine ⟨a1, a2, a3, a4, ?_⟩
    intro d
    rw [a5 d]
    by_cases c : d = kd
    · subst c; rw [u_eq, decide_eq_false (nn_ne (hσ _ a1) hv)]; simp
    · rw [u_ne c]
      by_cases c2 : d < kd
      · rw [decide_eq_true c2, decide_eq_true (by omega : d < kd + 1)]
      · rw [decide_eq_false c2, decide_eq_false (by omega : ¬ d < kd + 1)]
  · intro d hd hs
    obtain ⟨e1, e2⟩ := hn d hd hs
    rw [e2] at hs ⊢
    exact h4 d e1 hs
  · intro d d' hd hd' hs hs'
    obtain ⟨e1, e2⟩ := hn d' hd' hs
    obtain ⟨e3, e4⟩ := hn d (by omega) hs'
    rw [e2] at hs ⊢
    rw [e4] at hs' ⊢
    exact h5 d d' hd e1 hs hs'
theorem iV_add {kd : Nat} {rmv : Int64} {rm : Nat → Int32} (H : iV kd rmv rm) : iV (kd + 1) rmv rm := by
  obtain ⟨⟨R, r1, r2, r3⟩, h2, h3⟩ := H
  refine ⟨⟨R, r1, r2, ?_⟩, h2, fun d hd => h3 d (by omega)⟩
  intro d
  rw [r3]
  by_cases c : d = kd
  · subst c; rw [h3 _ (Nat.le_refl _)]; simp
  · by_cases c2 : d < kd
    · rw [decide_eq_true c2, decide_eq_true (by omega : d < kd + 1)]
    · rw [decide_eq_false c2, decide_eq_false (by omega : ¬ d < kd + 1)]
theorem iB_add {kd : Nat} {buf : Int64} {sg : Nat → Int32} (H : iB kd buf sg) (hk : kd < 40) : iB (kd + 1) (buf ||| sh1 (nI kd)) (upd sg kd (-1)) := by
  obtain ⟨⟨B, r1, r2, r3⟩, h2⟩ := H
  have hp : (2 : Nat) ^ kd < 2 ^ 40 := Nat.pow_lt_pow_right (by decide) (by omega)
  refine ⟨⟨B ||| 2 ^ kd, Nat.or_lt_two_pow r1 hp, ?_, ?_⟩, ?_⟩
  · unfold sh1
    rw [r2, sh_n (by omega), wb_or (by omega) (by omega)]
  · intro d
    rw [Nat.testBit_or, r3, Nat.testBit_two_pow]
    by_cases c : d = kd
    · subst c; rw [u_eq]; simp
    · rw [u_ne c, decide_eq_false (show ¬ kd = d from fun q => c q.symm), Bool.or_false]
      by_cases c2 : d < kd
      · rw [decide_eq_true c2, decide_eq_true (by omega : d < kd + 1)]
      · rw [decide_eq_false c2, decide_eq_false (by omega : ¬ d < kd + 1)]
  · intro d d' hd hd' hs
    by_cases c : d' = kd
    · subst c; rw [u_eq]; decide
    · rw [u_ne c]
      rw [u_ne (by omega)] at hs
      exact h2 d d' hd (by omega) hs
section
variable {t : Nat} {S : vs_S} {kd kn ks km ser kq kh kf c : Nat} {σ ν α β o : Nat → Nat}
theorem IV.add (h : IV t S kd kn ks km ser kq kh kf c σ ν α β o) (ht : t ≤ 512) (hk : kd < 40) {q : Int32} (hq : q = -1 ∨ ∃ p, p < kd ∧ q = nI p) (G : Nat → Int64) :
    IV t (madS (vs_uL (adS S kd q) 63 G) kd q) (kd + 1) kn ks km ser kq kh kf c σ ν α β o := by
  have c1 := iC_add (w := 24) h.dc hk
  have c2 := iC_add (w := 3) h.dv hk
  have c3 := b_acp (w := 24) (B := 960) (d := kd) h.db.2 24
  have g1 := iG_add (h.sb ht) (v := -1) (by decide) h.nw
  have g2 := iG_add (h.sb ht) (v := -2) (by decide) h.sn
  have v1 := iV_add h.nv
  have v2 := iV_add h.sv
  have b1 := iB_add h.nb hk
  have s1 : iS (kd + 1) km ser σ ν := ⟨h.sg.1, h.sg.2.1, fun a ha => ⟨(h.sg.2.2 a ha).1, fun d hd => by have := (h.sg.2.2 a ha).2 d hd; omega⟩⟩
  have fr : ∀ al dn : Nat → Int32, (∀ d, d < kd → S.1 4 d = al d ∧ S.1 5 d = dn d) → FR σ (rbF al dn (S.1 39) ν) km c (fX S kf) (fM S kf) := fun al dn he =>
    FR_ext (Nat.le_refl km) (fun _ _ => rfl) (fun a v ha hv => rbF_ext (ν := ν) (ν' := ν) rfl rfl (fun d hd => he d ((h.sg.2.2 a ha).2 d hd))) h.fl
  have z1 : S.2.2.2.2.1 1 4 + 1 = nI (kd + 1) := by rw [h.zd.1, nI_succ]
  rcases hq with hq | ⟨p, hp, hq⟩
  · subst hq
    exact ⟨⟨z1, rfl, hk⟩, h.zn, h.zs, h.zm, h.zt, h.zq, h.zh, h.zf, h.zc, h.rn, h.rs, c1, ⟨h.db.1, c3⟩, c2, iU_add h.du hk, s1, g1, v1, b1, g2, v2, h.qy, h.od, h.ht, fr _ _ (fun _ _ => ⟨rfl, rfl⟩)⟩
  · have hne : ¬ q = -1 := fun e => nn_ne (x := p) (by omega) (y := -1) (by decide) (by rw [← hq, e])
    have hcl : q.toNatClampNeg = p := by rw [hq]; exact nI_clamp (by omega)
    have ea : adT S kd q = fd0 (fd2 S kd p) := by unfold adT; rw [if_neg hne, hcl]
    unfold adS
    rw [ea]
    unfold fd2
    by_cases z : S.1 4 kd = 0
    · rw [if_pos z]
      have u1 := iU_addq h.du hk hp (ax' := upd (S.1 4) kd (S.1 4 p)) (by rw [if_pos z])
      have e46 : upd (S.1 46) kd q = upd (S.1 46) kd (nI p) := by rw [hq]
      rw [← e46] at u1
      exact ⟨⟨z1, rfl, hk⟩, h.zn, h.zs, h.zm, h.zt, h.zq, h.zh, h.zf, h.zc, h.rn, h.rs, c1, ⟨h.db.1, c3⟩, c2, u1, s1, g1, v1, b1, g2, v2, h.qy, h.od, h.ht, fr _ _ (fun d hd => ⟨(u_ne (by omega)).symm, (u_ne (by omega)).symm⟩)⟩
    · rw [if_neg z]
      have u1 := iU_addq h.du hk hp (ax' := S.1 4) (by rw [if_neg z])
      have e46 : upd (S.1 46) kd q = upd (S.1 46) kd (nI p) := by rw [hq]
      rw [← e46] at u1
      exact ⟨⟨z1, rfl, hk⟩, h.zn, h.zs, h.zm, h.zt, h.zq, h.zh, h.zf, h.zc, h.rn, h.rs, c1, ⟨h.db.1, c3⟩, c2, u1, s1, g1, v1, b1, g2, v2, h.qy, h.od, h.ht, fr _ _ (fun d hd => ⟨rfl, (u_ne (by omega)).symm⟩)⟩
end
