/- floats: fp x, no NaN and no sign -/
def fp (x : UInt32) : Prop := x.toNat ≤ 2139095040
theorem vfn (r : UInt32) : vf_n32 r ↔ FP.Core.val32 r ≠ .nan := by
  rw [FP.Core.ne_nan32, vf_n32, UInt32.le_iff_toNat_le, FP.Core.mask_toNat32]; rfl
theorem vfn64 (r : UInt64) : vf_n64 r ↔ FP.Core.val64 r ≠ .nan := by
  rw [FP.Core.ne_nan, vf_n64, UInt64.le_iff_toNat_le, FP.Core.mask_toNat]; rfl
theorem fp_val {x : UInt32} : fp x ↔ FP.Core.val32 x ≠ .nan ∧ FP.Core.sgn (FP.Core.val32 x) = false := by
  have hl := x.toNat_lt
  constructor
  · intro h
    have h1 : FP.Core.val32 x ≠ .nan := by rw [FP.Core.ne_nan32]; unfold fp at h; omega
    refine ⟨h1, ?_⟩
    rw [FP.Core.sgn_bits32 h1]; unfold fp at h; exact decide_eq_false (by omega)
  · rintro ⟨h1, h2⟩
    rw [FP.Core.sgn_bits32 h1] at h2
    rw [FP.Core.ne_nan32] at h1
    have := of_decide_eq_false h2
    unfold fp; omega
theorem fp_n {x : UInt32} (h : fp x) : vf_n32 x := (vfn x).mpr (fp_val.mp h).1
theorem sgn_round (f : FP.Core.Fmt) (d : FP.Core.Datum) : FP.Core.sgn (FP.Core.round f d) = FP.Core.sgn d := by
  cases d with
  | nan => rfl
  | inf s => rfl
  | fin s c q => exact FP.Core.sgn_roundRatio f s c 1 q
theorem fp_add {a b : UInt32} (ha : fp a) (hb : fp b) : fp (FP.fadd a b) := by
  rw [fp_val] at ha hb ⊢
  obtain ⟨a1, a2⟩ := ha
  obtain ⟨b1, b2⟩ := hb
  have hv : FP.Core.val32 (FP.fadd a b) = FP.Core.round FP.Core.b32 (FP.Core.exactSum (FP.Core.val32 a) (FP.Core.val32 b)) := FP.Core.val32_fadd a b
  rw [hv, Ne, FP.Core.round_nan, sgn_round]
  generalize FP.Core.val32 a = x at a1 a2
  generalize FP.Core.val32 b = y at b1 b2
  cases x with
  | nan => exact absurd rfl a1
  | inf s =>
    cases y with
    | nan => exact absurd rfl b1
    | inf t =>
      have e1 : s = false := a2
      have e2 : t = false := b2
      subst e1; subst e2
      exact ⟨by simp [FP.Core.exactSum], rfl⟩
    | fin t d r => exact ⟨by simp [FP.Core.exactSum], a2⟩
  | fin s c q =>
    cases y with
    | nan => exact absurd rfl b1
    | inf t => exact ⟨by simp [FP.Core.exactSum], b2⟩
    | fin t d r =>
      have e1 : s = false := a2
      have e2 : t = false := b2
      subst e1; subst e2
      refine ⟨by simp [FP.Core.exactSum], ?_⟩
      show FP.Core.sumSign _ _ _ = false
      unfold FP.Core.sumSign FP.Core.sumUnits FP.Core.signed
      simp only [Bool.false_eq_true, if_false, Bool.false_and]
      split
      · rfl
      · exact decide_eq_false (by omega)
theorem fp_mul {a b : UInt32} (ha : a.toNat < 2139095040) (hb : b.toNat < 2139095040) : fp (FP.fmul a b) := by
  have a0 : fp a := Nat.le_of_lt ha
  have b0 : fp b := Nat.le_of_lt hb
  rw [fp_val] at a0 b0 ⊢
  have a3 : FP.Core.FFin a := (FP.Core.fin_bits32 a).mpr (by omega)
  have b3 : FP.Core.FFin b := (FP.Core.fin_bits32 b).mpr (by omega)
  have hn := (FP.Core.notNaN_iff32 _).mp (FP.Core.fmul_out a3 b3)
  refine ⟨hn, ?_⟩
  have hv : FP.Core.val32 (FP.fmul a b) = FP.Core.round FP.Core.b32 (FP.Core.exactProduct (FP.Core.val32 a) (FP.Core.val32 b)) := FP.Core.val32_fmul a b
  rw [hv, sgn_round]
  obtain ⟨s, c, q, ea⟩ := a3
  obtain ⟨t, d, r, eb⟩ := b3
  have a2 := a0.2
  have b2 := b0.2
  rw [ea] at a2 ⊢
  rw [eb] at b2 ⊢
  have e1 : s = false := a2
  have e2 : t = false := b2
  subst e1; subst e2
  rfl
theorem fp_add0 {a : UInt32} (h : fp a) : FP.fadd a 0 = a := by
  refine FP.Core.fadd_zero (fp_val.mp h).1 ?_
  intro e
  rw [e] at h
  revert h; unfold fp FP.Core.fzeroNeg; decide
theorem fp_addn {a : UInt32} (h : fp a) : FP.fadd a 2147483648 = a := FP.Core.fadd_zeroNeg (fp_val.mp h).1
/- a weight as a float -/
def WF (x : UInt32) : Prop := x.toNat ≤ 1148846080 ∨ x = 2147483648
theorem WF_n {x : UInt32} (h : WF x) : vf_n32 x := by
  rcases h with h | h
  · exact fp_n (show x.toNat ≤ 2139095040 by omega)
  · subst h; unfold vf_n32; decide
/- a code as a float -/
def cK (c : Int32) : UInt32 := FP.fdiv (FP.i2f c) 1098907648
theorem cK_all : ∀ c : Fin 256, (cK (nI c.val)).toNat < 1098907648 := by decide +kernel
theorem cK_lt {c : Int32} (h0 : 0 ≤ c) (h1 : c ≤ 255) : (cK c).toNat < 1098907648 := by
  obtain ⟨j, hj, e⟩ := nI_of (x := c) (by rw [Int32.lt_iff_toInt_lt]; rw [Int32.le_iff_toInt_le] at h0; omega)
  subst e
  have hj2 : j < 256 := by
    rw [Int32.le_iff_toInt_le, nI_toInt hj] at h1
    have : (255 : Int32).toInt = 255 := by decide
    omega
  exact cK_all ⟨j, hj2⟩
theorem cK_0 : cK 0 = 0 := by decide +kernel
theorem mul_n0 {y : UInt32} (h : y.toNat < 2139095040) : FP.fmul 2147483648 y = 2147483648 := by
  obtain ⟨t, d, r, eb⟩ := (FP.Core.fin_bits32 y).mpr (by omega : y.toNat % 2 ^ 31 < 2139095040)
  have hs := (fp_val.mp (show fp y from Nat.le_of_lt h)).2
  rw [eb] at hs
  have e2 : t = false := hs
  subst e2
  have hz : FP.Core.val32 2147483648 = .fin true 0 FP.Core.b32.qmin := FP.Core.val32_fzeroNeg
  refine (FP.Core.val32_inj (by rw [hz]; exact FP.Core.Datum.noConfusion) ?_).symm
  have hv : FP.Core.val32 (FP.fmul 2147483648 y) = FP.Core.round FP.Core.b32 (FP.Core.exactProduct (FP.Core.val32 2147483648) (FP.Core.val32 y)) := FP.Core.val32_fmul _ y
  rw [hv, hz, eb]
  simp [FP.Core.exactProduct, FP.Core.round, FP.Core.roundRatio]
theorem mul_0 {x : UInt32} (h : x.toNat < 2139095040) : FP.fmul x 0 = 0 := by
  obtain ⟨s, c, q, ea⟩ := (FP.Core.fin_bits32 x).mpr (by omega : x.toNat % 2 ^ 31 < 2139095040)
  have hs := (fp_val.mp (show fp x from Nat.le_of_lt h)).2
  rw [ea] at hs
  have e2 : s = false := hs
  subst e2
  have hz : FP.Core.val32 0 = .fin false 0 FP.Core.b32.qmin := FP.Core.val32_zero
  refine (FP.Core.val32_inj (by rw [hz]; exact FP.Core.Datum.noConfusion) ?_).symm
  have hv : FP.Core.val32 (FP.fmul x 0) = FP.Core.round FP.Core.b32 (FP.Core.exactProduct (FP.Core.val32 x) (FP.Core.val32 0)) := FP.Core.val32_fmul x 0
  rw [hv, hz, ea]
  simp [FP.Core.exactProduct, FP.Core.round, FP.Core.roundRatio]
theorem wmul_n {x y : UInt32} (hx : WF x) (hy : y.toNat < 2139095040) : vf_n32 (FP.fmul x y) := by
  rcases hx with h | h
  · exact fp_n (fp_mul (by omega) hy)
  · rw [h, mul_n0 hy]; unfold vf_n32; decide
theorem wadd_fp {a x y : UInt32} (ha : fp a) (hx : WF x) (hy : y.toNat < 2139095040) : fp (FP.fadd a (FP.fmul x y)) := by
  rcases hx with h | h
  · exact fp_add ha (fp_mul (by omega) hy)
  · rw [h, mul_n0 hy, fp_addn ha]; exact ha
theorem wadd_0 {a x : UInt32} (ha : fp a) (hx : WF x) : FP.fadd a (FP.fmul x 0) = a := by
  rcases hx with h | h
  · rw [mul_0 (by omega), fp_add0 ha]
  · rw [h, mul_n0 (by decide), fp_addn ha]
/- comparisons -/
theorem cmpG_lt {x y : UInt32} : cmpG x y < 0 ↔ FP.fcmp x y = some .lt := by
  unfold cmpG Op.cmpValue
  split <;> rename_i h <;> simp [h] 
theorem cmpG_gt {x y : UInt32} (hx : vf_n32 x) (hy : vf_n32 y) : 0 < cmpG y x ↔ cmpG x y < 0 := by
  rw [cmpG_lt]
  rw [vfn] at hx hy
  have h1 : FP.fcmp x y = some (compare (FP.Core.fkey x) (FP.Core.fkey y)) := FP.Core.fcmp_key hx hy
  have h2 : FP.fcmp y x = some (compare (FP.Core.fkey y) (FP.Core.fkey x)) := FP.Core.fcmp_key hy hx
  have h3 : 0 < cmpG y x ↔ FP.fcmp y x = some .gt ∨ FP.fcmp y x = none := by
    unfold cmpG Op.cmpValue
    split <;> rename_i h <;> simp [h]
  rw [h3, h1, h2]
  simp only [Option.some.injEq, reduceCtorEq, or_false]
  rw [FP.Core.compare_lt_iff, FP.Core.compare_gt_iff]
theorem cmpG_ge {x y : UInt32} : 0 ≤ cmpG x y ↔ ¬ cmpG x y < 0 := by
  unfold cmpG Op.cmpValue
  split
  · decide
  · decide
  · decide
  · decide
/- weights -/
theorem isW_cases {w : UInt64} (h : isWX w = true) : w = 0 ∨ w = 9223372036854775808 ∨ (w.toNat ≤ 4652007308841189376) := by
  unfold isWX dL dG at h
  rw [Bool.or_eq_true, Bool.and_eq_true, decide_eq_true_eq, decide_eq_true_eq, decide_eq_true_eq] at h
  rcases h with h | ⟨h1, h2⟩
  · have : FP.dcmp w FP.dconst0 = some .eq := by
      revert h; unfold Op.cmpValue; split <;> rename_i q <;> simp [q]
    rcases FP.Core.zero_bits (t := w) this with e | e
    · exact .inl e
    · exact .inr (.inl e)
  · refine .inr (.inr ?_)
    have e1 : FP.dcmp w 4158027847206421152 = some .gt ∨ FP.dcmp w 4158027847206421152 = some .eq := by
      revert h1; unfold Op.cmpValue; split <;> rename_i q <;> simp [q]
    have hn : FP.Core.val64 w ≠ .nan := by
      rcases e1 with e1 | e1
      · exact (FP.Core.dcmp_some (a := w) (b := 4158027847206421152) e1).1
      · exact (FP.Core.dcmp_some (a := w) (b := 4158027847206421152) e1).1
    have k1 : FP.dcmp w 4158027847206421152 = some (compare (FP.Core.dkey w) (FP.Core.dkey 4158027847206421152)) := FP.Core.dcmp_key hn (by rw [FP.Core.ne_nan]; decide)
    have k2 : FP.dcmp w 4652007308841189376 = some (compare (FP.Core.dkey w) (FP.Core.dkey 4652007308841189376)) := FP.Core.dcmp_key hn (by rw [FP.Core.ne_nan]; decide)
    have v1 : FP.Core.dkey 4158027847206421152 = 4158027847206421152 := by decide
    have v2 : FP.Core.dkey 4652007308841189376 = 4652007308841189376 := by decide
    rw [k1, v1, Option.some.injEq, Option.some.injEq, FP.Core.compare_gt_iff, FP.Core.compare_eq_iff] at e1
    have e2 : ¬ FP.Core.dkey w > 4652007308841189376 := by
      intro q
      apply h2
      rw [k2, v2, (FP.Core.compare_gt_iff _ _).mpr q]
      decide
    unfold FP.Core.dkey at e1 e2
    split at e1
    · omega
    · rw [if_neg (by assumption)] at e2; omega
theorem d2f_c {w : UInt64} (h : w.toNat ≤ 4652007308841189376) : FP.Core.val64 w ≠ .nan ∧ FP.d2f w = FP.Core.d2f w := by
  have hn : FP.Core.val64 w ≠ .nan := by rw [FP.Core.ne_nan]; omega
  exact ⟨hn, FP.d2f_core ((FP.Core.notNaN_iff w).mpr hn)⟩
theorem d2f_le {w : UInt64} (h : w.toNat ≤ 4652007308841189376) : (FP.d2f w).toNat ≤ 1148846080 := by
  obtain ⟨hn, e⟩ := d2f_c h
  rw [e]
  have hv : FP.Core.val32 (FP.Core.d2f w) = FP.Core.round FP.Core.b32 (FP.Core.val64 w) := FP.Core.val32_d2f w
  have hs : FP.Core.sgn (FP.Core.val32 (FP.Core.d2f w)) = false := by
    rw [hv, sgn_round, FP.Core.sgn_bits hn]; exact decide_eq_false (by omega)
  obtain ⟨s, c, q, ew⟩ := (FP.Core.fin_bits w).mpr (by omega : w.toNat % 2 ^ 63 < 9218868437227405312)
  have hz := FP.Core.zmag_bits hn
  rw [ew] at hz hv
  have hm : FP.Core.mag FP.Core.b32 (FP.Core.d2f w).toNat ≤ 1148846080 := by
    refine FP.Core.mag_le FP.Core.good_b32 (e0 := FP.Core.b64.qmin) (hv : FP.Core.decode FP.Core.b32 _ = FP.Core.roundRatio FP.Core.b32 s c 1 q) (by decide) (by decide) ?_ ?_
    · have := FP.Core.val64_fits w; rw [ew] at this; exact this.2.1
    · have hz2 : FP.Core.inUnits c q FP.Core.b64.qmin = FP.Core.unitsOf FP.Core.b64 (w.toNat % 2 ^ 63) := hz
      rw [hz2]
      have hu : FP.Core.unitsOf FP.Core.b64 (w.toNat % 2 ^ 63) ≤ FP.Core.unitsOf FP.Core.b64 4652007308841189376 := FP.Core.unitsOf_le_iff.mpr (by omega)
      refine Nat.le_trans hu ?_
      decide +kernel
  rw [FP.Core.mag_toNat32] at hm
  have hn32 : FP.Core.val32 (FP.Core.d2f w) ≠ .nan := by rw [FP.Core.ne_nan32]; omega
  rw [FP.Core.sgn_bits32 hn32] at hs
  have := of_decide_eq_false hs
  have := (FP.Core.d2f w).toNat_lt
  omega
theorem isW_WF {w : UInt64} (h : isWX w = true) : WF (FP.d2f w) := by
  rcases isW_cases h with e | e | e
  · subst e; exact .inl (d2f_le (by decide))
  · subst e
    refine .inr ?_
    rw [FP.d2f_core (by decide +kernel)]
    decide +kernel
  · exact .inl (d2f_le e)
theorem cd_ok {w : UInt64} (h : isWX w = true) : cdOK w := by
  have hW := isW_WF h
  refine ⟨WF_n hW, wmul_n hW (by decide), ?_⟩
  unfold cdF
  rcases hW with h1 | h1
  · exact fp_n (fp_add (fp_mul (by omega) (by decide)) (show UInt32.toNat 1056964608 ≤ 2139095040 by decide))
  · rw [h1, mul_n0 (by decide)]; unfold vf_n32; decide +kernel
theorem f2i_nn {x : UInt32} (h : fp x) : 0 ≤ FP.f2i x := by
  obtain ⟨h1, h2⟩ := fp_val.mp h
  rw [Int32.le_iff_toInt_le]
  have : (FP.f2i x).toInt = _ := FP.Core.f2i_val h1
  rw [this, h2]
  have : (0 : Int32).toInt = 0 := by decide
  rw [this]
  generalize FP.Core.zmag FP.Core.b32 (FP.Core.val32 x) / FP.Core.one32 = k
  have hk : 0 ≤ FP.Core.signed false k := by unfold FP.Core.signed; rw [if_neg (by decide)]; omega
  generalize FP.Core.signed false k = z at hk
  omega
theorem cdV_b {w : UInt64} (h : isWX w = true) : 0 ≤ cdV w ∧ cdV w ≤ 255 := by
  have h0 : fp (cdF w) := by
    unfold cdF
    rcases isW_WF h with h1 | h1
    · exact fp_add (fp_mul (by omega) (by decide)) (show UInt32.toNat 1056964608 ≤ 2139095040 by decide)
    · rw [h1, mul_n0 (by decide)]; unfold fp; decide +kernel
  have := f2i_nn h0
  unfold cdV
  by_cases q : FP.f2i (cdF w) ≤ 255
  · rw [if_pos q]; exact ⟨this, q⟩
  · rw [if_neg q]; exact ⟨by decide, by decide⟩
theorem f2d_n {x : UInt32} (h : vf_n32 x) : vf_n64 (FP.f2d x) := by
  rw [vfn] at h
  rw [vfn64]
  have h1 := (FP.Core.notNaN_iff32 x).mpr h
  rw [FP.f2d_core h1]
  exact (FP.Core.notNaN_iff _).mp (FP.Core.f2d_out h1)
theorem dL_self {w : UInt64} (h : vf_n64 w) : dL w w = 0 := by
  rw [vfn64] at h
  have k1 : FP.dcmp w w = some (compare (FP.Core.dkey w) (FP.Core.dkey w)) := FP.Core.dcmp_key h h
  unfold dL
  rw [k1, (FP.Core.compare_eq_iff _ _).mpr rfl]
  rfl
