theorem st_Zs {args : Array Value} {s : State} {n d : String} (hl : (Cond.laysStatic "java/lang/Throwable" n d).before args s = true) (hr : (Cond.isRef (.static "java/lang/Throwable" n d)).before args s = true) : vs_Zs s.heap.size n d s s.heap := by
  obtain ⟨c, k, i, f, a, cell, hc, hi, hst, ha, hcell, hs, hcls, hlt, hty⟩ := Cond.laysStatic_spec hl
  cases hv : (Term.static "java/lang/Throwable" n d).eval args s none [] s with
  | none => simp [Cond.before, Cond.holds, Cond.value, hv] at hr
  | some w =>
    obtain ⟨hst', a', cell', ha', hcell', -, hslot⟩ := Term.static_spec hi hv
    cases ha.symm.trans ha'
    cases hcell.symm.trans hcell'
    refine ⟨c, k, i, f, a, cell, w, hc, hi, hst, ha, hcell, hs, hcls, hlt, hty, hslot, ?_, (Array.getElem?_eq_some_iff.mp hcell).1⟩
    simp only [Cond.before, Cond.holds, Cond.value, hv] at hr
    cases w with
    | null => exact .inl rfl
    | ref t => exact .inr ⟨t, rfl⟩
    | _ => simp at hr
theorem st_nc {args : Array Value} {s : State} {x y : String} (h : (Cond.not (Cond.castable x y)).before args s = true) : vs_nc x y s := by
  intro ca cb h1 h2
  simpa [Cond.before, Cond.holds, Cond.value, h1, h2] using h
theorem st_arr {args : Array Value} {s : State} {ty : FieldType} (h : (Cond.arrayClass ty).before args s = true) : ∃ cA, ArrOfT s cA ty ∧ s.vm.findClass ("[" ++ ty.toString) = some cA := by
  obtain ⟨cA, kA, comp, h1, h2, h3⟩ := Cond.arrayClass_spec h
  exact ⟨cA, fun n z => ⟨fun k h => (by cases h), kA, h2, comp, h3⟩, h1⟩
theorem st_K {args : Array Value} {s : State} (hts : ∀ w ∈ gT, w.before args s = true) : ∃ (D : va_G) (aC : Nat → ClassId), va_K D vwCl (vs_t aC) s := by
  obtain ⟨c0, i0, k0⟩ := u_known hts inD (hts _ w_30)
  obtain ⟨c1, i1, k1⟩ := u_known hts inF (hts _ w_59)
  obtain ⟨c2, i2, k2⟩ := u_known hts inH (hts _ w_119)
  obtain ⟨c3, i3, k3⟩ := u_known hts inQ (hts _ w_88)
  obtain ⟨c4, i4, k4⟩ := u_known hts inR (hts _ w_148)
  obtain ⟨c5, i5, k5⟩ := u_known hts inS (hts _ w_166)
  obtain ⟨c6, i6, k6⟩ := u_known hts inV (hts _ w_142)
  obtain ⟨c7, i7, k7⟩ := u_known hts inX (hts _ w_22)
  obtain ⟨c8, i8, k8⟩ := u_known hts inM (hts _ w_664)
  obtain ⟨a0, e0, f0⟩ := st_arr (hts _ w_57)
  obtain ⟨a1, e1, f1⟩ := st_arr (hts _ w_86)
  obtain ⟨a2, e2, f2⟩ := st_arr (hts _ w_116)
  obtain ⟨a3, e3, f3⟩ := st_arr (hts _ w_117)
  obtain ⟨a4, e4, f4⟩ := st_arr (hts _ w_790)
  refine ⟨((fun j => if j = 0 then c0 else if j = 1 then c1 else if j = 2 then c2 else if j = 3 then c3 else if j = 4 then c4 else if j = 5 then c5 else if j = 6 then c6 else if j = 7 then c7 else c8), (fun j => if j = 0 then i0 else if j = 1 then i1 else if j = 2 then i2 else if j = 3 then i3 else if j = 4 then i4 else if j = 5 then i5 else if j = 6 then i6 else if j = 7 then i7 else i8)), (fun j => if j = 0 then a0 else if j = 1 then a1 else if j = 2 then a2 else if j = 3 then a3 else a4), ⟨fun c q hq => ?_, fun k q hk => ?_⟩⟩
  · match c, hq with
    | 0, hq => cases hq; exact k0
    | 1, hq => cases hq; exact k1
    | 2, hq => cases hq; exact k2
    | 3, hq => cases hq; exact k3
    | 4, hq => cases hq; exact k4
    | 5, hq => cases hq; exact k5
    | 6, hq => cases hq; exact k6
    | 7, hq => cases hq; exact k7
    | 8, hq => cases hq; exact k8
    | n + 9, hq => exact absurd hq (by simp)
  · match k, hk with
    | 0, hk => cases hk; exact ⟨e0, f0⟩
    | 1, hk => cases hk; exact ⟨e1, f1⟩
    | 2, hk => cases hk; exact ⟨e2, f2⟩
    | 3, hk => cases hk; exact ⟨e3, f3⟩
    | 4, hk => cases hk; exact ⟨e4, f4⟩
    | n + 5, hk => exact absurd hk (by simp [vs_t])
