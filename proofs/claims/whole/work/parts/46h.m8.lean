/- filters: rows as lists -/
def Lr {α : Type} (F : Nat → α) (k : Nat) : List α := (List.range k).map F
theorem Lr_len {α : Type} (F : Nat → α) (k : Nat) : (Lr F k).length = k := by rw [Lr, List.length_map, List.length_range]
theorem Lr_mem {α : Type} {F : Nat → α} {k : Nat} {x : α} : x ∈ Lr F k ↔ ∃ j, j < k ∧ F j = x := by
  rw [Lr, List.mem_map]
  constructor
  · rintro ⟨j, h1, h2⟩; exact ⟨j, List.mem_range.mp h1, h2⟩
  · rintro ⟨j, h1, h2⟩; exact ⟨j, List.mem_range.mpr h1, h2⟩
theorem Lr_s {α : Type} (F : Nat → α) (k : Nat) : Lr F (k + 1) = Lr F k ++ [F k] := by
  rw [Lr, List.range_succ, List.map_append]; rfl
theorem Lr_ext {α : Type} {F G : Nat → α} {k : Nat} (h : ∀ j, j < k → F j = G j) : Lr F k = Lr G k :=
  List.map_congr_left (fun j hj => h j (List.mem_range.mp hj))
theorem Lr_up {α : Type} (F : Nat → α) (k : Nat) (v : α) : Lr (fun q => if q = k then v else F q) (k + 1) = Lr F k ++ [v] := by
  rw [Lr_s]
  congr 1
  · exact Lr_ext (fun j hj => if_neg (by omega))
  · simp
theorem Lr_sp {α : Type} (F : Nat → α) (j : Nat) : ∀ m, Lr F (j + 1 + m) = Lr F j ++ F j :: (List.range' (j + 1) m).map F
  | 0 => by rw [show j + 1 + 0 = j + 1 from rfl, Lr_s]; rfl
  | m + 1 => by
    rw [show j + 1 + (m + 1) = (j + 1 + m) + 1 from rfl, Lr_s, Lr_sp F j m, List.range'_1_concat, List.map_append]
    simp
theorem Lr_cut {α : Type} (F : Nat → α) {j k : Nat} (h : j ≤ k) : ∃ A B, Lr F (k + 1) = A ++ F j :: B ∧ Lr (sh F j k) k = A ++ B ∧ (∀ v, Lr (fun q => if q = j then v else F q) (k + 1) = A ++ v :: B) ∧ A = Lr F j := by
  obtain ⟨m, e⟩ : ∃ m, k = j + m := ⟨k - j, by omega⟩
  subst e
  refine ⟨Lr F j, (List.range' (j + 1) m).map F, ?_, ?_, ?_, rfl⟩
  · rw [← Lr_sp, show j + m + 1 = j + 1 + m by omega]
  · induction m with
    | zero => rw [Nat.add_zero, sh_0]; simp
    | succ m ih =>
      rw [show j + (m + 1) = (j + m) + 1 from rfl, Lr_s, List.range'_1_concat, List.map_append, ← List.append_assoc, ← ih (by omega)]
      congr 1
      · exact Lr_ext (fun q hq => by unfold sh; by_cases c : j ≤ q ∧ q < j + m; rw [if_pos c, if_pos (by omega)]; rw [if_neg c, if_neg (by omega)])
      · show [sh F j (j + m + 1) (j + m)] = [F (j + 1 + m)]
        unfold sh
        rw [if_pos (by omega), show j + m + 1 = j + 1 + m by omega]
  · intro v
    rw [show j + m + 1 = j + 1 + m by omega, Lr_sp]
    have e1 : Lr (fun q => if q = j then v else F q) j = Lr F j := Lr_ext (fun q hq => if_neg (by omega))
    rw [e1]
    congr 2
    · exact if_pos rfl
    · exact List.map_congr_left (fun q hq => if_neg (by have := (List.mem_range'_1.mp hq).1; omega))
def FX (f : ft) (j : Nat) : Int32 × Int32 × Int64 := (f.1 j, f.2.1 j, f.2.2.1 j)
def FM (g : fm) (j : Nat) : Int32 × Int32 × Int32 := (g.1 j, g.2.1 j, g.2.2.1 j)
def fx (rb : Nat → Nat → Nat) (z : Nat × Nat × Nat) : Int32 × Int32 × Int64 := (nI z.1, nI z.2.1, lN (rb z.1 z.2.1))
def fmz (σ : Nat → Nat) (z : Nat × Nat × Nat) : Int32 × Int32 × Int32 := (nI (σ z.1), nI z.2.1, nI z.2.2)
def zT (x y : Nat × Nat × Nat) : Prop := x.2.2 < y.2.2
def zN (x y : Nat × Nat × Nat) : Prop := ¬ (x.1 = y.1 ∧ x.2.1 = y.2.1)
def sOK (σ : Nat → Nat) (km : Nat) : Prop := km < 2 ^ 30 ∧ (∀ a, a < km → σ a < 2 ^ 30) ∧ ∀ a b, a < km → b < km → σ a = σ b → a = b
def FR (σ : Nat → Nat) (rb : Nat → Nat → Nat) (km c : Nat) (f : ft) (g : fm) : Prop :=
  f.2.2.2.1 = g.2.2.2.1 ∧ f.2.2.2.1 ≤ 5 ∧ f.2.2.2.2.1 = g.2.2.2.2.1 ∧ f.2.2.2.2.2 = g.2.2.2.2.2.1 ∧ g.2.2.2.2.2.2 = nI c ∧
  ∃ Z : List (Nat × Nat × Nat), Lr (FX f) f.2.2.2.1 = Z.map (fx rb) ∧ (Lr (FM g) f.2.2.2.1).Perm (Z.map (fmz σ)) ∧ Z.Pairwise zT ∧ Z.Pairwise zN ∧ ∀ z, z ∈ Z → z.1 < km ∧ z.2.1 < 8 ∧ z.2.2 ≤ c
theorem pw_uniq {Z : List (Nat × Nat × Nat)} (h : Z.Pairwise zN) {x y : Nat × Nat × Nat} (hx : x ∈ Z) (hy : y ∈ Z) (e1 : x.1 = y.1) (e2 : x.2.1 = y.2.1) : x = y := by
  induction Z with
  | nil => simp at hx
  | cons z Z ih =>
    obtain ⟨p1, p2⟩ := List.pairwise_cons.mp h
    rcases List.mem_cons.mp hx with ex | hx2
    · rcases List.mem_cons.mp hy with ey | hy2
      · rw [ex, ey]
      · subst ex; exact absurd ⟨e1, e2⟩ (p1 y hy2)
    · rcases List.mem_cons.mp hy with ey | hy2
      · subst ey; exact absurd ⟨e1.symm, e2.symm⟩ (p1 x hx2)
      · exact ih p2 hx2 hy2
theorem nIq {a b : Nat} (ha : a < 2 ^ 31) (hb : b < 2 ^ 31) (h : nI a = nI b) : a = b := by
  have := nI_clamp ha
  rw [h, nI_clamp hb] at this
  exact this.symm
theorem oldI_min (t : Nat → Int32) : ∀ n j, j < n → ¬ t j < t (oldI t n)
  | 0, j, h => by omega
  | n + 1, j, h => by
    rw [oldI]
    by_cases c : t n < t (oldI t n)
    · rw [if_pos c]
      by_cases e : j = n
      · subst e; rw [Int32.lt_iff_toInt_lt]; omega
      · have := oldI_min t n j (by omega)
        rw [Int32.lt_iff_toInt_lt] at this c ⊢; omega
    · rw [if_neg c]
      by_cases e : j = n
      · subst e; exact c
      · exact oldI_min t n j (by omega)
theorem FX_re (f : ft) (j k : Nat) (hk : f.2.2.2.1 = k + 1) : FX (flRe f j) = fun q => if q = k then FX f j else sh (FX f) j k q := by
  funext q
  unfold FX flRe upd vp_updL sh
  simp only [hk, Nat.add_sub_cancel]
  by_cases c : q = k
  · simp [c]
  · simp only [c, if_false]
    split <;> rfl
theorem sh_FM (g : fm) (j k q : Nat) : (sh g.1 j k q, sh g.2.1 j k q, sh g.2.2.1 j k q) = sh (FM g) j k q := by
  unfold sh FM
  split <;> rfl
theorem sh_FX (f : ft) (j k q : Nat) : (sh f.1 j k q, sh f.2.1 j k q, sh f.2.2.1 j k q) = sh (FX f) j k q := by
  unfold sh FX
  split <;> rfl
theorem fuse_eq {σ : Nat → Nat} {rb : Nat → Nat → Nat} {km c : Nat} {f : ft} {g : fm} (R : FR σ rb km c f g) (ho : sOK σ km) (hc : c + 1 < 2 ^ 30) {a u : Nat} (ha : a < km) (hu : u < 8) (S : vs_S) (kd : Nat) (ids : Int64) (hr : rd S ids (xTok S (nI u)) kd = lN (rb a u)) :
    (fUse S kd (nI u) (nI a) ids f).1 = lN (rb a u) ∧ FR σ rb km (c + 1) (fUse S kd (nI u) (nI a) ids f).2 (mUse (nI (σ a)) (nI u) g) := by
  obtain ⟨e1, e2, e3, e4, e5, Z, z1, z2, z3, z4, z5⟩ := R
  obtain ⟨o1, o2, o3⟩ := ho
  have hX : ∀ j, j < f.2.2.2.1 → ∃ z, z ∈ Z ∧ FX f j = fx rb z := by
    intro j hj
    have : FX f j ∈ Lr (FX f) f.2.2.2.1 := Lr_mem.mpr ⟨j, hj, rfl⟩
    rw [z1, List.mem_map] at this
    obtain ⟨z, q1, q2⟩ := this
    exact ⟨z, q1, q2.symm⟩
  have hMr : ∀ j, j < f.2.2.2.1 → ∃ z, z ∈ Z ∧ FM g j = fmz σ z := by
    intro j hj
    have : FM g j ∈ Lr (FM g) f.2.2.2.1 := Lr_mem.mpr ⟨j, hj, rfl⟩
    rw [z2.mem_iff, List.mem_map] at this
    obtain ⟨z, q1, q2⟩ := this
    exact ⟨z, q1, q2.symm⟩
  have hMz : ∀ z, z ∈ Z → ∃ j, j < f.2.2.2.1 ∧ FM g j = fmz σ z := by
    intro z hz
    have : fmz σ z ∈ Lr (FM g) f.2.2.2.1 := z2.mem_iff.mpr (List.mem_map_of_mem hz)
    exact Lr_mem.mp this
  have hXz : ∀ z, z ∈ Z → ∃ j, j < f.2.2.2.1 ∧ FX f j = fx rb z := by
    intro z hz
    have : fx rb z ∈ Lr (FX f) f.2.2.2.1 := by rw [z1]; exact List.mem_map_of_mem hz
    exact Lr_mem.mp this
  have iX : ∀ z, z ∈ Z → nI z.1 = nI a → nI z.2.1 = nI u → z.1 = a ∧ z.2.1 = u := by
    intro z hz h1 h2
    obtain ⟨q1, q2, _⟩ := z5 z hz
    exact ⟨nIq (by omega) (by omega) h1, nIq (by omega) (by omega) h2⟩
  have iM : ∀ z, z ∈ Z → nI (σ z.1) = nI (σ a) → nI z.2.1 = nI u → z.1 = a ∧ z.2.1 = u := by
    intro z hz h1 h2
    obtain ⟨q1, q2, _⟩ := z5 z hz
    have s1 := o2 z.1 q1
    have s2 := o2 a ha
    exact ⟨o3 z.1 a q1 ha (nIq (by omega) (by omega) h1), nIq (by omega) (by omega) h2⟩
  unfold fUse mUse
  cases hp : pl f.1 f.2.1 (nI a) (nI u) f.2.2.2.1 with
  | some j =>
    obtain ⟨p1, ⟨p2, p3⟩, _⟩ := pl_some.mp hp
    obtain ⟨z, zm, ze⟩ := hX j p1
    obtain ⟨za, zu⟩ := iX z zm (by rw [← p2]; exact (congrArg Prod.fst ze).symm) (by rw [← p3]; exact (congrArg (fun t => t.2.1) ze).symm)
    have hMs : ∃ j', pl g.1 g.2.1 (nI (σ a)) (nI u) g.2.2.2.1 = some j' := by
      cases hq : pl g.1 g.2.1 (nI (σ a)) (nI u) g.2.2.2.1 with
      | some j' => exact ⟨j', rfl⟩
      | none =>
        obtain ⟨j', h1, h2⟩ := hMz z zm
        refine absurd ⟨?_, ?_⟩ (pl_none.mp hq j' (by omega))
        · rw [← za]; exact congrArg Prod.fst h2
        · rw [← zu]; exact congrArg (fun t => t.2.1) h2
    obtain ⟨j', hj'⟩ := hMs
    rw [hj']
    obtain ⟨r1, ⟨r2, r3⟩, _⟩ := pl_some.mp hj'
    obtain ⟨z', zm', ze'⟩ := hMr j' (by omega)
    obtain ⟨za', zu'⟩ := iM z' zm' (by rw [← r2]; exact (congrArg Prod.fst ze').symm) (by rw [← r3]; exact (congrArg (fun t => t.2.1) ze').symm)
    have hzz : z' = z := pw_uniq z4 zm' zm (by omega) (by omega)
    subst hzz
    refine ⟨?_, ?_⟩
    · show f.2.2.1 j = _
      have : (FX f j).2.2 = (fx rb z').2.2 := congrArg (fun t => t.2.2) ze
      rw [show f.2.2.1 j = (FX f j).2.2 from rfl, this, ← za, ← zu]; rfl
    · obtain ⟨k, hk⟩ : ∃ k, f.2.2.2.1 = k + 1 := ⟨f.2.2.2.1 - 1, by omega⟩
      obtain ⟨A, B, c1, c2, _, _⟩ := Lr_cut (FX f) (j := j) (k := k) (by omega)
      obtain ⟨A', B', d1, _, d3, _⟩ := Lr_cut (FM g) (j := j') (k := k) (by omega)
      rw [hk] at z1 z2
      rw [c1] at z1
      rw [d1, ze'] at z2
      obtain ⟨Z1, Z2', w1, w2, w3⟩ := List.map_eq_append_iff.mp z1.symm
      obtain ⟨z0, Z2, w4, w5, w6⟩ := List.map_eq_cons_iff.mp w3
      subst w4
      subst w1
      have hz0 : z0 = z' := by
        have hm0 : z0 ∈ Z1 ++ z0 :: Z2 := by simp
        rw [w5.symm] at ze
        obtain ⟨q1, q2, _⟩ := z5 z0 hm0
        obtain ⟨q3, q4, _⟩ := z5 z' zm'
        exact pw_uniq z4 hm0 zm' (nIq (by omega) (by omega) (congrArg Prod.fst ze)) (nIq (by omega) (by omega) (congrArg (fun t => t.2.1) ze))
      subst hz0
      have hperm : (A' ++ B').Perm ((Z1 ++ Z2).map (fmz σ)) := by
        rw [List.map_append, List.map_cons] at z2
        rw [List.map_append]
        exact List.Perm.cons_inv ((List.perm_middle.symm.trans z2).trans List.perm_middle)
      have sub1 : (Z1 ++ Z2).Sublist (Z1 ++ z0 :: Z2) := List.Sublist.append_left (List.sublist_cons_self _ _) _
      refine ⟨by show f.2.2.2.1 = g.2.2.2.1; exact e1, e2, e3, by show f.2.2.2.2.2 + 1 = g.2.2.2.2.2.1 + 1; rw [e4], by show g.2.2.2.2.2.2 + 1 = _; rw [e5, nI_succ], (Z1 ++ Z2) ++ [(a, u, c + 1)], ?_, ?_, ?_, ?_, ?_⟩
      · show Lr (FX (flRe f j)) f.2.2.2.1 = _
        rw [hk, FX_re f j k hk, Lr_up, c2, List.map_append, List.map_append, w2, w6, ← w5]
        congr 1
        show [fx rb z0] = [fx rb (a, u, c + 1)]
        unfold fx
        rw [za', zu']
      · show (Lr (FM (fmH g j')) f.2.2.2.1).Perm _
        have eF : FM (fmH g j') = fun q => if q = j' then fmz σ (a, u, c + 1) else FM g q := by
          funext q
          unfold FM fmH upd fmz
          by_cases cq : q = j'
          · subst cq
            simp only [if_true]
            rw [e5, ← nI_succ, r2, r3]
          · simp only [cq, if_false]
        rw [hk, eF, d3, List.map_append]
        refine List.perm_middle.trans ?_
        refine List.Perm.trans ?_ List.perm_append_comm
        exact List.Perm.cons _ hperm
      · rw [List.pairwise_append]
        refine ⟨List.Pairwise.sublist sub1 z3, by simp, ?_⟩
        intro x hx y hy
        have : y = (a, u, c + 1) := by simpa using hy
        subst this
        have := (z5 x (sub1.mem hx)).2.2
        show x.2.2 < c + 1
        omega
      · rw [List.pairwise_append]
        refine ⟨List.Pairwise.sublist sub1 z4, by simp, ?_⟩
        intro x hx y hy
        have : y = (a, u, c + 1) := by simpa using hy
        subst this
        rintro ⟨q1, q2⟩
        rw [List.pairwise_append] at z4
        obtain ⟨n1, n2, n3⟩ := z4
        rcases List.mem_append.mp hx with hx | hx
        · exact n3 x hx z0 List.mem_cons_self ⟨by rw [q1, za'], by rw [q2, zu']⟩
        · exact (List.pairwise_cons.mp n2).1 x hx ⟨by rw [q1, za'], by rw [q2, zu']⟩
      · intro z hz
        rcases List.mem_append.mp hz with hz | hz
        · obtain ⟨q1, q2, q3⟩ := z5 z (sub1.mem hz)
          exact ⟨q1, q2, by omega⟩
        · have : z = (a, u, c + 1) := by simpa using hz
          subst this
          exact ⟨ha, hu, Nat.le_refl _⟩
  | none =>
    have hno : ∀ z, z ∈ Z → ¬ (z.1 = a ∧ z.2.1 = u) := by
      rintro z hz ⟨q1, q2⟩
      obtain ⟨j, h1, h2⟩ := hXz z hz
      refine absurd ⟨?_, ?_⟩ (pl_none.mp hp j h1)
      · rw [← q1]; exact congrArg Prod.fst h2
      · rw [← q2]; exact congrArg (fun t => t.2.1) h2
    have hMs : pl g.1 g.2.1 (nI (σ a)) (nI u) g.2.2.2.1 = none := by
      cases hq : pl g.1 g.2.1 (nI (σ a)) (nI u) g.2.2.2.1 with
      | none => rfl
      | some j' =>
        obtain ⟨r1, ⟨r2, r3⟩, _⟩ := pl_some.mp hq
        obtain ⟨z', zm', ze'⟩ := hMr j' (by omega)
        exact absurd (iM z' zm' (by rw [← r2]; exact (congrArg Prod.fst ze').symm) (by rw [← r3]; exact (congrArg (fun t => t.2.1) ze').symm)) (hno z' zm')
    rw [hMs]
    refine ⟨hr, ?_⟩
    have fin : ∀ (Z0 : List (Nat × Nat × Nat)), Z0.Sublist Z → (Z0 ++ [(a, u, c + 1)]).Pairwise zT ∧ (Z0 ++ [(a, u, c + 1)]).Pairwise zN ∧ ∀ z, z ∈ Z0 ++ [(a, u, c + 1)] → z.1 < km ∧ z.2.1 < 8 ∧ z.2.2 ≤ c + 1 := by
      intro Z0 sub1
      refine ⟨?_, ?_, ?_⟩
      · rw [List.pairwise_append]
        refine ⟨List.Pairwise.sublist sub1 z3, by simp, ?_⟩
        intro x hx y hy
        have : y = (a, u, c + 1) := by simpa using hy
        subst this
        have := (z5 x (sub1.mem hx)).2.2
        show x.2.2 < c + 1
        omega
      · rw [List.pairwise_append]
        refine ⟨List.Pairwise.sublist sub1 z4, by simp, ?_⟩
        intro x hx y hy
        have : y = (a, u, c + 1) := by simpa using hy
        subst this
        exact hno x (sub1.mem hx)
      · intro z hz
        rcases List.mem_append.mp hz with hz | hz
        · obtain ⟨q1, q2, q3⟩ := z5 z (sub1.mem hz)
          exact ⟨q1, q2, by omega⟩
        · have : z = (a, u, c + 1) := by simpa using hz
          subst this
          exact ⟨ha, hu, Nat.le_refl _⟩
    unfold flNew fmN
    by_cases h5 : f.2.2.2.1 = 5
    · rw [if_pos h5, if_pos (by omega)]
      obtain ⟨A, B, c1, c2, _, c4⟩ := Lr_cut (FX f) (j := 0) (k := 4) (by omega)
      have hold : oldI g.2.2.1 5 < 5 := by have := oldI_le g.2.2.1 5; omega
      obtain ⟨A', B', d1, d2, _, _⟩ := Lr_cut (FM g) (j := oldI g.2.2.1 5) (k := 4) (by omega)
      rw [h5] at z1 z2
      have hA : A = [] := by rw [c4]; rfl
      rw [c1, hA, List.nil_append] at z1
      obtain ⟨z0, Z2, w4, w5, w6⟩ := List.map_eq_cons_iff.mp z1.symm
      subst w4
      have hm0 : FM g (oldI g.2.2.1 5) = fmz σ z0 := by
        obtain ⟨z', zm', ze'⟩ := hMr (oldI g.2.2.1 5) (by omega)
        rcases List.mem_cons.mp zm' with e | e
        · rw [ze', e]
        · exfalso
          have hlt : z0.2.2 < z'.2.2 := (List.pairwise_cons.mp z3).1 z' e
          obtain ⟨j0, j1, j2⟩ := hMz z0 List.mem_cons_self
          have hmin := oldI_min g.2.2.1 5 j0 (by omega)
          apply hmin
          have t1 : g.2.2.1 j0 = nI z0.2.2 := congrArg (fun t => t.2.2) j2
          have t2 : g.2.2.1 (oldI g.2.2.1 5) = nI z'.2.2 := congrArg (fun t => t.2.2) ze'
          rw [t1, t2]
          have := (z5 z' zm').2.2
          exact nI_lt hlt (by omega)
      have hperm : (A' ++ B').Perm (Z2.map (fmz σ)) := by
        rw [d1, hm0, List.map_cons] at z2
        exact List.Perm.cons_inv (List.perm_middle.symm.trans z2)
      obtain ⟨f1, f2, f3⟩ := fin Z2 (List.sublist_cons_self _ _)
      refine ⟨rfl, Nat.le_refl _, by show f.2.2.2.2.1 + 1 = g.2.2.2.2.1 + 1; rw [e3], e4, by show g.2.2.2.2.2.2 + 1 = _; rw [e5, nI_succ], Z2 ++ [(a, u, c + 1)], ?_, ?_, f1, f2, f3⟩
      · show Lr (FX _) 5 = _
        have eF : FX (upd (sh f.1 0 4) 4 (nI a), upd (sh f.2.1 0 4) 4 (nI u), vp_updL (sh f.2.2.1 0 4) 4 (rd S ids (xTok S (nI u)) kd), 5, f.2.2.2.2.1 + 1, f.2.2.2.2.2) = fun q => if q = 4 then fx rb (a, u, c + 1) else sh (FX f) 0 4 q := by
          funext q
          rw [← sh_FX]
          unfold FX upd vp_updL fx
          by_cases cq : q = 4
          · simp only [cq, if_true]; rw [hr]
          · simp only [cq, if_false]
        rw [eF, show (5 : Nat) = 4 + 1 from rfl, Lr_up, c2, hA, List.nil_append, ← w6, List.map_append]; rfl
      · show (Lr (FM _) 5).Perm _
        have eF : FM (upd (sh g.1 (oldI g.2.2.1 5) 4) 4 (nI (σ a)), upd (sh g.2.1 (oldI g.2.2.1 5) 4) 4 (nI u), upd (sh g.2.2.1 (oldI g.2.2.1 5) 4) 4 (g.2.2.2.2.2.2 + 1), 5, g.2.2.2.2.1 + 1, g.2.2.2.2.2.1, g.2.2.2.2.2.2 + 1) = fun q => if q = 4 then fmz σ (a, u, c + 1) else sh (FM g) (oldI g.2.2.1 5) 4 q := by
          funext q
          rw [← sh_FM]
          unfold FM upd fmz
          by_cases cq : q = 4
          · simp only [cq, if_true]; rw [e5, ← nI_succ]
          · simp only [cq, if_false]
        rw [eF, show (5 : Nat) = 4 + 1 from rfl, Lr_up, d2, List.map_append]
        exact List.Perm.append_right _ hperm
    · rw [if_neg h5, if_neg (by omega)]
      obtain ⟨f1, f2, f3⟩ := fin Z (List.Sublist.refl _)
      refine ⟨by show f.2.2.2.1 + 1 = g.2.2.2.1 + 1; rw [e1], by show f.2.2.2.1 + 1 ≤ 5; omega, by show f.2.2.2.2.1 + 1 = g.2.2.2.2.1 + 1; rw [e3], e4, by show g.2.2.2.2.2.2 + 1 = _; rw [e5, nI_succ], Z ++ [(a, u, c + 1)], ?_, ?_, f1, f2, f3⟩
      · show Lr (FX _) (f.2.2.2.1 + 1) = _
        have eF : FX (upd f.1 f.2.2.2.1 (nI a), upd f.2.1 f.2.2.2.1 (nI u), vp_updL f.2.2.1 f.2.2.2.1 (rd S ids (xTok S (nI u)) kd), f.2.2.2.1 + 1, f.2.2.2.2.1 + 1, f.2.2.2.2.2) = fun q => if q = f.2.2.2.1 then fx rb (a, u, c + 1) else FX f q := by
          funext q
          unfold FX upd vp_updL fx
          by_cases cq : q = f.2.2.2.1
          · simp only [cq, if_true]; rw [hr]
          · simp only [cq, if_false]
        rw [eF, Lr_up, z1, List.map_append]; rfl
      · show (Lr (FM _) (f.2.2.2.1 + 1)).Perm _
        have eF : FM (upd g.1 g.2.2.2.1 (nI (σ a)), upd g.2.1 g.2.2.2.1 (nI u), upd g.2.2.1 g.2.2.2.1 (g.2.2.2.2.2.2 + 1), g.2.2.2.1 + 1, g.2.2.2.2.1 + 1, g.2.2.2.2.2.1, g.2.2.2.2.2.2 + 1) = fun q => if q = f.2.2.2.1 then fmz σ (a, u, c + 1) else FM g q := by
          funext q
          rw [← e1]
          unfold FM upd fmz
          by_cases cq : q = f.2.2.2.1
          · simp only [cq, if_true]; rw [e5, ← nI_succ]
          · simp only [cq, if_false]
        rw [eF, Lr_up, List.map_append]
        exact List.Perm.append_right _ z2
