/-- the FILTERS by themselves: SEGMENTS, USERS, READABLE, how many KEPT, MADE, REUSED -/
abbrev ft : Type := (Nat → Int32) × (Nat → Int32) × (Nat → Int64) × Nat × Int32 × Int32
def xFl (S : vs_S) (f : ft) : vs_S := vs_ui (vs_ui (vs_ui (vs_uL (vs_uI (vs_uI S 7 f.1) 8 f.2.1) 9 f.2.2.1) 6 3 (nI f.2.2.2.1)) 6 4 f.2.2.2.2.1) 6 5 f.2.2.2.2.2
def flRe (f : ft) (j : Nat) : ft := (upd (sh f.1 j (f.2.2.2.1 - 1)) (f.2.2.2.1 - 1) (f.1 j), upd (sh f.2.1 j (f.2.2.2.1 - 1)) (f.2.2.2.1 - 1) (f.2.1 j), vp_updL (sh f.2.2.1 j (f.2.2.2.1 - 1)) (f.2.2.2.1 - 1) (f.2.2.1 j), f.2.2.2.1, f.2.2.2.2.1, f.2.2.2.2.2 + 1)
def flNew (f : ft) (x u : Int32) (r : Int64) : ft := if f.2.2.2.1 = 5 then (upd (sh f.1 0 4) 4 x, upd (sh f.2.1 0 4) 4 u, vp_updL (sh f.2.2.1 0 4) 4 r, 5, f.2.2.2.2.1 + 1, f.2.2.2.2.2) else (upd f.1 f.2.2.2.1 x, upd f.2.1 f.2.2.2.1 u, vp_updL f.2.2.1 f.2.2.2.1 r, f.2.2.2.1 + 1, f.2.2.2.2.1 + 1, f.2.2.2.2.2)
theorem mem_congr6 {S T : vs_S} {v w : Int32} (h : v = w) (e : vs_mem (vs_ui S 6 3 v) = vs_mem (vs_ui T 6 3 v)) : vs_mem (vs_ui S 6 3 v) = vs_mem (vs_ui T 6 3 w) := by rw [e, h]
theorem nI_sa (k : Nat) : nI k - 1 + 1 = nI k := Int32.sub_add_cancel _ _
set_option maxRecDepth 100000 in
theorem fRe_x (S : vs_S) (f : ft) (h : hp) (bl df : Int32) (j : Nat) : vs_mem (fRe (xS (xFl S f) h bl df) j f.2.2.2.1) = vs_mem (xS (xFl S (flRe f j)) h bl df) := by
  have e1 : vs_mem (fRe (xS (xFl S f) h bl df) j f.2.2.2.1) = vs_mem (vs_ui (xS (xFl S (flRe f j)) h bl df) 6 3 (nI f.2.2.2.1 - 1 + 1)) := rfl
  rw [e1, nI_sa]
  rfl
set_option maxRecDepth 100000 in
theorem fNew_x (S : vs_S) (f : ft) (h : hp) (bl df : Int32) (x u : Int32) (r : Int64) : vs_mem (fNew (xS (xFl S f) h bl df) f.2.2.2.1 x u r) = vs_mem (xS (xFl S (flNew f x u r)) h bl df) := by
  unfold fNew flNew
  by_cases hk : f.2.2.2.1 = 5
  · rw [if_pos hk, if_pos hk]
    have e1 : vs_mem (vs_ui (fApp (fDrop (xS (xFl S f) h bl df) 0 5) 4 x u r) 6 4 ((xS (xFl S f) h bl df).2.2.2.2.1 6 4 + 1)) = vs_mem (vs_ui (xS (xFl S (upd (sh f.1 0 4) 4 x, upd (sh f.2.1 0 4) 4 u, vp_updL (sh f.2.2.1 0 4) 4 r, 5, f.2.2.2.2.1 + 1, f.2.2.2.2.2)) h bl df) 6 3 (nI f.2.2.2.1 - 1 + 1)) := rfl
    rw [e1, nI_sa, hk]
    rfl
  · rw [if_neg hk, if_neg hk]
    have e1 : vs_mem (vs_ui (fApp (xS (xFl S f) h bl df) f.2.2.2.1 x u r) 6 4 ((xS (xFl S f) h bl df).2.2.2.2.1 6 4 + 1)) = vs_mem (vs_ui (xS (xFl S (upd f.1 f.2.2.2.1 x, upd f.2.1 f.2.2.2.1 u, vp_updL f.2.2.1 f.2.2.2.1 r, f.2.2.2.1 + 1, f.2.2.2.2.1 + 1, f.2.2.2.2.2)) h bl df) 6 3 (nI f.2.2.2.1 + 1)) := rfl
    rw [e1, nI_1]
    rfl
theorem rd_x (S : vs_S) (f : ft) (h : hp) (bl df : Int32) (a : Int64) (tok : Int32) : ∀ n, rd (xS (xFl S f) h bl df) a tok n = rd S a tok n
  | 0 => rfl
  | n + 1 => by
    simp only [rd, rd_x S f h bl df a tok n]
    rfl
def fUse (S : vs_S) (kd : Nat) (u x : Int32) (ids : Int64) (f : ft) : Int64 × ft := match pl f.1 f.2.1 x u f.2.2.2.1 with
  | some j => (f.2.2.1 j, flRe f j)
  | none => (rd S ids (xTok S u) kd, flNew f x u (rd S ids (xTok S u) kd))
theorem fUse_le {S : vs_S} {kd : Nat} {u x : Int32} {ids : Int64} {f : ft} (h : f.2.2.2.1 ≤ 5) : (fUse S kd u x ids f).2.2.2.2.1 ≤ 5 := by
  unfold fUse
  cases pl f.1 f.2.1 x u f.2.2.2.1 with
  | some j => exact h
  | none =>
    show (flNew f x u _).2.2.2.1 ≤ 5
    unfold flNew
    by_cases hk : f.2.2.2.1 = 5
    · rw [if_pos hk]; exact Nat.le_refl _
    · rw [if_neg hk]
      show f.2.2.2.1 + 1 ≤ 5
      omega
theorem k_X_filterOf (l : Launch) (b : Nat) (D : va_G) (aC : Nat → ClassId) (S : vs_S) (f : ft) (h : hp) (bl df : Int32) (kd : Nat) (x u : Int32) (ids : Int64) (hf : f.2.2.2.1 ≤ 5) (hkd : (S.2.2.2.2.1 1 4) = nI kd) (hkd40 : kd ≤ 40) : vs_M l b D aC false false y_X_filterOf (.code y_X_filterOf c_X_filterOf 8 (Option.some Jvm.ClassFile.FieldType.long)) { frames := 2, cells := 0, slots := 0, locals := 49 } [.ref 0, .int x, .long ids, .int u] (vs_mem (xS (xFl S f) h bl df)) (vs_ret (some (.long (fUse S kd u x ids f).1)) (vs_mem (xS (xFl S (fUse S kd u x ids f).2) h bl df))) := by
  unfold fUse
  cases hp : pl f.1 f.2.1 x u f.2.2.2.1 with
  | some j =>
    have := k_X_filterOf_s l b D aC (xS (xFl S f) h bl df) f.2.2.2.1 j x u ids rfl hf hp
    rw [fRe_x] at this
    exact this
  | none =>
    have := k_X_filterOf_n l b D aC (xS (xFl S f) h bl df) f.2.2.2.1 kd x u ids rfl hf hkd hkd40 hp
    rw [fNew_x, rd_x] at this
    exact this
theorem scF_xFl (S : vs_S) (f : ft) (n : Nat) : ∀ k, scF (xFl S f) n k = scF S n k
  | 0 => rfl
  | k + 1 => by
    simp only [scF, scF_xFl S f n k]
    rfl
theorem scOK_xFl {S : vs_S} {f : ft} {n i : Nat} (hh : scOK S n i) : scOK (xFl S f) n i := by
  unfold scOK
  rw [scF_xFl]
  exact hh
theorem ps_xFl (S : vs_S) (f : ft) (kq M cnd : Nat) : ∀ (k n : Nat) (x : hp × Int32 × Int32), ps (xFl S f) kq M cnd k n x = ps S kq M cnd k n x
  | 0, _, _ => rfl
  | k + 1, n, x => by
    have e1 : ∀ n, scF (xFl S f) n kq = scF S n kq := fun n => scF_xFl S f n kq
    have e2 : (fun d => fnd (xFl S f) d kq) = (fun d => fnd S d kq) := rfl
    simp only [ps, e1, e2, ps_xFl S f kq M cnd k]
/-- the SEGMENTS of the SNAPSHOT, one after the other -/
def sgo (S : vs_S) (u kd kq M L : Nat) (N : Nat → Nat) (y0 : ft × hp × Int32 × Int32) : Nat → ft × hp × Int32 × Int32
  | 0 => y0
  | i + 1 => ((fUse S kd (nI u) (S.1 33 i) (S.2.1 34 i) (sgo S u kd kq M L N y0 i).1).2, ps S kq M ((fUse S kd (nI u) (S.1 33 i) (S.2.1 34 i) (sgo S u kd kq M L N y0 i).1).1.toBitVec.toNat &&& L) 10 (N i) (sgo S u kd kq M L N y0 i).2)
theorem sgo_le {S : vs_S} {u kd kq M L : Nat} {N : Nat → Nat} {y0 : ft × hp × Int32 × Int32} (h1 : y0.1.2.2.2.1 ≤ 5) (h2 : y0.2.1.2.2 ≤ M) : ∀ i, (sgo S u kd kq M L N y0 i).1.2.2.2.1 ≤ 5 ∧ (sgo S u kd kq M L N y0 i).2.1.2.2 ≤ M
  | 0 => ⟨h1, h2⟩
  | i + 1 => ⟨fUse_le (sgo_le h1 h2 i).1, ps_le _ _ _ _ _ _ _ (sgo_le h1 h2 i).2⟩
theorem lN_back (r : Int64) : r = lN r.toBitVec.toNat := wb_inj (by rw [wb_tb]; simp)
section Se
variable {p : Program} {l : Launch} {e : Env} {R : Room} {s : State} {m : MethodId} {args : Array Value} {below : List Frame} {meth : Method} {c : Code} {b : Nat} {D : va_G} {aC : Nat → ClassId} {Q : State → Prop} {kc ks : Nat} {ck : Bool}
theorem se_l (C : vs_X p s m args meth c b D aC "VeilSearch" c_X_search 8) (S : vs_S) (u k ks0 kd kq M L : Nat) (N : Nat → Nat) (y0 : ft × hp × Int32 × Int32) (hy1 : y0.1.2.2.2.1 ≤ 5) (hy2 : y0.2.1.2.2 ≤ M) (hks : (S.2.2.2.2.1 32 2) = nI ks0) (hks6 : ks0 ≤ 6) (hkd : (S.2.2.2.2.1 1 4) = nI kd) (hkd40 : kd ≤ 40) (hL : L < 2 ^ 40) (hN : ∀ i, i < ks0 → (S.2.1 34) i = lN (N i) ∧ N i < 2 ^ 40) (hkq : (S.2.2.2.2.1 10 6) = nI kq) (hkq6 : kq ≤ 6) (hM : (S.2.2.2.2.1 16 3) = nI M) (hM1 : 1 ≤ M) (hM8 : M ≤ 8) (hfl : ∀ i, i < kq → (∃ f, f < 3 ∧ S.1 13 i = nI f) ∧ ∃ t, t < 8 ∧ S.1 12 i = nI t) (hok : ∀ n, n < 2 ^ 40 → ∀ i, i < kq → scOK S n i)
    (K : ∀ lv6, vs_G p l e { frames := 6, cells := 1, slots := 6, locals := 169 } s m args below meth c b D aC 8 Q 0 0 false (vs_mem (xS (xFl S (sgo S u kd kq M L N y0 ks0).1) (sgo S u kd kq M L N y0 ks0).2.1 (sgo S u kd kq M L N y0 ks0).2.2.1 (sgo S u kd kq M L N y0 ks0).2.2.2)) 147 [some (.ref 0), some (.int (nI u)), some (.int (nI M)), some (.long (lN L)), none, some (.int (nI ks0)), lv6, none] []) :
    ∀ n i : Nat, i ≤ ks0 → ks0 - i < n → ∀ lv6, vs_G p l e { frames := 6, cells := 1, slots := 6, locals := 169 } s m args below meth c b D aC 8 Q 0 0 false (vs_mem (xS (xFl S (sgo S u kd kq M L N y0 i).1) (sgo S u kd kq M L N y0 i).2.1 (sgo S u kd kq M L N y0 i).2.2.1 (sgo S u kd kq M L N y0 i).2.2.2)) 72 [some (.ref 0), some (.int (nI u)), some (.int (nI M)), some (.long (lN L)), none, some (.int (nI i)), lv6, none] [] := by
  intro n
  induction n with
  | zero => intro i _ h; omega
  | succ n ih =>
    intro i hi hn lv6
    have ih2 := ih (i + 1)
    simp only [sgo] at ih2
    have hle := sgo_le (S := S) (u := u) (kd := kd) (kq := kq) (L := L) (N := N) hy1 hy2 i
    have K2 := K lv6
    by_cases hlast : i = ks0
    · subst hlast
      generalize sgo S u kd kq M L N y0 i = y at K2 hle ⊢
      refine vs_iload C rfl d_X_search_72 ?_
      refine vs_aload_n C rfl d_X_search_74 ?_
      refine vs_get C fl_X_44 d_X_search_75 rfl rfl ?_
      refine vs_get C fl_X_135 d_X_search_78 rfl rfl ?_
      refine vs_get C fl_X_139 d_X_search_81 rfl rfl ?_
      refine vs_icmp_ge (tgt := 147) C d_X_search_84 (by decide) (fun h1 => ?_) (fun h1 => ?_)
      · exact K2
      · exact absurd (n_lt (N := i) (i := i) h1 hks rfl (by omega) (by omega)) (by omega)
    · clear K2
      generalize sgo S u kd kq M L N y0 i = y at ih2 hle ⊢
      refine vs_iload C rfl d_X_search_72 ?_
      refine vs_aload_n C rfl d_X_search_74 ?_
      refine vs_get C fl_X_44 d_X_search_75 rfl rfl ?_
      refine vs_get C fl_X_135 d_X_search_78 rfl rfl ?_
      refine vs_get C fl_X_139 d_X_search_81 rfl rfl ?_
      refine vs_icmp_ge (tgt := 147) C d_X_search_84 (by decide) (fun h1 => ?_) (fun h1 => ?_)
      · exact absurd (n_ge (N := ks0) (i := i) h1 hks rfl (by omega) (by omega)) (by omega)
      · refine vs_aload_n C rfl d_X_search_87 ?_
        refine vs_aload_n C rfl d_X_search_88 ?_
        refine vs_get C fl_X_44 d_X_search_89 rfl rfl ?_
        refine vs_get C fl_X_135 d_X_search_92 rfl rfl ?_
        refine vs_get C fl_X_189 d_X_search_95 rfl rfl ?_
        refine vs_iload C rfl d_X_search_98 ?_
        refine vs_ialdN C d_X_search_100 rfl (rfl) ((by omega)) (by decide) ?_
        refine vs_aload_n C rfl d_X_search_101 ?_
        refine vs_get C fl_X_44 d_X_search_102 rfl rfl ?_
        refine vs_get C fl_X_135 d_X_search_105 rfl rfl ?_
        refine vs_get C fl_X_192 d_X_search_108 rfl rfl ?_
        refine vs_iload C rfl d_X_search_111 ?_
        refine vs_laldN C d_X_search_113 rfl (rfl) ((by omega)) (by decide) ?_
        refine vs_iload_n C rfl d_X_search_114 ?_
        refine vs_cV C (k_X_filterOf l b D aC S y.1 y.2.1 y.2.2.1 y.2.2.2 kd (S.1 33 i) (nI u) (S.2.1 34 i) hle.1 hkd hkd40) yk_X_filterOf ml_X_195 im_X_filterOf se_X_filterOf d_X_search_115 rfl rfl rfl rfl (by exact Nat.le_of_ble_eq_true rfl) (by exact ⟨Nat.le_of_ble_eq_true rfl, Nat.le_of_ble_eq_true rfl⟩) (by exact ⟨Nat.le_of_ble_eq_true rfl, Nat.le_of_ble_eq_true rfl⟩) (fun h => by cases h) ?_
        have hle2 := fUse_le (S := S) (kd := kd) (u := nI u) (x := S.1 33 i) (ids := S.2.1 34 i) hle.1
        generalize fUse S kd (nI u) (S.1 33 i) (S.2.1 34 i) y.1 = g at ih2 hle2 ⊢
        refine vs_lstore C d_X_search_118 (by decide) ?_
        refine vs_aload_n C rfl d_X_search_120 ?_
        refine vs_aload_n C rfl d_X_search_121 ?_
        refine vs_get C fl_X_44 d_X_search_122 rfl rfl ?_
        refine vs_get C fl_X_135 d_X_search_125 rfl rfl ?_
        refine vs_get C fl_X_192 d_X_search_128 rfl rfl ?_
        refine vs_iload C rfl d_X_search_131 ?_
        refine vs_laldN C d_X_search_133 rfl (rfl) ((by omega)) (by decide) ?_
        refine vs_lload C rfl d_X_search_134 ?_
        refine vs_lload_n C rfl d_X_search_136 ?_
        refine vs_land C d_X_search_137 ?_
        have hcl : g.1.toBitVec.toNat &&& L < 2 ^ 40 := Nat.lt_of_le_of_lt Nat.and_le_right hL
        have hc : g.1 &&& lN L = lN (g.1.toBitVec.toNat &&& L) := by
          conv => lhs; rw [lN_back g.1]
          exact wb_and g.1.toBitVec.isLt (Nat.lt_trans hL (by decide))
        obtain ⟨hN1, hN2⟩ := hN i (by omega)
        refine vs_st_eq (st2 := [.long (lN (g.1.toBitVec.toNat &&& L)), .long (lN (N i)), .ref 0]) (by rw [← hc, ← hN1]; rfl) ?_
        refine vs_cV C (k_X_passThrough l b D aC (xFl S g.2) y.2.1 y.2.2.1 y.2.2.2 (N i) kq M (g.1.toBitVec.toNat &&& L) hN2 hcl hkq hkq6 hM hM1 hM8 hle.2 hfl (fun n hn i hi => scOK_xFl (hok n hn i hi))) yk_X_passThrough ml_X_199 im_X_passThrough se_X_passThrough d_X_search_138 rfl rfl rfl rfl (by exact Nat.le_of_ble_eq_true rfl) (by exact ⟨Nat.le_of_ble_eq_true rfl, Nat.le_of_ble_eq_true rfl⟩) (by exact ⟨Nat.le_of_ble_eq_true rfl, Nat.le_of_ble_eq_true rfl⟩) (fun h => by cases h) ?_
        rw [ps_xFl]
        refine vs_iinc C d_X_search_141 rfl (nI_1 i) (by decide) ?_
        refine vs_goto (tgt := 72) C d_X_search_144 (by decide) ?_
        exact ih2 (by omega) (by omega) (some (.long g.1))
end Se
/-- the memory a search begins with: MOST, OPEN, the VEILED MUST -/
def sq (S : vs_S) (u M kq : Nat) : vs_S := qOp (vs_ui S 16 3 (nI M)) u kq
theorem vmF_ui (S : vs_S) (a b : Nat) (v : Int32) (u : Nat) : ∀ i, vmF (vs_ui S a b v) u i = vmF S u i
  | 0 => rfl
  | i + 1 => by
    simp only [vmF, vmF_ui S a b v u i]
    rfl
def seaOK (u k : Int32) : Prop := (0 ≤ u ∧ u < 8) ∧ ¬ k < 1 ∧ k ≤ 8
set_option maxRecDepth 100000 in
set_option maxHeartbeats 4000000 in
theorem k_X_search_0 (l : Launch) (b : Nat) (D : va_G) (aC : Nat → ClassId) (S : vs_S) (u M kf ks0 kd kq L : Nat) (N : Nat → Nat) (hu : u < 8) (hM1 : 1 ≤ M) (hM8 : M ≤ 8) (hkf : (S.2.2.2.2.1 6 3) = nI kf) (hkf5 : kf ≤ 5) (hks : (S.2.2.2.2.1 32 2) = nI ks0) (hks6 : ks0 ≤ 6) (hkd : (S.2.2.2.2.1 1 4) = nI kd) (hkd40 : kd ≤ 40) (hL : L < 2 ^ 40) (hliv : livX S ks0 = lN L) (hN : ∀ i, i < ks0 → (S.2.1 34) i = lN (N i) ∧ N i < 2 ^ 40) (hkq : (S.2.2.2.2.1 10 6) = nI kq) (hkq6 : kq ≤ 6) (hfd : ∀ i, i < kq → (∃ f, f < 3 ∧ S.1 13 i = nI f) ∧ ∃ t, t < 8 ∧ S.1 12 i = nI t) (hok : ∀ n, n < 2 ^ 40 → ∀ i, i < kq → scOK (sq S u M kq) n i) (y : ft × hp × Int32 × Int32) (hy : y = sgo (sq S u M kq) u kd kq M L N ((S.1 7, S.1 8, S.2.1 9, kf, S.2.2.2.2.1 6 4, S.2.2.2.2.1 6 5), (S.1 17, S.2.2.1 18, 0), 0, 0) ks0) : vs_M l b D aC false false y_X_search (.code y_X_search c_X_search 8 (Option.some Jvm.ClassFile.FieldType.int)) { frames := 6, cells := 1, slots := 6, locals := 169 } [.ref 0, .int (nI u), .int (nI M)] (vs_mem S) (vs_ret (some (.int (nI y.2.1.2.2))) (vs_mem (xS (xFl (sq S u M kq) y.1) y.2.1 y.2.2.1 y.2.2.2))) := by
  refine vs_M.of (by decide) (Nat.le_of_ble_eq_true rfl) ?_
  intro p e s m args below meth c C hmn hr hx htg
  generalize hQ : vs_E below args s b D aC false false (vs_ret (some (.int (nI y.2.1.2.2))) (vs_mem (xS (xFl (sq S u M kq) y.1) y.2.1 y.2.2.1 y.2.2.2))) { frames := 6, cells := 1, slots := 6, locals := 169 } = Q
  refine vs_iload_n C rfl d_X_search_0 ?_
  refine vs_bipush (v := 8) C (by decide) d_X_search_1 ?_
  refine vs_cS C (k_X_isBelow l b D aC S (nI u) 8) yk_X_isBelow ml_X_61 st_X_isBelow d_X_search_3 rfl rfl (by exact Nat.le_of_ble_eq_true rfl) (by exact ⟨Nat.le_of_ble_eq_true rfl, Nat.le_of_ble_eq_true rfl⟩) (by exact ⟨Nat.le_of_ble_eq_true rfl, Nat.le_of_ble_eq_true rfl⟩) (fun h => by cases h) ?_
  refine vs_if_eq (tgt := 20) C d_X_search_6 (by decide) (fun h1 => ?_) (fun h1 => ?_)
  · exact absurd ⟨Int32.not_lt.mp (nI_pos (by omega)), nI_lt hu (by decide)⟩ (b01_0.mp h1)
  · refine vs_iload_n C rfl d_X_search_9 ?_
    refine vs_iconst (v := 1) C (by decide) d_X_search_10 ?_
    refine vs_icmp_lt (tgt := 20) C d_X_search_11 (by decide) (fun h2 => ?_) (fun h2 => ?_)
    · exact absurd ((nI_ltI (by omega) (by decide)).mp (show nI M < nI 1 from h2)) (by omega)
    · refine vs_iload_n C rfl d_X_search_14 ?_
      refine vs_bipush (v := 8) C (by decide) d_X_search_15 ?_
      refine vs_icmp_le (tgt := 28) C d_X_search_17 (by decide) (fun h3 => ?_) (fun h3 => ?_)
      · refine vs_aload_n C rfl d_X_search_28 ?_
        refine vs_iconst (v := 0) C (by decide) d_X_search_29 ?_
        refine vs_put C fl_X_55 d_X_search_30 rfl rfl rfl (Nat.le_of_ble_eq_true rfl) ?_
        refine vs_aload_n C rfl d_X_search_33 ?_
        refine vs_iconst (v := 0) C (by decide) d_X_search_34 ?_
        refine vs_put C fl_X_58 d_X_search_35 rfl rfl rfl (Nat.le_of_ble_eq_true rfl) ?_
        refine vs_aload_n C rfl d_X_search_38 ?_
        refine vs_get C fl_X_33 d_X_search_39 rfl rfl ?_
        refine vs_iload_n C rfl d_X_search_42 ?_
        refine vs_mem_eq (mem2 := vs_mem (vs_ui (vs_ui S 0 8 0) 0 9 0)) rfl ?_
        refine vs_cV C (k_H_restart l b D aC (vs_ui (vs_ui S 0 8 0) 0 9 0) (nI M)) yk_H_restart ml_X_181 im_H_restart se_H_restart d_X_search_43 rfl rfl rfl rfl (by exact Nat.le_of_ble_eq_true rfl) (by exact ⟨Nat.le_of_ble_eq_true rfl, Nat.le_of_ble_eq_true rfl⟩) (by exact ⟨Nat.le_of_ble_eq_true rfl, Nat.le_of_ble_eq_true rfl⟩) (fun h => by cases h) ?_
        refine vs_aload_n C rfl d_X_search_46 ?_
        refine vs_get C fl_X_26 d_X_search_47 rfl rfl ?_
        refine vs_iload_n C rfl d_X_search_50 ?_
        refine vs_aload_n C rfl d_X_search_51 ?_
        refine vs_get C fl_X_44 d_X_search_52 rfl rfl ?_
        refine vs_get C fl_X_68 d_X_search_55 rfl rfl ?_
        refine vs_cV C (k_Q_openFor l b D aC (vs_ui (vs_ui (vs_ui (vs_ui S 0 8 0) 0 9 0) 16 3 (nI M)) 16 2 0) u kq hu hkq hkq6 (fun i hi => (hfd i hi).1)) yk_Q_openFor ml_X_185 im_Q_openFor se_Q_openFor d_X_search_58 rfl rfl rfl rfl (by exact Nat.le_of_ble_eq_true rfl) (by exact ⟨Nat.le_of_ble_eq_true rfl, Nat.le_of_ble_eq_true rfl⟩) (by exact ⟨Nat.le_of_ble_eq_true rfl, Nat.le_of_ble_eq_true rfl⟩) (fun h => by cases h) ?_
        refine vs_aload_n C rfl d_X_search_61 ?_
        refine vs_get C fl_X_44 d_X_search_62 rfl rfl ?_
        refine vs_mem_eq (mem2 := vs_mem (xS (xFl (sq S u M kq) (S.1 7, S.1 8, S.2.1 9, kf, S.2.2.2.2.1 6 4, S.2.2.2.2.1 6 5)) (S.1 17, S.2.2.1 18, 0) 0 0)) ?_ ?_
        · have e1 : vs_mem (xS (xFl (sq S u M kq) (S.1 7, S.1 8, S.2.1 9, kf, S.2.2.2.2.1 6 4, S.2.2.2.2.1 6 5)) (S.1 17, S.2.2.1 18, 0) 0 0) = vs_mem (vs_ui (qOp (vs_ui (vs_ui (vs_ui (vs_ui S 0 8 0) 0 9 0) 16 3 (nI M)) 16 2 0) u kq) 6 3 (nI kf)) := by
            unfold sq qOp
            rw [vmF_ui, vmF_ui, vmF_ui, vmF_ui, vmF_ui]
            rfl
          rw [e1, ← hkf]
          rfl
        · refine vs_cV C (k_V_livingIds l b D aC (xS (xFl (sq S u M kq) (S.1 7, S.1 8, S.2.1 9, kf, S.2.2.2.2.1 6 4, S.2.2.2.2.1 6 5)) (S.1 17, S.2.2.1 18, 0) 0 0) ks0 hks hks6) yk_V_livingIds ml_X_173 im_V_livingIds se_V_livingIds d_X_search_65 rfl rfl rfl rfl (by exact Nat.le_of_ble_eq_true rfl) (by exact ⟨Nat.le_of_ble_eq_true rfl, Nat.le_of_ble_eq_true rfl⟩) (by exact ⟨Nat.le_of_ble_eq_true rfl, Nat.le_of_ble_eq_true rfl⟩) (fun h => by cases h) ?_
          refine vs_st_eq (st2 := [.long (lN L)]) (by rw [← hliv]; rfl) ?_
          refine vs_lstore_n C d_X_search_68 (by decide) ?_
          refine vs_iconst (v := 0) C (by decide) d_X_search_69 ?_
          refine vs_istore C d_X_search_70 (by decide) ?_
          refine vs_ck (se_l C (sq S u M kq) u 0 ks0 kd kq M L N ((S.1 7, S.1 8, S.2.1 9, kf, S.2.2.2.2.1 6 4, S.2.2.2.2.1 6 5), (S.1 17, S.2.2.1 18, 0), 0, 0) hkf5 (Nat.zero_le _) hks hks6 hkd hkd40 hL hN hkq hkq6 rfl hM1 hM8 hfd hok (fun lv6 => ?_) (ks0 + 1) 0 (Nat.zero_le _) (by omega) none)
          rw [← hy]
          refine vs_aload_n C rfl d_X_search_147 ?_
          refine vs_get C fl_X_33 d_X_search_148 rfl rfl ?_
          refine vs_get C fl_X_203 d_X_search_151 rfl rfl ?_
          subst hQ
          exact vs_iret C hr d_X_search_154 ⟨Nat.le_of_ble_eq_true rfl, Nat.le_of_ble_eq_true rfl⟩ (fun h => by cases h) (by first | exact (fun _ => rfl) | exact (fun h => by cases h)) (⟨rfl, rfl⟩)
      · exact absurd ((nI_leI (by omega) (by decide)).mpr (show M ≤ 8 from hM8)) h3
set_option maxRecDepth 100000 in
set_option maxHeartbeats 4000000 in
theorem k_X_search_1 (l : Launch) (b : Nat) (D : va_G) (aC : Nat → ClassId) (S : vs_S) (hfl : l.flags = flags0) (u k : Int32) (hn : ¬ seaOK u k) : vs_M l b D aC false false y_X_search (.code y_X_search c_X_search 8 (Option.some Jvm.ClassFile.FieldType.int)) { frames := 6, cells := 1, slots := 6, locals := 169 } [.ref 0, .int u, .int k] (vs_mem S) (vs_pc 1 (fun _ => 0) none (vs_mem S) (vs_mem S)) := by
  refine vs_M.of (by decide) (Nat.le_of_ble_eq_true rfl) ?_
  intro p e s m args below meth c C hmn hr hx htg
  generalize hQ : vs_E below args s b D aC false false (vs_pc 1 (fun _ => 0) none (vs_mem S) (vs_mem S)) { frames := 6, cells := 1, slots := 6, locals := 169 } = Q
  have hth : ∀ lv, vs_G p l e { frames := 6, cells := 1, slots := 6, locals := 169 } s m args below meth c b D aC 8 Q 0 0 true (vs_mem S) 20 lv [] := by
    intro lv
    subst hQ
    exact vs_throw0 C hfl hx tx_0 d_X_search_20 d_X_search_23 d_X_search_24 d_X_search_27 rfl (by exact ⟨Nat.le_of_ble_eq_true rfl, Nat.le_of_ble_eq_true rfl⟩) (by exact ⟨Nat.le_of_ble_eq_true rfl, Nat.le_of_ble_eq_true rfl, Nat.le_of_ble_eq_true rfl, Nat.le_of_ble_eq_true rfl⟩) (pc_no (by decide) rfl)
  refine vs_iload_n C rfl d_X_search_0 ?_
  refine vs_bipush (v := 8) C (by decide) d_X_search_1 ?_
  refine vs_cS C (k_X_isBelow l b D aC S u 8) yk_X_isBelow ml_X_61 st_X_isBelow d_X_search_3 rfl rfl (by exact Nat.le_of_ble_eq_true rfl) (by exact ⟨Nat.le_of_ble_eq_true rfl, Nat.le_of_ble_eq_true rfl⟩) (by exact ⟨Nat.le_of_ble_eq_true rfl, Nat.le_of_ble_eq_true rfl⟩) (fun h => by cases h) ?_
  refine vs_if_eq (tgt := 20) C d_X_search_6 (by decide) (fun h1 => ?_) (fun h1 => ?_)
  · exact hth _
  · refine vs_iload_n C rfl d_X_search_9 ?_
    refine vs_iconst (v := 1) C (by decide) d_X_search_10 ?_
    refine vs_icmp_lt (tgt := 20) C d_X_search_11 (by decide) (fun h2 => ?_) (fun h2 => ?_)
    · exact hth _
    · refine vs_iload_n C rfl d_X_search_14 ?_
      refine vs_bipush (v := 8) C (by decide) d_X_search_15 ?_
      refine vs_icmp_le (tgt := 28) C d_X_search_17 (by decide) (fun h3 => ?_) (fun h3 => ?_)
      · exact absurd ⟨b01_n h1, h2, h3⟩ hn
      · exact hth _

