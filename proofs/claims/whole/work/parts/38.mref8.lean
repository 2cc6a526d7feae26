def oldI (t : Nat → Int32) : Nat → Nat
  | 0 => 0
  | i + 1 => if t i < t (oldI t i) then i else oldI t i
theorem oldI_le (t : Nat → Int32) : ∀ i, oldI t i ≤ i - 1
  | 0 => Nat.le_refl _
  | i + 1 => by
    have := oldI_le t i
    simp only [oldI]
    split <;> omega
section MUse
variable {p : Program} {l : Launch} {e : Env} {R : Room} {s : State} {m : MethodId} {args : Array Value} {below : List Frame} {meth : Method} {c : Code} {b : Nat} {D : va_G} {aC : Nat → ClassId} {Q : State → Prop} {kc ks : Nat} {ck : Bool}
theorem muse (C : vs_X p s m args meth c b D aC "VeilSearchModel" c_M_useFilter 5) (S : vs_S) (x u : Int32) (k : Nat) (hk : (S.2.2.2.2.1 35 35) = nI k) (hk5 : k ≤ 5) (K1 : ∀ i o3, pl (S.1 60) (S.1 61) x u k = some i → vs_G p l e { frames := 1, cells := 0, slots := 0, locals := 22 } s m args below meth c b D aC 5 Q 0 0 false (vs_mem S) 46 [some (.ref 35), some (.int x), some (.int u), o3, some (.int (nI i))] []) (K0 : pl (S.1 60) (S.1 61) x u k = none → vs_G p l e { frames := 1, cells := 0, slots := 0, locals := 22 } s m args below meth c b D aC 5 Q 0 0 false (vs_mem S) 93 [some (.ref 35), some (.int x), some (.int u), some (.int (nI (oldI (S.1 62) k))), some (.int (nI k))] []) : ∀ n i : Nat, i ≤ k → k - i < n → pl (S.1 60) (S.1 61) x u i = none → vs_G p l e { frames := 1, cells := 0, slots := 0, locals := 22 } s m args below meth c b D aC 5 Q 0 0 false (vs_mem S) 15 [some (.ref 35), some (.int x), some (.int u), some (.int (nI (oldI (S.1 62) i))), some (.int (nI i))] [] := by
  intro n
  induction n with
  | zero => intro i _ h; omega
  | succ n ih =>
    intro i hi hn hf
    have hol := oldI_le (S.1 62) i
    refine vs_iload C rfl d_M_useFilter_15 ?_
    refine vs_aload_n C rfl d_M_useFilter_17 ?_
    refine vs_get C fl_M_131 d_M_useFilter_18 rfl rfl ?_
    refine vs_icmp_ge (tgt := 93) C d_M_useFilter_21 (by decide) (fun h1 => ?_) (fun h1 => ?_)
    · have h2 := n_ge (N := k) (i := i) h1 hk rfl (by omega) (by omega)
      obtain rfl : i = k := by omega
      exact K0 hf
    · have hlt := n_lt (N := k) (i := i) h1 hk rfl (by omega) (by omega)
      have h68 : ¬ (S.1 60 i = x ∧ S.1 61 i = u) → vs_G p l e { frames := 1, cells := 0, slots := 0, locals := 22 } s m args below meth c b D aC 5 Q 0 0 false (vs_mem S) 68 [some (.ref 35), some (.int x), some (.int u), some (.int (nI (oldI (S.1 62) i))), some (.int (nI i))] [] := by
        intro hne
        have hnx : ∀ w : Nat, w = oldI (S.1 62) (i + 1) → vs_G p l e { frames := 1, cells := 0, slots := 0, locals := 22 } s m args below meth c b D aC 5 Q 0 0 false (vs_mem S) 87 [some (.ref 35), some (.int x), some (.int u), some (.int (nI w)), some (.int (nI i))] [] := by
          intro w hw
          subst hw
          refine vs_iinc C d_M_useFilter_87 rfl (nI_1 i) (by decide) ?_
          refine vs_goto (tgt := 15) C d_M_useFilter_90 (by decide) ?_
          refine ih (i + 1) (by omega) (by omega) (pl_none.mpr (fun j hj hc => ?_))
          rcases Nat.lt_or_ge j i with h | h
          · exact pl_none.mp hf j h hc
          · obtain rfl : j = i := by omega
            exact hne hc
        refine vs_aload_n C rfl d_M_useFilter_68 ?_
        refine vs_get C fl_M_91 d_M_useFilter_69 rfl rfl ?_
        refine vs_iload C rfl d_M_useFilter_72 ?_
        refine vs_ialdN C d_M_useFilter_74 rfl (rfl) ((by omega)) (by decide) ?_
        refine vs_aload_n C rfl d_M_useFilter_75 ?_
        refine vs_get C fl_M_91 d_M_useFilter_76 rfl rfl ?_
        refine vs_iload_n C rfl d_M_useFilter_79 ?_
        refine vs_ialdN C d_M_useFilter_80 rfl (rfl) ((by omega)) (by decide) ?_
        refine vs_icmp_ge (tgt := 87) C d_M_useFilter_81 (by decide) (fun h3 => ?_) (fun h3 => ?_)
        · exact hnx _ (if_neg (Int32.not_lt.mpr h3)).symm
        · refine vs_iload C rfl d_M_useFilter_84 ?_
          refine vs_istore_n C d_M_useFilter_86 (by decide) ?_
          exact hnx _ (if_pos (Int32.not_le.mp h3)).symm
      refine vs_aload_n C rfl d_M_useFilter_24 ?_
      refine vs_get C fl_M_85 d_M_useFilter_25 rfl rfl ?_
      refine vs_iload C rfl d_M_useFilter_28 ?_
      refine vs_ialdN C d_M_useFilter_30 rfl (rfl) ((by omega)) (by decide) ?_
      refine vs_iload_n C rfl d_M_useFilter_31 ?_
      refine vs_icmp_ne (tgt := 68) C d_M_useFilter_32 (by decide) (fun h2 => ?_) (fun h2 => ?_)
      · exact h68 (fun h => h2 h.1)
      · refine vs_aload_n C rfl d_M_useFilter_35 ?_
        refine vs_get C fl_M_88 d_M_useFilter_36 rfl rfl ?_
        refine vs_iload C rfl d_M_useFilter_39 ?_
        refine vs_ialdN C d_M_useFilter_41 rfl (rfl) ((by omega)) (by decide) ?_
        refine vs_iload_n C rfl d_M_useFilter_42 ?_
        refine vs_icmp_ne (tgt := 68) C d_M_useFilter_43 (by decide) (fun h3 => ?_) (fun h3 => ?_)
        · exact h68 (fun h => h3 h.2)
        · exact K1 i _ (pl_some.mpr ⟨hlt, ⟨h2, h3⟩, fun j hj => pl_none.mp hf j hj⟩)
end MUse
def muH (S : vs_S) (j : Nat) (cl : Int32) : vs_S := vs_ui (vs_uI (vs_ui S 35 38 cl) 62 (upd (S.1 62) j cl)) 35 37 ((S.2.2.2.2.1 35 37) + 1)
set_option maxRecDepth 100000 in
set_option maxHeartbeats 4000000 in
theorem k_M_useFilter_s (l : Launch) (b : Nat) (D : va_G) (aC : Nat → ClassId) (S : vs_S) (x u cl : Int32) (k j : Nat) (hk : (S.2.2.2.2.1 35 35) = nI k) (hk5 : k ≤ 5) (hcl : (S.2.2.2.2.1 35 38) + 1 = cl) (hp : pl (S.1 60) (S.1 61) x u k = some j) : vs_M l b D aC false false y_M_useFilter (.code y_M_useFilter c_M_useFilter 5 (Option.none : Option Jvm.ClassFile.FieldType)) { frames := 1, cells := 0, slots := 0, locals := 22 } [.ref 35, .int x, .int u] (vs_mem S) (vs_ret none (vs_mem (muH S j cl))) := by
  refine vs_M.of (by decide) (Nat.le_of_ble_eq_true rfl) ?_
  intro p e s m args below meth c C hmn hr hx htg
  generalize hQ : vs_E below args s b D aC false false (vs_ret none (vs_mem (muH S j cl))) { frames := 1, cells := 0, slots := 0, locals := 22 } = Q
  have hj := (pl_some.mp hp).1
  refine vs_aload_n C rfl d_M_useFilter_0 ?_
  refine vs_dup C rfl d_M_useFilter_1 ?_
  refine vs_get C fl_M_160 d_M_useFilter_2 rfl rfl ?_
  refine vs_iconst (v := 1) C (by decide) d_M_useFilter_5 ?_
  refine vs_iadd C d_M_useFilter_6 ?_
  rw [hcl]
  refine vs_put C fl_M_160 d_M_useFilter_7 rfl rfl rfl (Nat.le_of_ble_eq_true rfl) ?_
  refine vs_iconst (v := 0) C (by decide) d_M_useFilter_10 ?_
  refine vs_istore_n C d_M_useFilter_11 (by decide) ?_
  refine vs_iconst (v := 0) C (by decide) d_M_useFilter_12 ?_
  refine vs_istore C d_M_useFilter_13 (by decide) ?_
  refine vs_mem_eq (mem2 := vs_mem (vs_ui S 35 38 cl)) rfl ?_
  refine vs_ck (muse C (vs_ui S 35 38 cl) x u k hk hk5 (fun i o3 h => ?_) (fun h => ?_) (k + 1) 0 (Nat.zero_le _) (by omega) rfl)
  · obtain rfl : i = j := by
      have := h.symm.trans hp
      exact Option.some.inj this
    refine vs_aload_n C rfl d_M_useFilter_46 ?_
    refine vs_get C fl_M_91 d_M_useFilter_47 rfl rfl ?_
    refine vs_iload C rfl d_M_useFilter_50 ?_
    refine vs_aload_n C rfl d_M_useFilter_52 ?_
    refine vs_get C fl_M_160 d_M_useFilter_53 rfl rfl ?_
    refine vs_iastN C d_M_useFilter_56 rfl (rfl) ((by omega)) (by decide) ?_
    refine vs_aload_n C rfl d_M_useFilter_57 ?_
    refine vs_dup C rfl d_M_useFilter_58 ?_
    refine vs_get C fl_M_163 d_M_useFilter_59 rfl rfl ?_
    refine vs_iconst (v := 1) C (by decide) d_M_useFilter_62 ?_
    refine vs_iadd C d_M_useFilter_63 ?_
    refine vs_put C fl_M_163 d_M_useFilter_64 rfl rfl rfl (Nat.le_of_ble_eq_true rfl) ?_
    subst hQ
    exact vs_vret C hr d_M_useFilter_67 ⟨Nat.le_of_ble_eq_true rfl, Nat.le_of_ble_eq_true rfl⟩ (fun h => by cases h) (by first | exact (fun _ => rfl) | exact (fun h => by cases h)) (⟨rfl, rfl⟩)
  · have := h.symm.trans hp
    cases this
def muA (S : vs_S) (k : Nat) (x u cl : Int32) : vs_S := vs_ui (vs_ui (vs_uI (vs_uI (vs_uI S 60 (upd (S.1 60) k x)) 61 (upd (S.1 61) k u)) 62 (upd (S.1 62) k cl)) 35 35 (nI (k + 1))) 35 36 ((S.2.2.2.2.1 35 36) + 1)
def muM (S : vs_S) (k : Nat) (x u cl : Int32) : vs_S := if k = 5 then muA (mfD (vs_ui S 35 38 cl) (oldI (S.1 62) 5) 5) 4 x u cl else muA (vs_ui S 35 38 cl) k x u cl
set_option maxRecDepth 100000 in
set_option maxHeartbeats 4000000 in
theorem k_M_useFilter_n (l : Launch) (b : Nat) (D : va_G) (aC : Nat → ClassId) (S : vs_S) (x u cl : Int32) (k : Nat) (hk : (S.2.2.2.2.1 35 35) = nI k) (hk5 : k ≤ 5) (hcl : (S.2.2.2.2.1 35 38) + 1 = cl) (hp : pl (S.1 60) (S.1 61) x u k = none) : vs_M l b D aC false false y_M_useFilter (.code y_M_useFilter c_M_useFilter 5 (Option.none : Option Jvm.ClassFile.FieldType)) { frames := 1, cells := 0, slots := 0, locals := 22 } [.ref 35, .int x, .int u] (vs_mem S) (vs_ret none (vs_mem (muM S k x u cl))) := by
  refine vs_M.of (by decide) (Nat.le_of_ble_eq_true rfl) ?_
  intro p e s m args below meth c C hmn hr hx htg
  generalize hQ : vs_E below args s b D aC false false (vs_ret none (vs_mem (muM S k x u cl))) { frames := 1, cells := 0, slots := 0, locals := 22 } = Q
  unfold muM at hQ
  refine vs_aload_n C rfl d_M_useFilter_0 ?_
  refine vs_dup C rfl d_M_useFilter_1 ?_
  refine vs_get C fl_M_160 d_M_useFilter_2 rfl rfl ?_
  refine vs_iconst (v := 1) C (by decide) d_M_useFilter_5 ?_
  refine vs_iadd C d_M_useFilter_6 ?_
  rw [hcl]
  refine vs_put C fl_M_160 d_M_useFilter_7 rfl rfl rfl (Nat.le_of_ble_eq_true rfl) ?_
  refine vs_iconst (v := 0) C (by decide) d_M_useFilter_10 ?_
  refine vs_istore_n C d_M_useFilter_11 (by decide) ?_
  refine vs_iconst (v := 0) C (by decide) d_M_useFilter_12 ?_
  refine vs_istore C d_M_useFilter_13 (by decide) ?_
  refine vs_mem_eq (mem2 := vs_mem (vs_ui S 35 38 cl)) rfl ?_
  refine vs_ck (muse C (vs_ui S 35 38 cl) x u k hk hk5 (fun i o3 h => ?_) (fun h => ?_) (k + 1) 0 (Nat.zero_le _) (by omega) rfl)
  · have := h.symm.trans hp
    cases this
  · refine vs_aload_n C rfl d_M_useFilter_93 ?_
    refine vs_get C fl_M_131 d_M_useFilter_94 rfl rfl ?_
    refine vs_iconst (v := 5) C (by decide) d_M_useFilter_97 ?_
    refine vs_icmp_ne (tgt := 106) C d_M_useFilter_98 (by decide) (fun h1 => ?_) (fun h1 => ?_)
    · have h5 : ¬ k = 5 := fun q => h1 (by rw [show (vs_ui S 35 38 cl).2.2.2.2.1 35 35 = S.2.2.2.2.1 35 35 from rfl, hk, q]; rfl)
      rw [if_neg h5] at hQ
      refine vs_aload_n C rfl d_M_useFilter_106 ?_
      refine vs_get C fl_M_85 d_M_useFilter_107 rfl rfl ?_
      refine vs_aload_n C rfl d_M_useFilter_110 ?_
      refine vs_get C fl_M_131 d_M_useFilter_111 rfl rfl ?_
      refine vs_iload_n C rfl d_M_useFilter_114 ?_
      refine vs_iastN C d_M_useFilter_115 rfl (hk) ((by omega)) (by decide) ?_
      refine vs_aload_n C rfl d_M_useFilter_116 ?_
      refine vs_get C fl_M_88 d_M_useFilter_117 rfl rfl ?_
      refine vs_aload_n C rfl d_M_useFilter_120 ?_
      refine vs_get C fl_M_131 d_M_useFilter_121 rfl rfl ?_
      refine vs_iload_n C rfl d_M_useFilter_124 ?_
      refine vs_iastN C d_M_useFilter_125 rfl (hk) ((by omega)) (by decide) ?_
      refine vs_aload_n C rfl d_M_useFilter_126 ?_
      refine vs_get C fl_M_91 d_M_useFilter_127 rfl rfl ?_
      refine vs_aload_n C rfl d_M_useFilter_130 ?_
      refine vs_get C fl_M_131 d_M_useFilter_131 rfl rfl ?_
      refine vs_aload_n C rfl d_M_useFilter_134 ?_
      refine vs_get C fl_M_160 d_M_useFilter_135 rfl rfl ?_
      refine vs_iastN C d_M_useFilter_138 rfl (hk) ((by omega)) (by decide) ?_
      refine vs_aload_n C rfl d_M_useFilter_139 ?_
      refine vs_dup C rfl d_M_useFilter_140 ?_
      refine vs_get C fl_M_131 d_M_useFilter_141 rfl rfl ?_
      refine vs_iconst (v := 1) C (by decide) d_M_useFilter_144 ?_
      refine vs_iadd C d_M_useFilter_145 ?_
      refine vs_st_eq (st2 := [.int (nI (k + 1)), .ref 35]) (by rw [← nI_1 k, ← hk] <;> rfl) ?_
      refine vs_put C fl_M_131 d_M_useFilter_146 rfl rfl rfl (Nat.le_of_ble_eq_true rfl) ?_
      refine vs_aload_n C rfl d_M_useFilter_149 ?_
      refine vs_dup C rfl d_M_useFilter_150 ?_
      refine vs_get C fl_M_166 d_M_useFilter_151 rfl rfl ?_
      refine vs_iconst (v := 1) C (by decide) d_M_useFilter_154 ?_
      refine vs_iadd C d_M_useFilter_155 ?_
      refine vs_put C fl_M_166 d_M_useFilter_156 rfl rfl rfl (Nat.le_of_ble_eq_true rfl) ?_
      subst hQ
      exact vs_vret C hr d_M_useFilter_159 ⟨Nat.le_of_ble_eq_true rfl, Nat.le_of_ble_eq_true rfl⟩ (fun h => by cases h) (by first | exact (fun _ => rfl) | exact (fun h => by cases h)) (⟨rfl, rfl⟩)
    · have h5 : k = 5 := (nI_eq (by omega) (by decide)).mp (by rw [← hk]; exact h1)
      subst h5
      rw [if_pos rfl] at hQ
      have hol := oldI_le (S.1 62) 5
      refine vs_aload_n C rfl d_M_useFilter_101 ?_
      refine vs_iload_n C rfl d_M_useFilter_102 ?_
      refine vs_cV C (k_M_drop l b D aC (vs_ui S 35 38 cl) 5 (oldI (S.1 62) 5) hk (by decide) (by omega)) yk_M_drop ml_M_142 im_M_drop se_M_drop d_M_useFilter_103 rfl rfl rfl rfl (by exact Nat.le_of_ble_eq_true rfl) (by exact ⟨Nat.le_of_ble_eq_true rfl, Nat.le_of_ble_eq_true rfl⟩) (by exact ⟨Nat.le_of_ble_eq_true rfl, Nat.le_of_ble_eq_true rfl⟩) (fun h => by cases h) ?_
      refine vs_aload_n C rfl d_M_useFilter_106 ?_
      refine vs_get C fl_M_85 d_M_useFilter_107 rfl rfl ?_
      refine vs_aload_n C rfl d_M_useFilter_110 ?_
      refine vs_get C fl_M_131 d_M_useFilter_111 rfl rfl ?_
      refine vs_iload_n C rfl d_M_useFilter_114 ?_
      refine vs_iastN C d_M_useFilter_115 rfl (rfl) ((by decide)) (by decide) ?_
      refine vs_aload_n C rfl d_M_useFilter_116 ?_
      refine vs_get C fl_M_88 d_M_useFilter_117 rfl rfl ?_
      refine vs_aload_n C rfl d_M_useFilter_120 ?_
      refine vs_get C fl_M_131 d_M_useFilter_121 rfl rfl ?_
      refine vs_iload_n C rfl d_M_useFilter_124 ?_
      refine vs_iastN C d_M_useFilter_125 rfl (rfl) ((by decide)) (by decide) ?_
      refine vs_aload_n C rfl d_M_useFilter_126 ?_
      refine vs_get C fl_M_91 d_M_useFilter_127 rfl rfl ?_
      refine vs_aload_n C rfl d_M_useFilter_130 ?_
      refine vs_get C fl_M_131 d_M_useFilter_131 rfl rfl ?_
      refine vs_aload_n C rfl d_M_useFilter_134 ?_
      refine vs_get C fl_M_160 d_M_useFilter_135 rfl rfl ?_
      refine vs_iastN C d_M_useFilter_138 rfl (rfl) ((by decide)) (by decide) ?_
      refine vs_aload_n C rfl d_M_useFilter_139 ?_
      refine vs_dup C rfl d_M_useFilter_140 ?_
      refine vs_get C fl_M_131 d_M_useFilter_141 rfl rfl ?_
      refine vs_iconst (v := 1) C (by decide) d_M_useFilter_144 ?_
      refine vs_iadd C d_M_useFilter_145 ?_
      refine vs_put C fl_M_131 d_M_useFilter_146 rfl rfl rfl (Nat.le_of_ble_eq_true rfl) ?_
      refine vs_aload_n C rfl d_M_useFilter_149 ?_
      refine vs_dup C rfl d_M_useFilter_150 ?_
      refine vs_get C fl_M_166 d_M_useFilter_151 rfl rfl ?_
      refine vs_iconst (v := 1) C (by decide) d_M_useFilter_154 ?_
      refine vs_iadd C d_M_useFilter_155 ?_
      refine vs_put C fl_M_166 d_M_useFilter_156 rfl rfl rfl (Nat.le_of_ble_eq_true rfl) ?_
      subst hQ
      exact vs_vret C hr d_M_useFilter_159 ⟨Nat.le_of_ble_eq_true rfl, Nat.le_of_ble_eq_true rfl⟩ (fun h => by cases h) (by first | exact (fun _ => rfl) | exact (fun h => by cases h)) (⟨rfl, rfl⟩)
/-- the FILTERS of the reference: SEGMENT, USER, when, how many, MADE, REUSED, the clock -/
abbrev fm : Type := (Nat → Int32) × (Nat → Int32) × (Nat → Int32) × Nat × Int32 × Int32 × Int32
def xFM (S : vs_S) (f : fm) : vs_S := vs_ui (vs_ui (vs_ui (vs_ui (vs_uI (vs_uI (vs_uI S 60 f.1) 61 f.2.1) 62 f.2.2.1) 35 35 (nI f.2.2.2.1)) 35 36 f.2.2.2.2.1) 35 37 f.2.2.2.2.2.1) 35 38 f.2.2.2.2.2.2
def fmH (f : fm) (j : Nat) : fm := (f.1, f.2.1, upd f.2.2.1 j (f.2.2.2.2.2.2 + 1), f.2.2.2.1, f.2.2.2.2.1, f.2.2.2.2.2.1 + 1, f.2.2.2.2.2.2 + 1)
def fmN (f : fm) (x u : Int32) : fm := if f.2.2.2.1 = 5 then (upd (sh f.1 (oldI f.2.2.1 5) 4) 4 x, upd (sh f.2.1 (oldI f.2.2.1 5) 4) 4 u, upd (sh f.2.2.1 (oldI f.2.2.1 5) 4) 4 (f.2.2.2.2.2.2 + 1), 5, f.2.2.2.2.1 + 1, f.2.2.2.2.2.1, f.2.2.2.2.2.2 + 1) else (upd f.1 f.2.2.2.1 x, upd f.2.1 f.2.2.2.1 u, upd f.2.2.1 f.2.2.2.1 (f.2.2.2.2.2.2 + 1), f.2.2.2.1 + 1, f.2.2.2.2.1 + 1, f.2.2.2.2.2.1, f.2.2.2.2.2.2 + 1)
def mUse (x u : Int32) (f : fm) : fm := match pl f.1 f.2.1 x u f.2.2.2.1 with
  | some j => fmH f j
  | none => fmN f x u
theorem mUse_le {x u : Int32} {f : fm} (h : f.2.2.2.1 ≤ 5) : (mUse x u f).2.2.2.1 ≤ 5 := by
  unfold mUse
  cases pl f.1 f.2.1 x u f.2.2.2.1 with
  | some j => exact h
  | none =>
    show (fmN f x u).2.2.2.1 ≤ 5
    unfold fmN
    by_cases hk : f.2.2.2.1 = 5
    · rw [if_pos hk]; exact Nat.le_refl _
    · rw [if_neg hk]
      show f.2.2.2.1 + 1 ≤ 5
      omega
set_option maxRecDepth 100000 in
theorem muH_x (S : vs_S) (f1 f2 f3 : Nat → Int32) (k : Nat) (a b c : Int32) (h1 : Nat → Int32) (h2 : Nat → UInt32) (h3 : Nat) (lo ma : Int32) (j : Nat) (b2 c2 : Int32) (hb : b + 1 = b2) : vs_mem (muH (xM (xFM S (f1, f2, f3, k, a, b, c)) (h1, h2, h3) lo ma) j c2) = vs_mem (xM (xFM S (f1, f2, upd f3 j c2, k, a, b2, c2)) (h1, h2, h3) lo ma) := by
  unfold muH
  rw [show (xM (xFM S (f1, f2, f3, k, a, b, c)) (h1, h2, h3) lo ma).2.2.2.2.1 35 37 + 1 = b + 1 from rfl, hb]
  rfl
set_option maxRecDepth 100000 in
theorem muA_x (S : vs_S) (f1 f2 f3 : Nat → Int32) (k : Nat) (a b c : Int32) (h1 : Nat → Int32) (h2 : Nat → UInt32) (h3 : Nat) (lo ma : Int32) (x u a2 c2 : Int32) (k2 : Nat) (ha : a + 1 = a2) (hk2 : k + 1 = k2) : vs_mem (muA (vs_ui (xM (xFM S (f1, f2, f3, k, a, b, c)) (h1, h2, h3) lo ma) 35 38 c2) k x u c2) = vs_mem (xM (xFM S (upd f1 k x, upd f2 k u, upd f3 k c2, k2, a2, b, c2)) (h1, h2, h3) lo ma) := by
  unfold muA
  rw [show (vs_ui (xM (xFM S (f1, f2, f3, k, a, b, c)) (h1, h2, h3) lo ma) 35 38 c2).2.2.2.2.1 35 36 + 1 = a + 1 from rfl, ha, hk2]
  rfl
set_option maxRecDepth 100000 in
theorem muD_x (S : vs_S) (f1 f2 f3 : Nat → Int32) (a b c : Int32) (h1 : Nat → Int32) (h2 : Nat → UInt32) (h3 : Nat) (lo ma : Int32) (x u a2 c2 : Int32) (q : Nat) (ha : a + 1 = a2) : vs_mem (muA (mfD (vs_ui (xM (xFM S (f1, f2, f3, 5, a, b, c)) (h1, h2, h3) lo ma) 35 38 c2) q 5) 4 x u c2) = vs_mem (xM (xFM S (upd (sh f1 q 4) 4 x, upd (sh f2 q 4) 4 u, upd (sh f3 q 4) 4 c2, 5, a2, b, c2)) (h1, h2, h3) lo ma) := by
  unfold muA
  rw [show (mfD (vs_ui (xM (xFM S (f1, f2, f3, 5, a, b, c)) (h1, h2, h3) lo ma) 35 38 c2) q 5).2.2.2.2.1 35 36 + 1 = a + 1 from rfl, ha]
  rfl
theorem k_M_useFilter (l : Launch) (b : Nat) (D : va_G) (aC : Nat → ClassId) (S : vs_S) (f : fm) (h : hp) (lo ma x u : Int32) (hf : f.2.2.2.1 ≤ 5) : vs_M l b D aC false false y_M_useFilter (.code y_M_useFilter c_M_useFilter 5 (Option.none : Option Jvm.ClassFile.FieldType)) { frames := 1, cells := 0, slots := 0, locals := 22 } [.ref 35, .int x, .int u] (vs_mem (xM (xFM S f) h lo ma)) (vs_ret none (vs_mem (xM (xFM S (mUse x u f)) h lo ma))) := by
  obtain ⟨f1, f2, f3, k, a, bb, cc⟩ := f
  obtain ⟨h1, h2, h3⟩ := h
  have hf : k ≤ 5 := hf
  unfold mUse
  cases hp : pl f1 f2 x u k with
  | some j =>
    have := k_M_useFilter_s l b D aC (xM (xFM S (f1, f2, f3, k, a, bb, cc)) (h1, h2, h3) lo ma) x u (cc + 1) k j rfl hf rfl hp
    rw [muH_x S f1 f2 f3 k a bb cc h1 h2 h3 lo ma j (bb + 1) (cc + 1) rfl] at this
    simp only [hp]
    exact this
  | none =>
    have := k_M_useFilter_n l b D aC (xM (xFM S (f1, f2, f3, k, a, bb, cc)) (h1, h2, h3) lo ma) x u (cc + 1) k rfl hf rfl hp
    simp only [hp]
    unfold fmN
    unfold muM at this
    by_cases h5 : k = 5
    · subst h5
      rw [if_pos rfl] at this
      rw [if_pos rfl]
      rw [show (xM (xFM S (f1, f2, f3, 5, a, bb, cc)) (h1, h2, h3) lo ma).1 62 = f3 from rfl, muD_x S f1 f2 f3 a bb cc h1 h2 h3 lo ma x u (a + 1) (cc + 1) (oldI f3 5) rfl] at this
      exact this
    · rw [if_neg h5] at this
      rw [if_neg h5]
      rw [muA_x S f1 f2 f3 k a bb cc h1 h2 h3 lo ma x u (a + 1) (cc + 1) (k + 1) rfl rfl] at this
      exact this

