section Throw0
variable {p : Program} {l : Launch} {e : Env} {R : Room} {s : State} {m : MethodId} {args : Array Value} {below : List Frame} {meth : Method} {c : Code} {b : Nat} {D : va_G} {aC : Nat → ClassId} {nL : Nat} {kc ks : Nat} {mem : List vs_C} {pc : Nat} {lv : List (Option Value)} {st : List Value} {own : String} {cc : ByteArray} {pu : Bool} {post : (Option Value ⊕ Nat) → List vs_C → Prop} {rm : Room}
theorem vs_throw0 (C : vs_X p s m args meth c b D aC own cc nL) (hfl : l.flags = flags0) (hx : c.exceptionTable.isEmpty = true) {idx ic k : Nat} (hE : vs_T own idx ic k) (d0 : decode cc pc = .ok (.new idx, 3)) (d3 : decode cc (pc + 3) = .ok (.dup, 1)) (d4 : decode cc (pc + 4) = .ok (.invokespecial ic, 3)) (d7 : decode cc (pc + 7) = .ok (.athrow, 1)) (hkc : kc = 0) (hc : kc + 1 ≤ rm.cells ∧ ks + 6 ≤ rm.slots) (hR : rm.cells ≤ R.cells ∧ rm.slots ≤ R.slots ∧ 6 ≤ R.frames ∧ (st.map fun v => v.category).sum + 81 ≤ R.locals) (hp : post (.inr k) mem) : vs_G p l e R s m args below meth c b D aC nL (vs_E below args s b D aC false pu post rm) kc ks true mem pc lv st := by
  intro H locs ls hP hS hk hl T hT X
  have h1 : H.size ≤ s.heap.size + kc := by
    have := X.same.2.2.1
    rw [← hT]
    exact this
  have h2 := vs_size hP (Nat.le_trans C.2.2.2.2.2.2.1 hS.1)
  exact vs_throw C hfl hx hE d0 d3 d4 d7 (by omega) hc hR hp H locs ls hP hS hk hl T hT X
end Throw0
/-- a call of the face: its end by the code ec (0: it returns v, memory m1; else it throws kind kd ec) -/
def vs_pc (ec : Nat) (kd : Nat → Nat) (v : Option Value) (m0 m1 : List vs_C) : (Option Value ⊕ Nat) → List vs_C → Prop := fun r mem' => (ec = 0 ∧ r = .inl v ∧ mem' = m1) ∨ (ec ≠ 0 ∧ r = .inr (kd ec) ∧ mem' = m0)
theorem pc_ok {ec : Nat} {kd : Nat → Nat} {v v' : Option Value} {m0 m1 m' : List vs_C} (h : ec = 0) (hv : v' = v) (hm : m' = m1) : vs_pc ec kd v m0 m1 (.inl v') m' := Or.inl ⟨h, by rw [hv], hm⟩
theorem pc_no {ec k : Nat} {kd : Nat → Nat} {v : Option Value} {m0 m1 : List vs_C} (h : ec ≠ 0) (hk : k = kd ec) : vs_pc ec kd v m0 m1 (.inr k) m0 := Or.inr ⟨h, by rw [hk], rfl⟩
/-- codes: a condition -/
def ec1 (c : Prop) [Decidable c] : Nat := if c then 0 else 1
theorem ec1_t {c : Prop} [Decidable c] (h : c) : ec1 c = 0 := if_pos h
theorem ec1_f {c : Prop} [Decidable c] (h : ¬ c) : ec1 c ≠ 0 := by rw [show ec1 c = 1 from if_neg h]; decide
theorem nI_rng {x : Int32} {n : Nat} (h0 : 0 ≤ x) (h : x < nI n) (hn : n < 2 ^ 31) : x.toNatClampNeg < n ∧ x = nI x.toNatClampNeg := by
  obtain ⟨j, hj, rfl⟩ := nI_of (Int32.not_lt.mpr h0)
  rw [nI_clamp hj]
  exact ⟨(nI_ltI hj hn).mp h, rfl⟩
def memOK (m g : Int32) : Prop := (0 ≤ m ∧ m < 16) ∧ (0 ≤ g ∧ g < 16) ∧ ¬ g < 8 ∧ ¬ m = g
def memV (S : vs_S) (m g on : Int32) : Int32 := jn_v (S.1 21 m.toNatClampNeg) g on
set_option maxRecDepth 100000 in
set_option maxHeartbeats 4000000 in
theorem k_X_member (l : Launch) (b : Nat) (D : va_G) (aC : Nat → ClassId) (S : vs_S) (hfl : l.flags = flags0) (mm g on : Int32) (ec : Nat) (he : (ec = 0 ∧ memOK mm g) ∨ (ec = 1 ∧ ¬ memOK mm g)) : vs_M l b D aC false false y_X_member (.code y_X_member c_X_member 4 (Option.some Jvm.ClassFile.FieldType.boolean)) { frames := 6, cells := 1, slots := 6, locals := 100 } [.ref 0, .int mm, .int g, .int on] (vs_mem S) (vs_pc ec (fun _ => 0) (some (.int (b01 (¬ memV S mm g on = S.1 21 mm.toNatClampNeg)))) (vs_mem S) (vs_mem (vs_uI S 21 (upd (S.1 21) mm.toNatClampNeg (memV S mm g on))))) := by
  refine vs_M.of (by decide) (Nat.le_of_ble_eq_true rfl) ?_
  intro p e s m args below meth c C hmn hr hx htg
  generalize hQ : vs_E below args s b D aC false false (vs_pc ec (fun _ => 0) (some (.int (b01 (¬ memV S mm g on = S.1 21 mm.toNatClampNeg)))) (vs_mem S) (vs_mem (vs_uI S 21 (upd (S.1 21) mm.toNatClampNeg (memV S mm g on))))) { frames := 6, cells := 1, slots := 6, locals := 100 } = Q
  have hth : ∀ lv, ¬ memOK mm g → vs_G p l e { frames := 6, cells := 1, slots := 6, locals := 100 } s m args below meth c b D aC 4 Q 0 0 true (vs_mem S) 29 lv [] := by
    intro lv hn
    have h1 : ec = 1 := he.elim (fun h => absurd h.2 hn) (fun h => h.1)
    subst hQ
    exact vs_throw0 C hfl hx tx_0 d_X_member_29 d_X_member_32 d_X_member_33 d_X_member_36 rfl (by exact ⟨Nat.le_of_ble_eq_true rfl, Nat.le_of_ble_eq_true rfl⟩) (by exact ⟨Nat.le_of_ble_eq_true rfl, Nat.le_of_ble_eq_true rfl, Nat.le_of_ble_eq_true rfl, Nat.le_of_ble_eq_true rfl⟩) (pc_no (by rw [h1]; decide) rfl)
  refine vs_iload_n C rfl d_X_member_0 ?_
  refine vs_bipush (v := 16) C (by decide) d_X_member_1 ?_
  refine vs_cS C (k_X_isBelow l b D aC S mm 16) yk_X_isBelow ml_X_61 st_X_isBelow d_X_member_3 rfl rfl (by exact Nat.le_of_ble_eq_true rfl) (by exact ⟨Nat.le_of_ble_eq_true rfl, Nat.le_of_ble_eq_true rfl⟩) (by exact ⟨Nat.le_of_ble_eq_true rfl, Nat.le_of_ble_eq_true rfl⟩) (fun h => by cases h) ?_
  refine vs_if_eq (tgt := 29) C d_X_member_6 (by decide) (fun h1 => ?_) (fun h1 => ?_)
  · exact hth _ (fun h => b01_0.mp h1 h.1)
  · refine vs_iload_n C rfl d_X_member_9 ?_
    refine vs_bipush (v := 16) C (by decide) d_X_member_10 ?_
    refine vs_cS C (k_X_isBelow l b D aC S g 16) yk_X_isBelow ml_X_61 st_X_isBelow d_X_member_12 rfl rfl (by exact Nat.le_of_ble_eq_true rfl) (by exact ⟨Nat.le_of_ble_eq_true rfl, Nat.le_of_ble_eq_true rfl⟩) (by exact ⟨Nat.le_of_ble_eq_true rfl, Nat.le_of_ble_eq_true rfl⟩) (fun h => by cases h) ?_
    refine vs_if_eq (tgt := 29) C d_X_member_15 (by decide) (fun h2 => ?_) (fun h2 => ?_)
    · exact hth _ (fun h => b01_0.mp h2 h.2.1)
    · refine vs_iload_n C rfl d_X_member_18 ?_
      refine vs_bipush (v := 8) C (by decide) d_X_member_19 ?_
      refine vs_icmp_lt (tgt := 29) C d_X_member_21 (by decide) (fun h3 => ?_) (fun h3 => ?_)
      · exact hth _ (fun h => h.2.2.1 h3)
      · refine vs_iload_n C rfl d_X_member_24 ?_
        refine vs_iload_n C rfl d_X_member_25 ?_
        refine vs_icmp_ne (tgt := 37) C d_X_member_26 (by decide) (fun h4 => ?_) (fun h4 => ?_)
        · have hok : memOK mm g := ⟨b01_n h1, b01_n h2, h3, h4⟩
          have h0 : ec = 0 := he.elim (fun h => h.1) (fun h => absurd hok h.2)
          obtain ⟨hlt, hmm⟩ := nI_rng (n := 16) hok.1.1 hok.1.2 (by decide)
          refine vs_aload_n C rfl d_X_member_37 ?_
          refine vs_get C fl_X_40 d_X_member_38 rfl rfl ?_
          refine vs_get C fl_X_68 d_X_member_41 rfl rfl ?_
          refine vs_iload_n C rfl d_X_member_44 ?_
          refine vs_iload_n C rfl d_X_member_45 ?_
          refine vs_iload_n C rfl d_X_member_46 ?_
          refine vs_st_eq (st2 := [.int on, .int g, .int (nI mm.toNatClampNeg), .ref 20]) (by rw [← hmm] <;> rfl) ?_
          refine vs_cV C (k_R_join l b D aC S mm.toNatClampNeg g on hlt) yk_R_join ml_X_72 im_R_join se_R_join d_X_member_47 rfl rfl rfl rfl (by exact Nat.le_of_ble_eq_true rfl) (by exact ⟨Nat.le_of_ble_eq_true rfl, Nat.le_of_ble_eq_true rfl⟩) (by exact ⟨Nat.le_of_ble_eq_true rfl, Nat.le_of_ble_eq_true rfl⟩) (fun h => by cases h) ?_
          subst hQ
          exact vs_zret C hr (by have : ∀ c : Prop, ∀ _ : Decidable c, narrow .boolean (.int (b01 c)) = .int (b01 c) := fun c d => (by by_cases q : c; rw [b01_t q]; rfl; rw [b01_f q]; rfl); exact this _ _) d_X_member_50 ⟨Nat.le_of_ble_eq_true rfl, Nat.le_of_ble_eq_true rfl⟩ (fun h => by cases h) (fun h => by cases h) (pc_ok h0 rfl rfl)
        · exact hth _ (fun h => h.2.2.2 h4)

