def opsA (Inv : Nat → vs_S → Prop) (l : Launch) (b : Nat) (D : va_G) (aC : Nat → ClassId) : Prop := op_member Inv l b D aC ∧ op_level Inv l b D aC ∧ op_weigh Inv l b D aC ∧ op_put Inv l b D aC ∧ op_rule Inv l b D aC ∧ op_add Inv l b D aC ∧ op_remove Inv l b D aC ∧ op_flush Inv l b D aC ∧ op_merge Inv l b D aC ∧ op_refresh Inv l b D aC ∧ op_clause Inv l b D aC ∧ op_clear Inv l b D aC ∧ op_search Inv l b D aC ∧ op_hit Inv l b D aC ∧ op_score Inv l b D aC ∧ op_value Inv l b D aC ∧ op_count Inv l b D aC
theorem and31 (x : Int32) : ∃ k, k < 32 ∧ x &&& 31 = nI k := by
  obtain ⟨n, _, e⟩ := wb_of32 x
  refine ⟨n % 32, Nat.mod_lt _ (by decide), ?_⟩
  subst e
  show nI n &&& nI 31 = _
  rw [nx_and, show (31 : Nat) = 2 ^ 5 - 1 from rfl, Nat.and_two_pow_sub_one_eq_mod]
theorem sub5 {L i : Nat} (hL : L ≤ 2560) (hi : i ≤ 2560) (h : ¬ nI L - 5 < nI i) : i + 5 ≤ L := by
  rw [Int32.lt_iff_toInt_lt, Int32.toInt_sub, nI_toInt (by omega), nI_toInt (by omega), show (5 : Int32).toInt = 5 by decide, Int.bmod_def] at h
  omega
section LP
variable {p : Program} {l : Launch} {e : Env} {R : Room} {s : State} {m : MethodId} {args : Array Value} {below : List Frame} {meth : Method} {c : Code} {b : Nat} {D : va_G} {aC : Nat → ClassId} {Q : State → Prop} {b0 Ln : Nat} {xs : Nat → Int32}
set_option maxRecDepth 100000 in
set_option maxHeartbeats 4000000 in
theorem law_loop (Inv : Nat → vs_S → Prop) (C : vs_X p s m args meth c b D aC "VeilSearchLaw" code 9) (hX : va_X b0 Ln xs s s.heap) (hbl : b0 < s.heap.size) (hbA : ¬ b ≤ b0) (hops : opsA Inv l b D aC) (hmono : ∀ t S, t < 512 → Inv t S → Inv (t + 1) S) (hL : Ln ≤ 2560) (hE : ∀ (kc ks : Nat) (mem : List vs_C) (lv : List (Option Value)), kc ≤ 1107 → ks ≤ 11239 → vs_G p l e room_1 s m args below meth c b D aC 9 Q kc ks false mem 1180 lv []) : ∀ n t (S : vs_S) (o6 o7 o8 : Option Value), 2560 - 5 * t ≤ n → 5 * t ≤ 2560 → Inv t S → vs_G p l e room_1 s m args below meth c b D aC 9 Q (65 + t) (2939 + 6 * t) false (vs_mem S) 28 [some (.retAddr b0), some (.ref 0), some (.ref 35), some (.ref 63), some (.ref 64), some (.int (nI (5 * t))), o6, o7, o8] [] := by
  intro n
  induction n with
  | zero =>
    intro t S o6 o7 o8 hn ht hI
    refine vs_iload C rfl d_law_28 ?_
    refine vs_aload_nA C rfl d_law_30 ?_
    refine vs_slen C hX hbl hbA d_law_31 ?_
    refine vs_iconst (v := 5) C (by decide) d_law_32 ?_
    refine vs_isub C d_law_33 ?_
    refine vs_icmp_gt (tgt := 1180) C d_law_34 (by decide) (fun _ => hE _ _ _ _ (by omega) (by omega)) (fun h => ?_)
    exfalso
    have := sub5 hL ht h
    omega
  | succ n ih =>
    intro t S o6 o7 o8 hn ht hI
    obtain ⟨hmember, hlevel, hweigh, hput, hrule, hadd, hremove, hflush, hmerge, hrefresh, hclause, hclear, hsearch, hhit, hscore, hvalue, hcount⟩ := hops
    refine vs_iload C rfl d_law_28 ?_
    refine vs_aload_nA C rfl d_law_30 ?_
    refine vs_slen C hX hbl hbA d_law_31 ?_
    refine vs_iconst (v := 5) C (by decide) d_law_32 ?_
    refine vs_isub C d_law_33 ?_
    refine vs_icmp_gt (tgt := 1180) C d_law_34 (by decide) (fun _ => hE _ _ _ _ (by omega) (by omega)) (fun h => ?_)
    have hi : 5 * t + 5 ≤ Ln := sub5 hL ht h
    have h512 : t < 512 := by omega
    have K : ∀ (S2 : vs_S) (o6 o7 o8 : Option Value), Inv (t + 1) S2 → vs_G p l e room_1 s m args below meth c b D aC 9 Q (65 + (t + 1)) (2939 + 6 * (t + 1)) false (vs_mem S2) 1174 [some (.retAddr b0), some (.ref 0), some (.ref 35), some (.ref 63), some (.ref 64), some (.int (nI (5 * t))), o6, o7, o8] [] := by
      intro S2 o6 o7 o8 hI2
      refine vs_iinc (v := nI (5 * (t + 1))) C d_law_1174 rfl (by rw [show 5 * (t + 1) = 5 * t + 5 by omega]; exact nI_add (5 * t) 5) (by decide) ?_
      refine vs_goto (tgt := 28) C d_law_1177 (by decide) ?_
      exact ih (t + 1) S2 o6 o7 o8 (by omega) (by omega) hI2
    have K1 : ∀ (S2 : vs_S) (o6 o7 o8 : Option Value), Inv (t + 1) S2 → vs_G p l e room_1 s m args below meth c b D aC 9 Q (65 + t + 1) (2939 + 6 * t + 6) false (vs_mem S2) 1174 [some (.retAddr b0), some (.ref 0), some (.ref 35), some (.ref 63), some (.ref 64), some (.int (nI (5 * t))), o6, o7, o8] [] := fun S2 o6 o7 o8 h2 => vs_wide (by omega) (by omega) (K S2 o6 o7 o8 h2)
    have K0 : ∀ (S2 : vs_S) (o6 o7 o8 : Option Value), Inv (t + 1) S2 → vs_G p l e room_1 s m args below meth c b D aC 9 Q (65 + t) (2939 + 6 * t) false (vs_mem S2) 1174 [some (.retAddr b0), some (.ref 0), some (.ref 35), some (.ref 63), some (.ref 64), some (.int (nI (5 * t))), o6, o7, o8] [] := fun S2 o6 o7 o8 h2 => vs_wide (by omega) (by omega) (K S2 o6 o7 o8 h2)
    refine vs_aload_nA C rfl d_law_37 ?_
    refine vs_iload C rfl d_law_38 ?_
    refine vs_sld C hX hbl hbA d_law_40 rfl (by omega) (by omega) ?_
    refine vs_bipush (v := 31) C (by decide) d_law_41 ?_
    refine vs_iand C d_law_43 ?_
    obtain ⟨k, hk, ek⟩ := and31 (xs (5 * t))
    rw [ek]
    by_cases h17 : 17 ≤ k
    · refine vs_tableOut (tgt := 1174) C d_law_44 (.inr (by rw [nI_toInt (by omega)]; omega)) (by decide) ?_
      have hI1 : Inv (t + 1) S := hmono t S h512 hI
      exact K0 S o6 o7 o8 hI1
    · have hc : k = 0 ∨ k = 1 ∨ k = 2 ∨ k = 3 ∨ k = 4 ∨ k = 5 ∨ k = 6 ∨ k = 7 ∨ k = 8 ∨ k = 9 ∨ k = 10 ∨ k = 11 ∨ k = 12 ∨ k = 13 ∨ k = 14 ∨ k = 15 ∨ k = 16 := by omega
      rcases hc with hc | hc | hc | hc | hc | hc | hc | hc | hc | hc | hc | hc | hc | hc | hc | hc | hc
      · subst hc
        refine vs_tableIn (off := 84) (tgt := 128) C d_law_44 (by decide) (by decide) (by decide) (by decide) ?_
        exact law_member Inv C hX hbl hbA S t (5 * t) h512 hmember hI hi hL (by omega) (by omega) K1 o6 o7 o8
      · subst hc
        refine vs_tableIn (off := 187) (tgt := 231) C d_law_44 (by decide) (by decide) (by decide) (by decide) ?_
        exact law_level Inv C hX hbl hbA S t (5 * t) h512 hlevel hI hi hL (by omega) (by omega) K1 o6 o7 o8
      · subst hc
        refine vs_tableIn (off := 267) (tgt := 311) C d_law_44 (by decide) (by decide) (by decide) (by decide) ?_
        exact law_weigh Inv C hX hbl hbA S t (5 * t) h512 hweigh hI hi hL (by omega) (by omega) K1 o6 o7 o8
      · subst hc
        refine vs_tableIn (off := 357) (tgt := 401) C d_law_44 (by decide) (by decide) (by decide) (by decide) ?_
        exact law_put Inv C hX hbl hbA S t (5 * t) h512 hput hI hi hL (by omega) (by omega) K1 o6 o7 o8
      · subst hc
        refine vs_tableIn (off := 425) (tgt := 469) C d_law_44 (by decide) (by decide) (by decide) (by decide) ?_
        exact law_rule Inv C hX hbl hbA S t (5 * t) h512 hrule hI hi hL (by omega) (by omega) K1 o6 o7 o8
      · subst hc
        refine vs_tableIn (off := 516) (tgt := 560) C d_law_44 (by decide) (by decide) (by decide) (by decide) ?_
        exact law_add Inv C hX hbl hbA S t (5 * t) h512 hadd hI hi hL (by omega) (by omega) K1 o6 o7 o8
      · subst hc
        refine vs_tableIn (off := 572) (tgt := 616) C d_law_44 (by decide) (by decide) (by decide) (by decide) ?_
        exact law_remove Inv C hX hbl hbA S t (5 * t) h512 hremove hI hi hL (by omega) (by omega) K1 o6 o7 o8
      · subst hc
        refine vs_tableIn (off := 608) (tgt := 652) C d_law_44 (by decide) (by decide) (by decide) (by decide) ?_
        exact law_flush Inv C hX hbl hbA S t (5 * t) h512 hflush hI hi hL (by omega) (by omega) K1 o6 o7 o8
      · subst hc
        refine vs_tableIn (off := 652) (tgt := 696) C d_law_44 (by decide) (by decide) (by decide) (by decide) ?_
        exact law_merge Inv C hX hbl hbA S t (5 * t) h512 hmerge hI hi hL (by omega) (by omega) K0 o6 o7 o8
      · subst hc
        refine vs_tableIn (off := 665) (tgt := 709) C d_law_44 (by decide) (by decide) (by decide) (by decide) ?_
        exact law_refresh Inv C hX hbl hbA S t (5 * t) h512 hrefresh hI hi hL (by omega) (by omega) K0 o6 o7 o8
      · subst hc
        refine vs_tableIn (off := 678) (tgt := 722) C d_law_44 (by decide) (by decide) (by decide) (by decide) ?_
        exact law_clause Inv C hX hbl hbA S t (5 * t) h512 hclause hI hi hL (by omega) (by omega) K1 o6 o7 o8
      · subst hc
        refine vs_tableIn (off := 780) (tgt := 824) C d_law_44 (by decide) (by decide) (by decide) (by decide) ?_
        exact law_clear Inv C hX hbl hbA S t (5 * t) h512 hclear hI hi hL (by omega) (by omega) K0 o6 o7 o8
      · subst hc
        refine vs_tableIn (off := 793) (tgt := 837) C d_law_44 (by decide) (by decide) (by decide) (by decide) ?_
        exact law_search Inv C hX hbl hbA S t (5 * t) h512 hsearch hI hi hL (by omega) (by omega) K1 o6 o7 o8
      · subst hc
        refine vs_tableIn (off := 861) (tgt := 905) C d_law_44 (by decide) (by decide) (by decide) (by decide) ?_
        exact law_hit Inv C hX hbl hbA S t (5 * t) h512 hhit hI hi hL (by omega) (by omega) K1 o6 o7 o8
      · subst hc
        refine vs_tableIn (off := 917) (tgt := 961) C d_law_44 (by decide) (by decide) (by decide) (by decide) ?_
        exact law_score Inv C hX hbl hbA S t (5 * t) h512 hscore hI hi hL (by omega) (by omega) K1 o6 o7 o8
      · subst hc
        refine vs_tableIn (off := 994) (tgt := 1038) C d_law_44 (by decide) (by decide) (by decide) (by decide) ?_
        exact law_value Inv C hX hbl hbA S t (5 * t) h512 hvalue hI hi hL (by omega) (by omega) K1 o6 o7 o8
      · subst hc
        refine vs_tableIn (off := 1074) (tgt := 1118) C d_law_44 (by decide) (by decide) (by decide) (by decide) ?_
        exact law_count Inv C hX hbl hbA S t (5 * t) h512 hcount hI hi hL (by omega) (by omega) K1 o6 o7 o8
end LP
