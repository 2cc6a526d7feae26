theorem nl_L_8 : vs_N "VeilSearchLaw" 8 7 10 [.null, .null, .null, .null, .null, .null, .long 0, .int 0, .int 0, .int 0] := ⟨RX, TX, tyX, rfl, inX, tyX_ok, w_21, w_22, w_1, by decide, fun _ => rfl⟩
theorem ml_L_71 : vs_L "VeilSearchLaw" 71 y_X_init := Or.inl w_23
theorem nl_X_9 : vs_N "VeilSearch" 9 0 5 [.null, .null, .null, .null, .int 0] := ⟨RD, TD, tyD, rfl, inD, tyD_ok, w_29, w_30, w_2, by decide, fun _ => rfl⟩
theorem ml_X_11 : vs_L "VeilSearch" 11 y_D_init := Or.inr ⟨"VeilSearch", w_31⟩
theorem fl_D_9 : vs_F "VeilSearch$Documents" 9 0 0 (.array .int) true := ⟨RD, TD, 5, tyD, rfl, inD, tyD_ok, nmD, by decide, rfl, rfl, rfl, Or.inl w_35⟩
theorem fp_D_9 : ∀ Cn T N, vwCl[0]? = some (Cn, T, N) → Cond.fieldLink "VeilSearch$Documents" 9 (T 0).1 (T 0).2.1 (T 0).2.2.1 ∈ gT := fun Cn T N h => by cases h; exact w_35
theorem fl_X_93 : vs_F "VeilSearch" 93 0 0 (.array .int) true := ⟨RD, TD, 5, tyD, rfl, inD, tyD_ok, nmD, by decide, rfl, rfl, rfl, Or.inr ⟨"VeilSearch", w_36⟩⟩
theorem fl_Q_51 : vs_F "VeilSearch$Query" 51 0 0 (.array .int) true := ⟨RD, TD, 5, tyD, rfl, inD, tyD_ok, nmD, by decide, rfl, rfl, rfl, Or.inr ⟨"VeilSearch", w_37⟩⟩
theorem fl_D_15 : vs_F "VeilSearch$Documents" 15 0 1 (.array .int) true := ⟨RD, TD, 5, tyD, rfl, inD, tyD_ok, nmD, by decide, rfl, rfl, rfl, Or.inl w_38⟩
theorem fp_D_15 : ∀ Cn T N, vwCl[0]? = some (Cn, T, N) → Cond.fieldLink "VeilSearch$Documents" 15 (T 1).1 (T 1).2.1 (T 1).2.2.1 ∈ gT := fun Cn T N h => by cases h; exact w_38
theorem fl_X_107 : vs_F "VeilSearch" 107 0 1 (.array .int) true := ⟨RD, TD, 5, tyD, rfl, inD, tyD_ok, nmD, by decide, rfl, rfl, rfl, Or.inr ⟨"VeilSearch", w_39⟩⟩
theorem fl_D_18 : vs_F "VeilSearch$Documents" 18 0 2 (.array .int) true := ⟨RD, TD, 5, tyD, rfl, inD, tyD_ok, nmD, by decide, rfl, rfl, rfl, Or.inl w_40⟩
theorem fp_D_18 : ∀ Cn T N, vwCl[0]? = some (Cn, T, N) → Cond.fieldLink "VeilSearch$Documents" 18 (T 2).1 (T 2).2.1 (T 2).2.2.1 ∈ gT := fun Cn T N h => by cases h; exact w_40
theorem fl_X_110 : vs_F "VeilSearch" 110 0 2 (.array .int) true := ⟨RD, TD, 5, tyD, rfl, inD, tyD_ok, nmD, by decide, rfl, rfl, rfl, Or.inr ⟨"VeilSearch", w_41⟩⟩
theorem fl_D_21 : vs_F "VeilSearch$Documents" 21 0 3 (.array .int) true := ⟨RD, TD, 5, tyD, rfl, inD, tyD_ok, nmD, by decide, rfl, rfl, rfl, Or.inl w_42⟩
theorem fp_D_21 : ∀ Cn T N, vwCl[0]? = some (Cn, T, N) → Cond.fieldLink "VeilSearch$Documents" 21 (T 3).1 (T 3).2.1 (T 3).2.2.1 ∈ gT := fun Cn T N h => by cases h; exact w_42
theorem fl_X_113 : vs_F "VeilSearch" 113 0 3 (.array .int) true := ⟨RD, TD, 5, tyD, rfl, inD, tyD_ok, nmD, by decide, rfl, rfl, rfl, Or.inr ⟨"VeilSearch", w_43⟩⟩
theorem fl_D_24 : vs_F "VeilSearch$Documents" 24 0 4 (.int) false := ⟨RD, TD, 5, tyD, rfl, inD, tyD_ok, nmD, by decide, rfl, rfl, rfl, Or.inl w_44⟩
theorem fl_X_96 : vs_F "VeilSearch" 96 0 4 (.int) false := ⟨RD, TD, 5, tyD, rfl, inD, tyD_ok, nmD, by decide, rfl, rfl, rfl, Or.inr ⟨"VeilSearch", w_45⟩⟩
theorem nl_X_16 : vs_N "VeilSearch" 16 1 6 [.null, .null, .null, .int 0, .int 0, .int 0] := ⟨RF, TF, tyF, rfl, inF, tyF_ok, w_58, w_59, w_3, by decide, fun _ => rfl⟩
theorem ml_X_18 : vs_L "VeilSearch" 18 y_F_init := Or.inr ⟨"VeilSearch", w_60⟩
theorem fl_F_9 : vs_F "VeilSearch$Filters" 9 1 0 (.array .int) true := ⟨RF, TF, 6, tyF, rfl, inF, tyF_ok, nmF, by decide, rfl, rfl, rfl, Or.inl w_64⟩
theorem fp_F_9 : ∀ Cn T N, vwCl[1]? = some (Cn, T, N) → Cond.fieldLink "VeilSearch$Filters" 9 (T 0).1 (T 0).2.1 (T 0).2.2.1 ∈ gT := fun Cn T N h => by cases h; exact w_64
theorem fl_F_15 : vs_F "VeilSearch$Filters" 15 1 1 (.array .int) true := ⟨RF, TF, 6, tyF, rfl, inF, tyF_ok, nmF, by decide, rfl, rfl, rfl, Or.inl w_65⟩
theorem fp_F_15 : ∀ Cn T N, vwCl[1]? = some (Cn, T, N) → Cond.fieldLink "VeilSearch$Filters" 15 (T 1).1 (T 1).2.1 (T 1).2.2.1 ∈ gT := fun Cn T N h => by cases h; exact w_65
theorem fl_F_18 : vs_F "VeilSearch$Filters" 18 1 2 (.array .long) true := ⟨RF, TF, 6, tyF, rfl, inF, tyF_ok, nmF, by decide, rfl, rfl, rfl, Or.inl w_66⟩
theorem fp_F_18 : ∀ Cn T N, vwCl[1]? = some (Cn, T, N) → Cond.fieldLink "VeilSearch$Filters" 18 (T 2).1 (T 2).2.1 (T 2).2.2.1 ∈ gT := fun Cn T N h => by cases h; exact w_66
theorem fl_F_22 : vs_F "VeilSearch$Filters" 22 1 3 (.int) false := ⟨RF, TF, 6, tyF, rfl, inF, tyF_ok, nmF, by decide, rfl, rfl, rfl, Or.inl w_67⟩
theorem fl_X_170 : vs_F "VeilSearch" 170 1 3 (.int) false := ⟨RF, TF, 6, tyF, rfl, inF, tyF_ok, nmF, by decide, rfl, rfl, rfl, Or.inr ⟨"VeilSearch", w_68⟩⟩
theorem fl_F_26 : vs_F "VeilSearch$Filters" 26 1 4 (.int) false := ⟨RF, TF, 6, tyF, rfl, inF, tyF_ok, nmF, by decide, rfl, rfl, rfl, Or.inl w_69⟩
theorem fl_X_225 : vs_F "VeilSearch" 225 1 4 (.int) false := ⟨RF, TF, 6, tyF, rfl, inF, tyF_ok, nmF, by decide, rfl, rfl, rfl, Or.inr ⟨"VeilSearch", w_70⟩⟩
theorem fl_F_29 : vs_F "VeilSearch$Filters" 29 1 5 (.int) false := ⟨RF, TF, 6, tyF, rfl, inF, tyF_ok, nmF, by decide, rfl, rfl, rfl, Or.inl w_71⟩
theorem fl_X_228 : vs_F "VeilSearch" 228 1 5 (.int) false := ⟨RF, TF, 6, tyF, rfl, inF, tyF_ok, nmF, by decide, rfl, rfl, rfl, Or.inr ⟨"VeilSearch", w_72⟩⟩
theorem nl_X_23 : vs_N "VeilSearch" 23 3 7 [.null, .null, .null, .null, .null, .int 0, .int 0] := ⟨RQ, TQ, tyQ, rfl, inQ, tyQ_ok, w_87, w_88, w_4, by decide, fun _ => rfl⟩
theorem ml_X_25 : vs_L "VeilSearch" 25 y_Q_init := Or.inr ⟨"VeilSearch", w_89⟩
theorem fl_Q_9 : vs_F "VeilSearch$Query" 9 3 0 (.array .int) true := ⟨RQ, TQ, 7, tyQ, rfl, inQ, tyQ_ok, nmQ, by decide, rfl, rfl, rfl, Or.inl w_93⟩
theorem fp_Q_9 : ∀ Cn T N, vwCl[3]? = some (Cn, T, N) → Cond.fieldLink "VeilSearch$Query" 9 (T 0).1 (T 0).2.1 (T 0).2.2.1 ∈ gT := fun Cn T N h => by cases h; exact w_93
theorem fl_Q_15 : vs_F "VeilSearch$Query" 15 3 1 (.array .int) true := ⟨RQ, TQ, 7, tyQ, rfl, inQ, tyQ_ok, nmQ, by decide, rfl, rfl, rfl, Or.inl w_94⟩
theorem fp_Q_15 : ∀ Cn T N, vwCl[3]? = some (Cn, T, N) → Cond.fieldLink "VeilSearch$Query" 15 (T 1).1 (T 1).2.1 (T 1).2.2.1 ∈ gT := fun Cn T N h => by cases h; exact w_94
theorem fl_Q_18 : vs_F "VeilSearch$Query" 18 3 2 (.array .int) true := ⟨RQ, TQ, 7, tyQ, rfl, inQ, tyQ_ok, nmQ, by decide, rfl, rfl, rfl, Or.inl w_95⟩
theorem fp_Q_18 : ∀ Cn T N, vwCl[3]? = some (Cn, T, N) → Cond.fieldLink "VeilSearch$Query" 18 (T 2).1 (T 2).2.1 (T 2).2.2.1 ∈ gT := fun Cn T N h => by cases h; exact w_95
theorem fl_Q_21 : vs_F "VeilSearch$Query" 21 3 3 (.array .float) true := ⟨RQ, TQ, 7, tyQ, rfl, inQ, tyQ_ok, nmQ, by decide, rfl, rfl, rfl, Or.inl w_96⟩
theorem fp_Q_21 : ∀ Cn T N, vwCl[3]? = some (Cn, T, N) → Cond.fieldLink "VeilSearch$Query" 21 (T 3).1 (T 3).2.1 (T 3).2.2.1 ∈ gT := fun Cn T N h => by cases h; exact w_96
theorem fl_Q_25 : vs_F "VeilSearch$Query" 25 3 4 (.array .boolean) true := ⟨RQ, TQ, 7, tyQ, rfl, inQ, tyQ_ok, nmQ, by decide, rfl, rfl, rfl, Or.inl w_97⟩
theorem fp_Q_25 : ∀ Cn T N, vwCl[3]? = some (Cn, T, N) → Cond.fieldLink "VeilSearch$Query" 25 (T 4).1 (T 4).2.1 (T 4).2.2.1 ∈ gT := fun Cn T N h => by cases h; exact w_97
theorem fl_Q_29 : vs_F "VeilSearch$Query" 29 3 5 (.boolean) false := ⟨RQ, TQ, 7, tyQ, rfl, inQ, tyQ_ok, nmQ, by decide, rfl, rfl, rfl, Or.inl w_98⟩
theorem fl_Q_33 : vs_F "VeilSearch$Query" 33 3 6 (.int) false := ⟨RQ, TQ, 7, tyQ, rfl, inQ, tyQ_ok, nmQ, by decide, rfl, rfl, rfl, Or.inl w_99⟩
theorem fl_X_176 : vs_F "VeilSearch" 176 3 6 (.int) false := ⟨RQ, TQ, 7, tyQ, rfl, inQ, tyQ_ok, nmQ, by decide, rfl, rfl, rfl, Or.inr ⟨"VeilSearch", w_100⟩⟩
theorem nl_X_30 : vs_N "VeilSearch" 30 2 4 [.null, .null, .int 0, .int 0] := ⟨RH, TH, tyH, rfl, inH, tyH_ok, w_118, w_119, w_5, by decide, fun _ => rfl⟩
theorem ml_X_32 : vs_L "VeilSearch" 32 y_H_init := Or.inr ⟨"VeilSearch", w_120⟩
theorem fl_H_9 : vs_F "VeilSearch$Hits" 9 2 0 (.array .int) true := ⟨RH, TH, 4, tyH, rfl, inH, tyH_ok, nmH, by decide, rfl, rfl, rfl, Or.inl w_124⟩
theorem fp_H_9 : ∀ Cn T N, vwCl[2]? = some (Cn, T, N) → Cond.fieldLink "VeilSearch$Hits" 9 (T 0).1 (T 0).2.1 (T 0).2.2.1 ∈ gT := fun Cn T N h => by cases h; exact w_124
theorem fl_X_207 : vs_F "VeilSearch" 207 2 0 (.array .int) true := ⟨RH, TH, 4, tyH, rfl, inH, tyH_ok, nmH, by decide, rfl, rfl, rfl, Or.inr ⟨"VeilSearch", w_125⟩⟩
theorem fl_H_15 : vs_F "VeilSearch$Hits" 15 2 1 (.array .float) true := ⟨RH, TH, 4, tyH, rfl, inH, tyH_ok, nmH, by decide, rfl, rfl, rfl, Or.inl w_126⟩
theorem fp_H_15 : ∀ Cn T N, vwCl[2]? = some (Cn, T, N) → Cond.fieldLink "VeilSearch$Hits" 15 (T 1).1 (T 1).2.1 (T 1).2.2.1 ∈ gT := fun Cn T N h => by cases h; exact w_126
theorem fl_X_209 : vs_F "VeilSearch" 209 2 1 (.array .float) true := ⟨RH, TH, 4, tyH, rfl, inH, tyH_ok, nmH, by decide, rfl, rfl, rfl, Or.inr ⟨"VeilSearch", w_127⟩⟩
theorem fl_H_19 : vs_F "VeilSearch$Hits" 19 2 2 (.int) false := ⟨RH, TH, 4, tyH, rfl, inH, tyH_ok, nmH, by decide, rfl, rfl, rfl, Or.inl w_128⟩
theorem fl_X_203 : vs_F "VeilSearch" 203 2 2 (.int) false := ⟨RH, TH, 4, tyH, rfl, inH, tyH_ok, nmH, by decide, rfl, rfl, rfl, Or.inr ⟨"VeilSearch", w_129⟩⟩
theorem fl_H_23 : vs_F "VeilSearch$Hits" 23 2 3 (.int) false := ⟨RH, TH, 4, tyH, rfl, inH, tyH_ok, nmH, by decide, rfl, rfl, rfl, Or.inl w_130⟩
theorem fl_X_260 : vs_F "VeilSearch" 260 2 3 (.int) false := ⟨RH, TH, 4, tyH, rfl, inH, tyH_ok, nmH, by decide, rfl, rfl, rfl, Or.inr ⟨"VeilSearch", w_131⟩⟩
theorem nl_X_37 : vs_N "VeilSearch" 37 6 3 [.null, .null, .long 0] := ⟨RV, TV, tyV, rfl, inV, tyV_ok, w_141, w_142, w_6, by decide, fun _ => rfl⟩
theorem ml_X_39 : vs_L "VeilSearch" 39 y_V_init := Or.inr ⟨"VeilSearch", w_143⟩
theorem nl_V_7 : vs_N "VeilSearch$View" 7 4 3 [.null, .null, .null] := ⟨RR, TR, tyR, rfl, inR, tyR_ok, w_147, w_148, w_7, by decide, fun _ => rfl⟩
theorem ml_V_9 : vs_L "VeilSearch$View" 9 y_R_init := Or.inr ⟨"VeilSearch", w_149⟩
theorem fl_R_9 : vs_F "VeilSearch$Rights" 9 4 0 (.array .int) true := ⟨RR, TR, 3, tyR, rfl, inR, tyR_ok, nmR, by decide, rfl, rfl, rfl, Or.inl w_153⟩
theorem fp_R_9 : ∀ Cn T N, vwCl[4]? = some (Cn, T, N) → Cond.fieldLink "VeilSearch$Rights" 9 (T 0).1 (T 0).2.1 (T 0).2.2.1 ∈ gT := fun Cn T N h => by cases h; exact w_153
theorem fl_R_15 : vs_F "VeilSearch$Rights" 15 4 1 (.array .int) true := ⟨RR, TR, 3, tyR, rfl, inR, tyR_ok, nmR, by decide, rfl, rfl, rfl, Or.inl w_154⟩
theorem fp_R_15 : ∀ Cn T N, vwCl[4]? = some (Cn, T, N) → Cond.fieldLink "VeilSearch$Rights" 15 (T 1).1 (T 1).2.1 (T 1).2.2.1 ∈ gT := fun Cn T N h => by cases h; exact w_154
theorem fl_X_78 : vs_F "VeilSearch" 78 4 1 (.array .int) true := ⟨RR, TR, 3, tyR, rfl, inR, tyR_ok, nmR, by decide, rfl, rfl, rfl, Or.inr ⟨"VeilSearch", w_155⟩⟩
theorem fl_R_18 : vs_F "VeilSearch$Rights" 18 4 2 (.array .int) true := ⟨RR, TR, 3, tyR, rfl, inR, tyR_ok, nmR, by decide, rfl, rfl, rfl, Or.inl w_156⟩
theorem fp_R_18 : ∀ Cn T N, vwCl[4]? = some (Cn, T, N) → Cond.fieldLink "VeilSearch$Rights" 18 (T 2).1 (T 2).2.1 (T 2).2.2.1 ∈ gT := fun Cn T N h => by cases h; exact w_156
theorem fl_X_82 : vs_F "VeilSearch" 82 4 2 (.array .int) true := ⟨RR, TR, 3, tyR, rfl, inR, tyR_ok, nmR, by decide, rfl, rfl, rfl, Or.inr ⟨"VeilSearch", w_157⟩⟩
theorem nl_V_16 : vs_N "VeilSearch$View" 16 5 3 [.null, .null, .int 0] := ⟨RS, TS, tyS, rfl, inS, tyS_ok, w_165, w_166, w_8, by decide, fun _ => rfl⟩
theorem ml_V_18 : vs_L "VeilSearch$View" 18 y_S_init := Or.inr ⟨"VeilSearch", w_167⟩
theorem fl_S_9 : vs_F "VeilSearch$Segments" 9 5 0 (.array .int) true := ⟨RS, TS, 3, tyS, rfl, inS, tyS_ok, nmS, by decide, rfl, rfl, rfl, Or.inl w_171⟩
theorem fp_S_9 : ∀ Cn T N, vwCl[5]? = some (Cn, T, N) → Cond.fieldLink "VeilSearch$Segments" 9 (T 0).1 (T 0).2.1 (T 0).2.2.1 ∈ gT := fun Cn T N h => by cases h; exact w_171
theorem fl_X_189 : vs_F "VeilSearch" 189 5 0 (.array .int) true := ⟨RS, TS, 3, tyS, rfl, inS, tyS_ok, nmS, by decide, rfl, rfl, rfl, Or.inr ⟨"VeilSearch", w_172⟩⟩
theorem fl_S_15 : vs_F "VeilSearch$Segments" 15 5 1 (.array .long) true := ⟨RS, TS, 3, tyS, rfl, inS, tyS_ok, nmS, by decide, rfl, rfl, rfl, Or.inl w_173⟩
theorem fp_S_15 : ∀ Cn T N, vwCl[5]? = some (Cn, T, N) → Cond.fieldLink "VeilSearch$Segments" 15 (T 1).1 (T 1).2.1 (T 1).2.2.1 ∈ gT := fun Cn T N h => by cases h; exact w_173
theorem fl_X_192 : vs_F "VeilSearch" 192 5 1 (.array .long) true := ⟨RS, TS, 3, tyS, rfl, inS, tyS_ok, nmS, by decide, rfl, rfl, rfl, Or.inr ⟨"VeilSearch", w_174⟩⟩
theorem fl_S_19 : vs_F "VeilSearch$Segments" 19 5 2 (.int) false := ⟨RS, TS, 3, tyS, rfl, inS, tyS_ok, nmS, by decide, rfl, rfl, rfl, Or.inl w_175⟩
theorem fl_X_139 : vs_F "VeilSearch" 139 5 2 (.int) false := ⟨RS, TS, 3, tyS, rfl, inS, tyS_ok, nmS, by decide, rfl, rfl, rfl, Or.inr ⟨"VeilSearch", w_176⟩⟩
theorem fl_V_10 : vs_F "VeilSearch$View" 10 6 0 (.object "VeilSearch$Rights") true := ⟨RV, TV, 3, tyV, rfl, inV, tyV_ok, nmV, by decide, rfl, rfl, rfl, Or.inl w_184⟩
theorem fp_V_10 : ∀ Cn T N, vwCl[6]? = some (Cn, T, N) → Cond.fieldLink "VeilSearch$View" 10 (T 0).1 (T 0).2.1 (T 0).2.2.1 ∈ gT := fun Cn T N h => by cases h; exact w_184
theorem fl_X_68 : vs_F "VeilSearch" 68 6 0 (.object "VeilSearch$Rights") true := ⟨RV, TV, 3, tyV, rfl, inV, tyV_ok, nmV, by decide, rfl, rfl, rfl, Or.inr ⟨"VeilSearch", w_185⟩⟩
theorem fl_V_19 : vs_F "VeilSearch$View" 19 6 1 (.object "VeilSearch$Segments") true := ⟨RV, TV, 3, tyV, rfl, inV, tyV_ok, nmV, by decide, rfl, rfl, rfl, Or.inl w_186⟩
theorem fp_V_19 : ∀ Cn T N, vwCl[6]? = some (Cn, T, N) → Cond.fieldLink "VeilSearch$View" 19 (T 1).1 (T 1).2.1 (T 1).2.2.1 ∈ gT := fun Cn T N h => by cases h; exact w_186
theorem fl_X_135 : vs_F "VeilSearch" 135 6 1 (.object "VeilSearch$Segments") true := ⟨RV, TV, 3, tyV, rfl, inV, tyV_ok, nmV, by decide, rfl, rfl, rfl, Or.inr ⟨"VeilSearch", w_187⟩⟩
theorem fl_V_23 : vs_F "VeilSearch$View" 23 6 2 (.long) false := ⟨RV, TV, 3, tyV, rfl, inV, tyV_ok, nmV, by decide, rfl, rfl, rfl, Or.inl w_188⟩
theorem fl_X_123 : vs_F "VeilSearch" 123 6 2 (.long) false := ⟨RV, TV, 3, tyV, rfl, inV, tyV_ok, nmV, by decide, rfl, rfl, rfl, Or.inr ⟨"VeilSearch", w_189⟩⟩
theorem fl_X_12 : vs_F "VeilSearch" 12 7 0 (.object "VeilSearch$Documents") true := ⟨RX, TX, 10, tyX, rfl, inX, tyX_ok, nmX, by decide, rfl, rfl, rfl, Or.inl w_197⟩
theorem fp_X_12 : ∀ Cn T N, vwCl[7]? = some (Cn, T, N) → Cond.fieldLink "VeilSearch" 12 (T 0).1 (T 0).2.1 (T 0).2.2.1 ∈ gT := fun Cn T N h => by cases h; exact w_197
theorem fl_X_19 : vs_F "VeilSearch" 19 7 1 (.object "VeilSearch$Filters") true := ⟨RX, TX, 10, tyX, rfl, inX, tyX_ok, nmX, by decide, rfl, rfl, rfl, Or.inl w_198⟩
theorem fp_X_19 : ∀ Cn T N, vwCl[7]? = some (Cn, T, N) → Cond.fieldLink "VeilSearch" 19 (T 1).1 (T 1).2.1 (T 1).2.2.1 ∈ gT := fun Cn T N h => by cases h; exact w_198
theorem fl_X_26 : vs_F "VeilSearch" 26 7 2 (.object "VeilSearch$Query") true := ⟨RX, TX, 10, tyX, rfl, inX, tyX_ok, nmX, by decide, rfl, rfl, rfl, Or.inl w_199⟩
theorem fp_X_26 : ∀ Cn T N, vwCl[7]? = some (Cn, T, N) → Cond.fieldLink "VeilSearch" 26 (T 2).1 (T 2).2.1 (T 2).2.2.1 ∈ gT := fun Cn T N h => by cases h; exact w_199
theorem fl_X_33 : vs_F "VeilSearch" 33 7 3 (.object "VeilSearch$Hits") true := ⟨RX, TX, 10, tyX, rfl, inX, tyX_ok, nmX, by decide, rfl, rfl, rfl, Or.inl w_200⟩
theorem fp_X_33 : ∀ Cn T N, vwCl[7]? = some (Cn, T, N) → Cond.fieldLink "VeilSearch" 33 (T 3).1 (T 3).2.1 (T 3).2.2.1 ∈ gT := fun Cn T N h => by cases h; exact w_200
theorem fl_X_40 : vs_F "VeilSearch" 40 7 4 (.object "VeilSearch$View") true := ⟨RX, TX, 10, tyX, rfl, inX, tyX_ok, nmX, by decide, rfl, rfl, rfl, Or.inl w_201⟩
theorem fp_X_40 : ∀ Cn T N, vwCl[7]? = some (Cn, T, N) → Cond.fieldLink "VeilSearch" 40 (T 4).1 (T 4).2.1 (T 4).2.2.1 ∈ gT := fun Cn T N h => by cases h; exact w_201
theorem fl_X_44 : vs_F "VeilSearch" 44 7 5 (.object "VeilSearch$View") true := ⟨RX, TX, 10, tyX, rfl, inX, tyX_ok, nmX, by decide, rfl, rfl, rfl, Or.inl w_202⟩
theorem fp_X_44 : ∀ Cn T N, vwCl[7]? = some (Cn, T, N) → Cond.fieldLink "VeilSearch" 44 (T 5).1 (T 5).2.1 (T 5).2.2.1 ∈ gT := fun Cn T N h => by cases h; exact w_202
theorem fl_X_47 : vs_F "VeilSearch" 47 7 6 (.long) false := ⟨RX, TX, 10, tyX, rfl, inX, tyX_ok, nmX, by decide, rfl, rfl, rfl, Or.inl w_203⟩
theorem fl_X_51 : vs_F "VeilSearch" 51 7 7 (.int) false := ⟨RX, TX, 10, tyX, rfl, inX, tyX_ok, nmX, by decide, rfl, rfl, rfl, Or.inl w_204⟩
theorem fl_X_55 : vs_F "VeilSearch" 55 7 8 (.int) false := ⟨RX, TX, 10, tyX, rfl, inX, tyX_ok, nmX, by decide, rfl, rfl, rfl, Or.inl w_205⟩
theorem fl_X_58 : vs_F "VeilSearch" 58 7 9 (.int) false := ⟨RX, TX, 10, tyX, rfl, inX, tyX_ok, nmX, by decide, rfl, rfl, rfl, Or.inl w_206⟩
theorem ml_L_114 : vs_L "VeilSearchLaw" 114 y_X_merge := Or.inl w_228
theorem ml_X_154 : vs_L "VeilSearch" 154 y_S_allIds := Or.inl w_232
theorem ml_X_150 : vs_L "VeilSearch" 150 y_X_appendSegment := Or.inl w_237
theorem ml_X_237 : vs_L "VeilSearch" 237 y_S_append := Or.inl w_241
theorem ml_X_144 : vs_L "VeilSearch" 144 y_J_bitCount := Or.inl w_245
theorem ml_L_118 : vs_L "VeilSearchLaw" 118 y_X_refresh := Or.inl w_251
theorem ml_X_158 : vs_L "VeilSearch" 158 y_R_sameAs := Or.inl w_255
theorem ml_R_21 : vs_L "VeilSearch$Rights" 21 y_R_sameRow := Or.inl w_259
theorem ml_X_162 : vs_L "VeilSearch" 162 y_V_takeOver := Or.inl w_262
theorem ml_V_33 : vs_L "VeilSearch$View" 33 y_R_takeOver := Or.inl w_266
theorem ml_V_37 : vs_L "VeilSearch$View" 37 y_S_takeOver := Or.inl w_273
theorem ml_X_166 : vs_L "VeilSearch" 166 y_F_dropAllBut := Or.inl w_278
theorem ml_F_40 : vs_L "VeilSearch$Filters" 40 y_S_hasNumber := Or.inl w_282
theorem ml_F_32 : vs_L "VeilSearch$Filters" 32 y_F_drop := Or.inl w_286
theorem ml_X_173 : vs_L "VeilSearch" 173 y_V_livingIds := Or.inl w_290
theorem ml_V_27 : vs_L "VeilSearch$View" 27 y_S_allIds := Or.inl w_294
theorem ml_L_126 : vs_L "VeilSearchLaw" 126 y_X_clear := Or.inl w_296
theorem ml_L_75 : vs_L "VeilSearchLaw" 75 y_L_member := Or.inl w_300
theorem ml_L_7 : vs_L "VeilSearchLaw" 7 y_X_member := Or.inl w_304
theorem ml_X_61 : vs_L "VeilSearch" 61 y_X_isBelow := Or.inl w_308
theorem ml_X_72 : vs_L "VeilSearch" 72 y_R_join := Or.inl w_376
theorem ml_L_84 : vs_L "VeilSearchLaw" 84 y_L_level := Or.inl w_380
theorem ml_L_15 : vs_L "VeilSearchLaw" 15 y_X_level := Or.inl w_383
theorem ml_L_90 : vs_L "VeilSearchLaw" 90 y_L_weigh := Or.inl w_387
theorem ml_L_19 : vs_L "VeilSearchLaw" 19 y_X_weigh := Or.inl w_390
theorem ml_X_85 : vs_L "VeilSearch" 85 y_X_isWeight := Or.inl w_394
theorem ml_X_89 : vs_L "VeilSearch" 89 y_X_codeOf := Or.inl w_399
theorem ml_X_99 : vs_L "VeilSearch" 99 y_D_codePlace := Or.inl w_404
theorem ml_D_28 : vs_L "VeilSearch$Documents" 28 y_D_valuePlace := Or.inl w_407
theorem ml_L_94 : vs_L "VeilSearchLaw" 94 y_L_put := Or.inl w_410
theorem ml_L_23 : vs_L "VeilSearchLaw" 23 y_X_put := Or.inl w_413
theorem ml_X_103 : vs_L "VeilSearch" 103 y_D_valuePlace := Or.inl w_417
theorem ml_L_98 : vs_L "VeilSearchLaw" 98 y_L_rule := Or.inl w_418
theorem ml_L_27 : vs_L "VeilSearchLaw" 27 y_X_rule := Or.inl w_421
theorem ml_L_102 : vs_L "VeilSearchLaw" 102 y_L_add := Or.inl w_425
theorem ml_L_31 : vs_L "VeilSearchLaw" 31 y_X_add := Or.inl w_429
theorem ml_X_119 : vs_L "VeilSearch" 119 y_D_finishDraft := Or.inl w_448
theorem ml_L_106 : vs_L "VeilSearchLaw" 106 y_L_remove := Or.inl w_452
theorem ml_L_37 : vs_L "VeilSearchLaw" 37 y_X_remove := Or.inl w_456
theorem ml_X_126 : vs_L "VeilSearch" 126 y_X_holds := Or.inl w_460
theorem ml_L_110 : vs_L "VeilSearchLaw" 110 y_L_flush := Or.inl w_478
theorem ml_L_43 : vs_L "VeilSearchLaw" 43 y_X_flush := Or.inl w_481
theorem ml_L_122 : vs_L "VeilSearchLaw" 122 y_L_clause := Or.inl w_485
theorem ml_L_47 : vs_L "VeilSearchLaw" 47 y_X_clause := Or.inl w_488
theorem ml_X_177 : vs_L "VeilSearch" 177 y_Q_insert := Or.inl w_492
theorem ml_Q_37 : vs_L "VeilSearch$Query" 37 y_Q_comesLater := Or.inl w_496
theorem ml_Q_41 : vs_L "VeilSearch$Query" 41 y_Q_move := Or.inl w_500
theorem ml_L_130 : vs_L "VeilSearchLaw" 130 y_L_search := Or.inl w_504
theorem ml_L_51 : vs_L "VeilSearchLaw" 51 y_X_search := Or.inl w_507
theorem ml_X_181 : vs_L "VeilSearch" 181 y_H_restart := Or.inl w_511
theorem ml_X_185 : vs_L "VeilSearch" 185 y_Q_openFor := Or.inl w_515
theorem ml_Q_45 : vs_L "VeilSearch$Query" 45 y_R_isOpen := Or.inl w_519
theorem ml_X_195 : vs_L "VeilSearch" 195 y_X_filterOf := Or.inl w_523
theorem ml_X_241 : vs_L "VeilSearch" 241 y_F_placeOf := Or.inl w_527
theorem ml_X_244 : vs_L "VeilSearch" 244 y_F_reuse := Or.inl w_531
theorem ml_F_36 : vs_L "VeilSearch$Filters" 36 y_F_append := Or.inl w_535
theorem ml_X_213 : vs_L "VeilSearch" 213 y_R_tokensOf := Or.inl w_539
theorem ml_X_248 : vs_L "VeilSearch" 248 y_D_readableOf := Or.inl w_543
theorem ml_D_32 : vs_L "VeilSearch$Documents" 32 y_X_holds := Or.inr ⟨"VeilSearch", w_547⟩
theorem ml_D_36 : vs_L "VeilSearch$Documents" 36 y_D_mayRead := Or.inl w_548
theorem ml_X_252 : vs_L "VeilSearch" 252 y_F_keepNew := Or.inl w_552
theorem ml_X_199 : vs_L "VeilSearch" 199 y_X_passThrough := Or.inl w_556
theorem ml_X_256 : vs_L "VeilSearch" 256 y_X_firstBlock := Or.inl w_560
theorem ml_X_263 : vs_L "VeilSearch" 263 y_Q_scoreOf := Or.inl w_563
theorem ml_Q_60 : vs_L "VeilSearch$Query" 60 y_D_greatestCode := Or.inl w_567
theorem ml_D_40 : vs_L "VeilSearch$Documents" 40 y_X_lowestId := Or.inr ⟨"VeilSearch", w_571⟩
theorem ml_D_44 : vs_L "VeilSearch$Documents" 44 y_D_codePlace := Or.inl w_574
theorem ml_X_267 : vs_L "VeilSearch" 267 y_H_lastScore := Or.inl w_579
theorem ml_X_271 : vs_L "VeilSearch" 271 y_X_lookAt := Or.inl w_583
theorem ml_X_274 : vs_L "VeilSearch" 274 y_X_lowestId := Or.inl w_587
theorem ml_X_277 : vs_L "VeilSearch" 277 y_Q_finds := Or.inl w_588
theorem ml_Q_56 : vs_L "VeilSearch$Query" 56 y_D_codePlace := Or.inl w_592
theorem ml_X_281 : vs_L "VeilSearch" 281 y_H_take := Or.inl w_593
theorem ml_H_26 : vs_L "VeilSearch$Hits" 26 y_H_lastScore := Or.inl w_597
theorem ml_L_133 : vs_L "VeilSearchLaw" 133 y_L_hit := Or.inl w_601
theorem ml_L_54 : vs_L "VeilSearchLaw" 54 y_X_hit := Or.inl w_605
theorem ml_L_136 : vs_L "VeilSearchLaw" 136 y_L_score := Or.inl w_624
theorem ml_L_59 : vs_L "VeilSearchLaw" 59 y_X_score := Or.inl w_627
theorem ml_L_140 : vs_L "VeilSearchLaw" 140 y_L_value := Or.inl w_631
theorem ml_L_63 : vs_L "VeilSearchLaw" 63 y_X_value := Or.inl w_635
theorem ml_X_216 : vs_L "VeilSearch" 216 y_D_mayRead := Or.inl w_639
theorem ml_X_219 : vs_L "VeilSearch" 219 y_R_isOpen := Or.inl w_640
theorem ml_L_143 : vs_L "VeilSearchLaw" 143 y_L_count := Or.inl w_656
theorem ml_L_68 : vs_L "VeilSearchLaw" 68 y_X_count := Or.inl w_659
theorem nl_L_72 : vs_N "VeilSearchLaw" 72 8 40 [.null, .null, .null, .null, .null, .null, .null, .null, .null, .null, .null, .null, .null, .null, .null, .null, .null, .null, .null, .null, .null, .null, .null, .null, .null, .null, .null, .int 0, .int 0, .int 0, .int 0, .int 0, .int 0, .int 0, .int 0, .int 0, .int 0, .int 0, .int 0, .int 0] := ⟨RM, TM, tyM, rfl, inM, tyM_ok, w_663, w_664, w_9, by decide, fun _ => rfl⟩
theorem ml_L_74 : vs_L "VeilSearchLaw" 74 y_M_init := Or.inl w_665
theorem fl_M_7 : vs_F "VeilSearchModel" 7 8 0 (.array .int) true := ⟨RM, TM, 40, tyM, rfl, inM, tyM_ok, nmM, by decide, rfl, rfl, rfl, Or.inl w_669⟩
theorem fp_M_7 : ∀ Cn T N, vwCl[8]? = some (Cn, T, N) → Cond.fieldLink "VeilSearchModel" 7 (T 0).1 (T 0).2.1 (T 0).2.2.1 ∈ gT := fun Cn T N h => by cases h; exact w_669
theorem fl_M_13 : vs_F "VeilSearchModel" 13 8 1 (.array .int) true := ⟨RM, TM, 40, tyM, rfl, inM, tyM_ok, nmM, by decide, rfl, rfl, rfl, Or.inl w_670⟩
theorem fp_M_13 : ∀ Cn T N, vwCl[8]? = some (Cn, T, N) → Cond.fieldLink "VeilSearchModel" 13 (T 1).1 (T 1).2.1 (T 1).2.2.1 ∈ gT := fun Cn T N h => by cases h; exact w_670
theorem fl_M_16 : vs_F "VeilSearchModel" 16 8 2 (.array .int) true := ⟨RM, TM, 40, tyM, rfl, inM, tyM_ok, nmM, by decide, rfl, rfl, rfl, Or.inl w_671⟩
theorem fp_M_16 : ∀ Cn T N, vwCl[8]? = some (Cn, T, N) → Cond.fieldLink "VeilSearchModel" 16 (T 2).1 (T 2).2.1 (T 2).2.2.1 ∈ gT := fun Cn T N h => by cases h; exact w_671
theorem fl_M_19 : vs_F "VeilSearchModel" 19 8 3 (.array .int) true := ⟨RM, TM, 40, tyM, rfl, inM, tyM_ok, nmM, by decide, rfl, rfl, rfl, Or.inl w_672⟩
theorem fp_M_19 : ∀ Cn T N, vwCl[8]? = some (Cn, T, N) → Cond.fieldLink "VeilSearchModel" 19 (T 3).1 (T 3).2.1 (T 3).2.2.1 ∈ gT := fun Cn T N h => by cases h; exact w_672
theorem fl_M_22 : vs_F "VeilSearchModel" 22 8 4 (.array .int) true := ⟨RM, TM, 40, tyM, rfl, inM, tyM_ok, nmM, by decide, rfl, rfl, rfl, Or.inl w_673⟩
theorem fp_M_22 : ∀ Cn T N, vwCl[8]? = some (Cn, T, N) → Cond.fieldLink "VeilSearchModel" 22 (T 4).1 (T 4).2.1 (T 4).2.2.1 ∈ gT := fun Cn T N h => by cases h; exact w_673
theorem fl_M_25 : vs_F "VeilSearchModel" 25 8 5 (.array .int) true := ⟨RM, TM, 40, tyM, rfl, inM, tyM_ok, nmM, by decide, rfl, rfl, rfl, Or.inl w_674⟩
theorem fp_M_25 : ∀ Cn T N, vwCl[8]? = some (Cn, T, N) → Cond.fieldLink "VeilSearchModel" 25 (T 5).1 (T 5).2.1 (T 5).2.2.1 ∈ gT := fun Cn T N h => by cases h; exact w_674
theorem fl_M_28 : vs_F "VeilSearchModel" 28 8 6 (.array .int) true := ⟨RM, TM, 40, tyM, rfl, inM, tyM_ok, nmM, by decide, rfl, rfl, rfl, Or.inl w_675⟩
theorem fp_M_28 : ∀ Cn T N, vwCl[8]? = some (Cn, T, N) → Cond.fieldLink "VeilSearchModel" 28 (T 6).1 (T 6).2.1 (T 6).2.2.1 ∈ gT := fun Cn T N h => by cases h; exact w_675
theorem fl_M_31 : vs_F "VeilSearchModel" 31 8 7 (.array .int) true := ⟨RM, TM, 40, tyM, rfl, inM, tyM_ok, nmM, by decide, rfl, rfl, rfl, Or.inl w_676⟩
theorem fp_M_31 : ∀ Cn T N, vwCl[8]? = some (Cn, T, N) → Cond.fieldLink "VeilSearchModel" 31 (T 7).1 (T 7).2.1 (T 7).2.2.1 ∈ gT := fun Cn T N h => by cases h; exact w_676
theorem fl_M_34 : vs_F "VeilSearchModel" 34 8 8 (.array .int) true := ⟨RM, TM, 40, tyM, rfl, inM, tyM_ok, nmM, by decide, rfl, rfl, rfl, Or.inl w_677⟩
theorem fp_M_34 : ∀ Cn T N, vwCl[8]? = some (Cn, T, N) → Cond.fieldLink "VeilSearchModel" 34 (T 8).1 (T 8).2.1 (T 8).2.2.1 ∈ gT := fun Cn T N h => by cases h; exact w_677
theorem fl_M_37 : vs_F "VeilSearchModel" 37 8 9 (.array .int) true := ⟨RM, TM, 40, tyM, rfl, inM, tyM_ok, nmM, by decide, rfl, rfl, rfl, Or.inl w_678⟩
theorem fp_M_37 : ∀ Cn T N, vwCl[8]? = some (Cn, T, N) → Cond.fieldLink "VeilSearchModel" 37 (T 9).1 (T 9).2.1 (T 9).2.2.1 ∈ gT := fun Cn T N h => by cases h; exact w_678
theorem fl_M_40 : vs_F "VeilSearchModel" 40 8 10 (.array .int) true := ⟨RM, TM, 40, tyM, rfl, inM, tyM_ok, nmM, by decide, rfl, rfl, rfl, Or.inl w_679⟩
theorem fp_M_40 : ∀ Cn T N, vwCl[8]? = some (Cn, T, N) → Cond.fieldLink "VeilSearchModel" 40 (T 10).1 (T 10).2.1 (T 10).2.2.1 ∈ gT := fun Cn T N h => by cases h; exact w_679
theorem fl_M_43 : vs_F "VeilSearchModel" 43 8 11 (.array .int) true := ⟨RM, TM, 40, tyM, rfl, inM, tyM_ok, nmM, by decide, rfl, rfl, rfl, Or.inl w_680⟩
theorem fp_M_43 : ∀ Cn T N, vwCl[8]? = some (Cn, T, N) → Cond.fieldLink "VeilSearchModel" 43 (T 11).1 (T 11).2.1 (T 11).2.2.1 ∈ gT := fun Cn T N h => by cases h; exact w_680
theorem fl_M_46 : vs_F "VeilSearchModel" 46 8 12 (.array .int) true := ⟨RM, TM, 40, tyM, rfl, inM, tyM_ok, nmM, by decide, rfl, rfl, rfl, Or.inl w_681⟩
theorem fp_M_46 : ∀ Cn T N, vwCl[8]? = some (Cn, T, N) → Cond.fieldLink "VeilSearchModel" 46 (T 12).1 (T 12).2.1 (T 12).2.2.1 ∈ gT := fun Cn T N h => by cases h; exact w_681
theorem fl_M_49 : vs_F "VeilSearchModel" 49 8 13 (.array .boolean) true := ⟨RM, TM, 40, tyM, rfl, inM, tyM_ok, nmM, by decide, rfl, rfl, rfl, Or.inl w_682⟩
theorem fp_M_49 : ∀ Cn T N, vwCl[8]? = some (Cn, T, N) → Cond.fieldLink "VeilSearchModel" 49 (T 13).1 (T 13).2.1 (T 13).2.2.1 ∈ gT := fun Cn T N h => by cases h; exact w_682
theorem fl_M_53 : vs_F "VeilSearchModel" 53 8 14 (.array .boolean) true := ⟨RM, TM, 40, tyM, rfl, inM, tyM_ok, nmM, by decide, rfl, rfl, rfl, Or.inl w_683⟩
theorem fp_M_53 : ∀ Cn T N, vwCl[8]? = some (Cn, T, N) → Cond.fieldLink "VeilSearchModel" 53 (T 14).1 (T 14).2.1 (T 14).2.2.1 ∈ gT := fun Cn T N h => by cases h; exact w_683
theorem fl_M_56 : vs_F "VeilSearchModel" 56 8 15 (.array .int) true := ⟨RM, TM, 40, tyM, rfl, inM, tyM_ok, nmM, by decide, rfl, rfl, rfl, Or.inl w_684⟩
theorem fp_M_56 : ∀ Cn T N, vwCl[8]? = some (Cn, T, N) → Cond.fieldLink "VeilSearchModel" 56 (T 15).1 (T 15).2.1 (T 15).2.2.1 ∈ gT := fun Cn T N h => by cases h; exact w_684
theorem fl_M_59 : vs_F "VeilSearchModel" 59 8 16 (.array .int) true := ⟨RM, TM, 40, tyM, rfl, inM, tyM_ok, nmM, by decide, rfl, rfl, rfl, Or.inl w_685⟩
theorem fp_M_59 : ∀ Cn T N, vwCl[8]? = some (Cn, T, N) → Cond.fieldLink "VeilSearchModel" 59 (T 16).1 (T 16).2.1 (T 16).2.2.1 ∈ gT := fun Cn T N h => by cases h; exact w_685
theorem fl_M_62 : vs_F "VeilSearchModel" 62 8 17 (.array .int) true := ⟨RM, TM, 40, tyM, rfl, inM, tyM_ok, nmM, by decide, rfl, rfl, rfl, Or.inl w_686⟩
theorem fp_M_62 : ∀ Cn T N, vwCl[8]? = some (Cn, T, N) → Cond.fieldLink "VeilSearchModel" 62 (T 17).1 (T 17).2.1 (T 17).2.2.1 ∈ gT := fun Cn T N h => by cases h; exact w_686
theorem fl_M_65 : vs_F "VeilSearchModel" 65 8 18 (.array .int) true := ⟨RM, TM, 40, tyM, rfl, inM, tyM_ok, nmM, by decide, rfl, rfl, rfl, Or.inl w_687⟩
theorem fp_M_65 : ∀ Cn T N, vwCl[8]? = some (Cn, T, N) → Cond.fieldLink "VeilSearchModel" 65 (T 18).1 (T 18).2.1 (T 18).2.2.1 ∈ gT := fun Cn T N h => by cases h; exact w_687
theorem fl_M_68 : vs_F "VeilSearchModel" 68 8 19 (.array .int) true := ⟨RM, TM, 40, tyM, rfl, inM, tyM_ok, nmM, by decide, rfl, rfl, rfl, Or.inl w_688⟩
theorem fp_M_68 : ∀ Cn T N, vwCl[8]? = some (Cn, T, N) → Cond.fieldLink "VeilSearchModel" 68 (T 19).1 (T 19).2.1 (T 19).2.2.1 ∈ gT := fun Cn T N h => by cases h; exact w_688
theorem fl_M_71 : vs_F "VeilSearchModel" 71 8 20 (.array .int) true := ⟨RM, TM, 40, tyM, rfl, inM, tyM_ok, nmM, by decide, rfl, rfl, rfl, Or.inl w_689⟩
theorem fp_M_71 : ∀ Cn T N, vwCl[8]? = some (Cn, T, N) → Cond.fieldLink "VeilSearchModel" 71 (T 20).1 (T 20).2.1 (T 20).2.2.1 ∈ gT := fun Cn T N h => by cases h; exact w_689
theorem fl_M_74 : vs_F "VeilSearchModel" 74 8 21 (.array .int) true := ⟨RM, TM, 40, tyM, rfl, inM, tyM_ok, nmM, by decide, rfl, rfl, rfl, Or.inl w_690⟩
theorem fp_M_74 : ∀ Cn T N, vwCl[8]? = some (Cn, T, N) → Cond.fieldLink "VeilSearchModel" 74 (T 21).1 (T 21).2.1 (T 21).2.2.1 ∈ gT := fun Cn T N h => by cases h; exact w_690
theorem fl_M_77 : vs_F "VeilSearchModel" 77 8 22 (.array .double) true := ⟨RM, TM, 40, tyM, rfl, inM, tyM_ok, nmM, by decide, rfl, rfl, rfl, Or.inl w_691⟩
theorem fp_M_77 : ∀ Cn T N, vwCl[8]? = some (Cn, T, N) → Cond.fieldLink "VeilSearchModel" 77 (T 22).1 (T 22).2.1 (T 22).2.2.1 ∈ gT := fun Cn T N h => by cases h; exact w_691
theorem fl_M_81 : vs_F "VeilSearchModel" 81 8 23 (.array .float) true := ⟨RM, TM, 40, tyM, rfl, inM, tyM_ok, nmM, by decide, rfl, rfl, rfl, Or.inl w_692⟩
theorem fp_M_81 : ∀ Cn T N, vwCl[8]? = some (Cn, T, N) → Cond.fieldLink "VeilSearchModel" 81 (T 23).1 (T 23).2.1 (T 23).2.2.1 ∈ gT := fun Cn T N h => by cases h; exact w_692
theorem fl_M_85 : vs_F "VeilSearchModel" 85 8 24 (.array .int) true := ⟨RM, TM, 40, tyM, rfl, inM, tyM_ok, nmM, by decide, rfl, rfl, rfl, Or.inl w_693⟩
theorem fp_M_85 : ∀ Cn T N, vwCl[8]? = some (Cn, T, N) → Cond.fieldLink "VeilSearchModel" 85 (T 24).1 (T 24).2.1 (T 24).2.2.1 ∈ gT := fun Cn T N h => by cases h; exact w_693
theorem fl_M_88 : vs_F "VeilSearchModel" 88 8 25 (.array .int) true := ⟨RM, TM, 40, tyM, rfl, inM, tyM_ok, nmM, by decide, rfl, rfl, rfl, Or.inl w_694⟩
theorem fp_M_88 : ∀ Cn T N, vwCl[8]? = some (Cn, T, N) → Cond.fieldLink "VeilSearchModel" 88 (T 25).1 (T 25).2.1 (T 25).2.2.1 ∈ gT := fun Cn T N h => by cases h; exact w_694
theorem fl_M_91 : vs_F "VeilSearchModel" 91 8 26 (.array .int) true := ⟨RM, TM, 40, tyM, rfl, inM, tyM_ok, nmM, by decide, rfl, rfl, rfl, Or.inl w_695⟩
theorem fp_M_91 : ∀ Cn T N, vwCl[8]? = some (Cn, T, N) → Cond.fieldLink "VeilSearchModel" 91 (T 26).1 (T 26).2.1 (T 26).2.2.1 ∈ gT := fun Cn T N h => by cases h; exact w_695
theorem fl_M_116 : vs_F "VeilSearchModel" 116 8 27 (.int) false := ⟨RM, TM, 40, tyM, rfl, inM, tyM_ok, nmM, by decide, rfl, rfl, rfl, Or.inl w_696⟩
theorem fl_M_119 : vs_F "VeilSearchModel" 119 8 28 (.int) false := ⟨RM, TM, 40, tyM, rfl, inM, tyM_ok, nmM, by decide, rfl, rfl, rfl, Or.inl w_697⟩
theorem fl_M_128 : vs_F "VeilSearchModel" 128 8 29 (.int) false := ⟨RM, TM, 40, tyM, rfl, inM, tyM_ok, nmM, by decide, rfl, rfl, rfl, Or.inl w_698⟩
theorem fl_M_125 : vs_F "VeilSearchModel" 125 8 30 (.int) false := ⟨RM, TM, 40, tyM, rfl, inM, tyM_ok, nmM, by decide, rfl, rfl, rfl, Or.inl w_699⟩
theorem fl_M_146 : vs_F "VeilSearchModel" 146 8 31 (.int) false := ⟨RM, TM, 40, tyM, rfl, inM, tyM_ok, nmM, by decide, rfl, rfl, rfl, Or.inl w_700⟩
theorem fl_M_157 : vs_F "VeilSearchModel" 157 8 32 (.int) false := ⟨RM, TM, 40, tyM, rfl, inM, tyM_ok, nmM, by decide, rfl, rfl, rfl, Or.inl w_701⟩
theorem fl_M_169 : vs_F "VeilSearchModel" 169 8 33 (.int) false := ⟨RM, TM, 40, tyM, rfl, inM, tyM_ok, nmM, by decide, rfl, rfl, rfl, Or.inl w_702⟩
theorem fl_M_178 : vs_F "VeilSearchModel" 178 8 34 (.int) false := ⟨RM, TM, 40, tyM, rfl, inM, tyM_ok, nmM, by decide, rfl, rfl, rfl, Or.inl w_703⟩
theorem fl_M_131 : vs_F "VeilSearchModel" 131 8 35 (.int) false := ⟨RM, TM, 40, tyM, rfl, inM, tyM_ok, nmM, by decide, rfl, rfl, rfl, Or.inl w_704⟩
theorem fl_M_166 : vs_F "VeilSearchModel" 166 8 36 (.int) false := ⟨RM, TM, 40, tyM, rfl, inM, tyM_ok, nmM, by decide, rfl, rfl, rfl, Or.inl w_705⟩
theorem fl_M_163 : vs_F "VeilSearchModel" 163 8 37 (.int) false := ⟨RM, TM, 40, tyM, rfl, inM, tyM_ok, nmM, by decide, rfl, rfl, rfl, Or.inl w_706⟩
theorem fl_M_160 : vs_F "VeilSearchModel" 160 8 38 (.int) false := ⟨RM, TM, 40, tyM, rfl, inM, tyM_ok, nmM, by decide, rfl, rfl, rfl, Or.inl w_707⟩
theorem fl_M_94 : vs_F "VeilSearchModel" 94 8 39 (.int) false := ⟨RM, TM, 40, tyM, rfl, inM, tyM_ok, nmM, by decide, rfl, rfl, rfl, Or.inl w_708⟩
theorem ml_L_81 : vs_L "VeilSearchLaw" 81 y_M_thrown := Or.inl w_791
theorem ml_L_80 : vs_L "VeilSearchLaw" 80 y_M_member := Or.inl w_795
theorem ml_M_98 : vs_L "VeilSearchModel" 98 y_M_in := Or.inl w_799
theorem ml_L_87 : vs_L "VeilSearchLaw" 87 y_M_level := Or.inl w_802
theorem ml_M_102 : vs_L "VeilSearchModel" 102 y_M_fail := Or.inl w_806
theorem ml_L_93 : vs_L "VeilSearchLaw" 93 y_M_weigh := Or.inl w_810
theorem ml_M_110 : vs_L "VeilSearchModel" 110 y_M_isWeight := Or.inl w_814
theorem ml_L_97 : vs_L "VeilSearchLaw" 97 y_M_put := Or.inl w_821
theorem ml_L_101 : vs_L "VeilSearchLaw" 101 y_M_rule := Or.inl w_825
theorem ml_L_105 : vs_L "VeilSearchLaw" 105 y_M_add := Or.inl w_829
theorem ml_L_109 : vs_L "VeilSearchLaw" 109 y_M_remove := Or.inl w_833
theorem ml_L_113 : vs_L "VeilSearchLaw" 113 y_M_flush := Or.inl w_837
theorem ml_M_122 : vs_L "VeilSearchModel" 122 y_M_sizeOf := Or.inl w_841
theorem ml_L_117 : vs_L "VeilSearchLaw" 117 y_M_merge := Or.inl w_845
theorem ml_L_121 : vs_L "VeilSearchLaw" 121 y_M_refresh := Or.inl w_849
theorem ml_M_134 : vs_L "VeilSearchModel" 134 y_M_isOther := Or.inl w_853
theorem ml_M_138 : vs_L "VeilSearchModel" 138 y_M_isShown := Or.inl w_857
theorem ml_M_142 : vs_L "VeilSearchModel" 142 y_M_drop := Or.inl w_861
theorem ml_L_125 : vs_L "VeilSearchLaw" 125 y_M_clause := Or.inl w_865
theorem ml_L_129 : vs_L "VeilSearchLaw" 129 y_M_clear := Or.inl w_869
theorem ml_L_132 : vs_L "VeilSearchLaw" 132 y_M_search := Or.inl w_873
theorem ml_M_189 : vs_L "VeilSearchModel" 189 y_M_arrange := Or.inl w_877
theorem ml_M_192 : vs_L "VeilSearchModel" 192 y_M_useFilter := Or.inl w_881
theorem ml_M_196 : vs_L "VeilSearchModel" 196 y_M_isLeft := Or.inl w_885
theorem ml_M_199 : vs_L "VeilSearchModel" 199 y_M_behindBlock := Or.inl w_889
theorem ml_M_181 : vs_L "VeilSearchModel" 181 y_M_scoreOf := Or.inl w_893
theorem ml_M_153 : vs_L "VeilSearchModel" 153 y_M_isOpen := Or.inl w_897
theorem ml_M_203 : vs_L "VeilSearchModel" 203 y_M_lookAt := Or.inl w_901
theorem ml_M_172 : vs_L "VeilSearchModel" 172 y_M_isFound := Or.inl w_905
theorem ml_M_175 : vs_L "VeilSearchModel" 175 y_M_mayRead := Or.inl w_909
theorem ml_M_149 : vs_L "VeilSearchModel" 149 y_M_tokens := Or.inl w_913
theorem ml_M_185 : vs_L "VeilSearchModel" 185 y_M_enter := Or.inl w_917
theorem ml_L_135 : vs_L "VeilSearchLaw" 135 y_M_hit := Or.inl w_921
theorem ml_L_139 : vs_L "VeilSearchLaw" 139 y_M_score := Or.inl w_925
theorem ml_L_142 : vs_L "VeilSearchLaw" 142 y_M_value := Or.inl w_929
theorem ml_L_145 : vs_L "VeilSearchLaw" 145 y_M_count := Or.inl w_933
theorem yk_X_init : vs_Y y_X_init c_X_init 1 (Option.none : Option Jvm.ClassFile.FieldType) 0 := ⟨w_25, w_1, by decide, by decide, by decide +kernel⟩
theorem im_X_init : Cond.instanceMethod y_X_init ∈ gT := w_24
theorem yk_D_init : vs_Y y_D_init c_D_init 1 (Option.none : Option Jvm.ClassFile.FieldType) 0 := ⟨w_33, w_2, by decide, by decide, by decide +kernel⟩
theorem im_D_init : Cond.instanceMethod y_D_init ∈ gT := w_32
theorem yk_F_init : vs_Y y_F_init c_F_init 1 (Option.none : Option Jvm.ClassFile.FieldType) 0 := ⟨w_62, w_3, by decide, by decide, by decide +kernel⟩
theorem im_F_init : Cond.instanceMethod y_F_init ∈ gT := w_61
theorem yk_Q_init : vs_Y y_Q_init c_Q_init 1 (Option.none : Option Jvm.ClassFile.FieldType) 0 := ⟨w_91, w_4, by decide, by decide, by decide +kernel⟩
theorem im_Q_init : Cond.instanceMethod y_Q_init ∈ gT := w_90
theorem yk_H_init : vs_Y y_H_init c_H_init 1 (Option.none : Option Jvm.ClassFile.FieldType) 0 := ⟨w_122, w_5, by decide, by decide, by decide +kernel⟩
theorem im_H_init : Cond.instanceMethod y_H_init ∈ gT := w_121
theorem yk_V_init : vs_Y y_V_init c_V_init 1 (Option.none : Option Jvm.ClassFile.FieldType) 0 := ⟨w_145, w_6, by decide, by decide, by decide +kernel⟩
theorem im_V_init : Cond.instanceMethod y_V_init ∈ gT := w_144
theorem yk_R_init : vs_Y y_R_init c_R_init 1 (Option.none : Option Jvm.ClassFile.FieldType) 0 := ⟨w_151, w_7, by decide, by decide, by decide +kernel⟩
theorem im_R_init : Cond.instanceMethod y_R_init ∈ gT := w_150
theorem yk_S_init : vs_Y y_S_init c_S_init 1 (Option.none : Option Jvm.ClassFile.FieldType) 0 := ⟨w_169, w_8, by decide, by decide, by decide +kernel⟩
theorem im_S_init : Cond.instanceMethod y_S_init ∈ gT := w_168
theorem yk_X_merge : vs_Y y_X_merge c_X_merge 5 (Option.some Jvm.ClassFile.FieldType.int) 0 := ⟨w_231, w_1, by decide, by decide, by decide +kernel⟩
theorem im_X_merge : Cond.instanceMethod y_X_merge ∈ gT := w_229
theorem se_X_merge : Cond.selects y_X_merge.cls y_X_merge y_X_merge ∈ gT := w_230
theorem yk_S_allIds : vs_Y y_S_allIds c_S_allIds 4 (Option.some Jvm.ClassFile.FieldType.long) 0 := ⟨w_235, w_8, by decide, by decide, by decide +kernel⟩
theorem im_S_allIds : Cond.instanceMethod y_S_allIds ∈ gT := w_233
theorem se_S_allIds : Cond.selects y_S_allIds.cls y_S_allIds y_S_allIds ∈ gT := w_234
theorem yk_X_appendSegment : vs_Y y_X_appendSegment c_X_appendSegment 3 (Option.none : Option Jvm.ClassFile.FieldType) 1 := ⟨w_240, w_1, by decide, by decide, by decide +kernel⟩
theorem im_X_appendSegment : Cond.instanceMethod y_X_appendSegment ∈ gT := w_239
theorem se_X_appendSegment : Cond.selects y_X_appendSegment.cls y_X_appendSegment y_X_appendSegment ∈ gT := ws_0
theorem yk_S_append : vs_Y y_S_append c_S_append 4 (Option.none : Option Jvm.ClassFile.FieldType) 2 := ⟨w_244, w_8, by decide, by decide, by decide +kernel⟩
theorem im_S_append : Cond.instanceMethod y_S_append ∈ gT := w_242
theorem se_S_append : Cond.selects y_S_append.cls y_S_append y_S_append ∈ gT := w_243
theorem yk_J_bitCount : vs_Y y_J_bitCount c_J_bitCount 2 (Option.some Jvm.ClassFile.FieldType.int) 1 := ⟨w_247, w_16, by decide, by decide, by decide +kernel⟩
theorem st_J_bitCount : Cond.static y_J_bitCount ∈ gT := w_246
theorem yk_X_refresh : vs_Y y_X_refresh c_X_refresh 2 (Option.some Jvm.ClassFile.FieldType.int) 0 := ⟨w_254, w_1, by decide, by decide, by decide +kernel⟩
theorem im_X_refresh : Cond.instanceMethod y_X_refresh ∈ gT := w_252
theorem se_X_refresh : Cond.selects y_X_refresh.cls y_X_refresh y_X_refresh ∈ gT := w_253
theorem yk_R_sameAs : vs_Y y_R_sameAs c_R_sameAs 2 (Option.some Jvm.ClassFile.FieldType.boolean) 1 := ⟨w_258, w_7, by decide, by decide, by decide +kernel⟩
theorem im_R_sameAs : Cond.instanceMethod y_R_sameAs ∈ gT := w_256
theorem se_R_sameAs : Cond.selects y_R_sameAs.cls y_R_sameAs y_R_sameAs ∈ gT := w_257
theorem yk_R_sameRow : vs_Y y_R_sameRow c_R_sameRow 3 (Option.some Jvm.ClassFile.FieldType.boolean) 2 := ⟨w_261, w_7, by decide, by decide, by decide +kernel⟩
theorem st_R_sameRow : Cond.static y_R_sameRow ∈ gT := w_260
theorem yk_V_takeOver : vs_Y y_V_takeOver c_V_takeOver 2 (Option.none : Option Jvm.ClassFile.FieldType) 1 := ⟨w_265, w_6, by decide, by decide, by decide +kernel⟩
theorem im_V_takeOver : Cond.instanceMethod y_V_takeOver ∈ gT := w_263
theorem se_V_takeOver : Cond.selects y_V_takeOver.cls y_V_takeOver y_V_takeOver ∈ gT := w_264
theorem yk_R_takeOver : vs_Y y_R_takeOver c_R_takeOver 2 (Option.none : Option Jvm.ClassFile.FieldType) 1 := ⟨w_269, w_7, by decide, by decide, by decide +kernel⟩
theorem im_R_takeOver : Cond.instanceMethod y_R_takeOver ∈ gT := w_267
theorem se_R_takeOver : Cond.selects y_R_takeOver.cls y_R_takeOver y_R_takeOver ∈ gT := w_268
theorem yk_S_takeOver : vs_Y y_S_takeOver c_S_takeOver 2 (Option.none : Option Jvm.ClassFile.FieldType) 1 := ⟨w_276, w_8, by decide, by decide, by decide +kernel⟩
theorem im_S_takeOver : Cond.instanceMethod y_S_takeOver ∈ gT := w_274
theorem se_S_takeOver : Cond.selects y_S_takeOver.cls y_S_takeOver y_S_takeOver ∈ gT := w_275
theorem yk_F_dropAllBut : vs_Y y_F_dropAllBut c_F_dropAllBut 3 (Option.none : Option Jvm.ClassFile.FieldType) 1 := ⟨w_281, w_3, by decide, by decide, by decide +kernel⟩
theorem im_F_dropAllBut : Cond.instanceMethod y_F_dropAllBut ∈ gT := w_279
theorem se_F_dropAllBut : Cond.selects y_F_dropAllBut.cls y_F_dropAllBut y_F_dropAllBut ∈ gT := w_280
theorem yk_S_hasNumber : vs_Y y_S_hasNumber c_S_hasNumber 3 (Option.some Jvm.ClassFile.FieldType.boolean) 1 := ⟨w_285, w_8, by decide, by decide, by decide +kernel⟩
theorem im_S_hasNumber : Cond.instanceMethod y_S_hasNumber ∈ gT := w_283
theorem se_S_hasNumber : Cond.selects y_S_hasNumber.cls y_S_hasNumber y_S_hasNumber ∈ gT := w_284
theorem yk_F_drop : vs_Y y_F_drop c_F_drop 3 (Option.none : Option Jvm.ClassFile.FieldType) 1 := ⟨w_289, w_3, by decide, by decide, by decide +kernel⟩
theorem im_F_drop : Cond.instanceMethod y_F_drop ∈ gT := w_288
theorem se_F_drop : Cond.selects y_F_drop.cls y_F_drop y_F_drop ∈ gT := ws_1
theorem yk_V_livingIds : vs_Y y_V_livingIds c_V_livingIds 1 (Option.some Jvm.ClassFile.FieldType.long) 0 := ⟨w_293, w_6, by decide, by decide, by decide +kernel⟩
theorem im_V_livingIds : Cond.instanceMethod y_V_livingIds ∈ gT := w_291
theorem se_V_livingIds : Cond.selects y_V_livingIds.cls y_V_livingIds y_V_livingIds ∈ gT := w_292
theorem yk_X_clear : vs_Y y_X_clear c_X_clear 2 (Option.some Jvm.ClassFile.FieldType.int) 0 := ⟨w_299, w_1, by decide, by decide, by decide +kernel⟩
theorem im_X_clear : Cond.instanceMethod y_X_clear ∈ gT := w_297
theorem se_X_clear : Cond.selects y_X_clear.cls y_X_clear y_X_clear ∈ gT := w_298
theorem st_L_member : Cond.static y_L_member ∈ gT := w_301
theorem yk_X_member : vs_Y y_X_member c_X_member 4 (Option.some Jvm.ClassFile.FieldType.boolean) 3 := ⟨w_307, w_1, by decide, by decide, by decide +kernel⟩
theorem im_X_member : Cond.instanceMethod y_X_member ∈ gT := w_305
theorem se_X_member : Cond.selects y_X_member.cls y_X_member y_X_member ∈ gT := w_306
theorem yk_X_isBelow : vs_Y y_X_isBelow c_X_isBelow 2 (Option.some Jvm.ClassFile.FieldType.boolean) 2 := ⟨w_310, w_1, by decide, by decide, by decide +kernel⟩
theorem st_X_isBelow : Cond.static y_X_isBelow ∈ gT := w_309
theorem yk_R_join : vs_Y y_R_join c_R_join 5 (Option.some Jvm.ClassFile.FieldType.boolean) 3 := ⟨w_379, w_7, by decide, by decide, by decide +kernel⟩
theorem im_R_join : Cond.instanceMethod y_R_join ∈ gT := w_377
theorem se_R_join : Cond.selects y_R_join.cls y_R_join y_R_join ∈ gT := w_378
theorem st_L_level : Cond.static y_L_level ∈ gT := w_381
theorem yk_X_level : vs_Y y_X_level c_X_level 6 (Option.some Jvm.ClassFile.FieldType.int) 3 := ⟨w_386, w_1, by decide, by decide, by decide +kernel⟩
theorem im_X_level : Cond.instanceMethod y_X_level ∈ gT := w_384
theorem se_X_level : Cond.selects y_X_level.cls y_X_level y_X_level ∈ gT := w_385
theorem st_L_weigh : Cond.static y_L_weigh ∈ gT := w_388
theorem yk_X_weigh : vs_Y y_X_weigh c_X_weigh 6 (Option.some Jvm.ClassFile.FieldType.int) 3 := ⟨w_393, w_1, by decide, by decide, by decide +kernel⟩
theorem im_X_weigh : Cond.instanceMethod y_X_weigh ∈ gT := w_391
theorem se_X_weigh : Cond.selects y_X_weigh.cls y_X_weigh y_X_weigh ∈ gT := w_392
theorem yk_X_isWeight : vs_Y y_X_isWeight c_X_isWeight 2 (Option.some Jvm.ClassFile.FieldType.boolean) 1 := ⟨w_396, w_1, by decide, by decide, by decide +kernel⟩
theorem st_X_isWeight : Cond.static y_X_isWeight ∈ gT := w_395
theorem yk_X_codeOf : vs_Y y_X_codeOf c_X_codeOf 3 (Option.some Jvm.ClassFile.FieldType.int) 1 := ⟨w_401, w_1, by decide, by decide, by decide +kernel⟩
theorem st_X_codeOf : Cond.static y_X_codeOf ∈ gT := w_400
theorem yk_D_codePlace : vs_Y y_D_codePlace c_D_codePlace 3 (Option.some Jvm.ClassFile.FieldType.int) 3 := ⟨w_406, w_2, by decide, by decide, by decide +kernel⟩
theorem st_D_codePlace : Cond.static y_D_codePlace ∈ gT := w_405
theorem yk_D_valuePlace : vs_Y y_D_valuePlace c_D_valuePlace 2 (Option.some Jvm.ClassFile.FieldType.int) 2 := ⟨w_409, w_2, by decide, by decide, by decide +kernel⟩
theorem st_D_valuePlace : Cond.static y_D_valuePlace ∈ gT := w_408
theorem st_L_put : Cond.static y_L_put ∈ gT := w_411
theorem yk_X_put : vs_Y y_X_put c_X_put 5 (Option.some Jvm.ClassFile.FieldType.int) 2 := ⟨w_416, w_1, by decide, by decide, by decide +kernel⟩
theorem im_X_put : Cond.instanceMethod y_X_put ∈ gT := w_414
theorem se_X_put : Cond.selects y_X_put.cls y_X_put y_X_put ∈ gT := w_415
theorem st_L_rule : Cond.static y_L_rule ∈ gT := w_419
theorem yk_X_rule : vs_Y y_X_rule c_X_rule 5 (Option.some Jvm.ClassFile.FieldType.boolean) 2 := ⟨w_424, w_1, by decide, by decide, by decide +kernel⟩
theorem im_X_rule : Cond.instanceMethod y_X_rule ∈ gT := w_422
theorem se_X_rule : Cond.selects y_X_rule.cls y_X_rule y_X_rule ∈ gT := w_423
theorem st_L_add : Cond.static y_L_add ∈ gT := w_426
theorem yk_X_add : vs_Y y_X_add c_X_add 3 (Option.some Jvm.ClassFile.FieldType.int) 1 := ⟨w_432, w_1, by decide, by decide, by decide +kernel⟩
theorem im_X_add : Cond.instanceMethod y_X_add ∈ gT := w_430
theorem se_X_add : Cond.selects y_X_add.cls y_X_add y_X_add ∈ gT := w_431
theorem yk_D_finishDraft : vs_Y y_D_finishDraft c_D_finishDraft 3 (Option.some Jvm.ClassFile.FieldType.int) 1 := ⟨w_451, w_2, by decide, by decide, by decide +kernel⟩
theorem im_D_finishDraft : Cond.instanceMethod y_D_finishDraft ∈ gT := w_449
theorem se_D_finishDraft : Cond.selects y_D_finishDraft.cls y_D_finishDraft y_D_finishDraft ∈ gT := w_450
theorem st_L_remove : Cond.static y_L_remove ∈ gT := w_453
theorem yk_X_remove : vs_Y y_X_remove c_X_remove 2 (Option.none : Option Jvm.ClassFile.FieldType) 1 := ⟨w_459, w_1, by decide, by decide, by decide +kernel⟩
theorem im_X_remove : Cond.instanceMethod y_X_remove ∈ gT := w_457
theorem se_X_remove : Cond.selects y_X_remove.cls y_X_remove y_X_remove ∈ gT := w_458
theorem yk_X_holds : vs_Y y_X_holds c_X_holds 3 (Option.some Jvm.ClassFile.FieldType.boolean) 2 := ⟨w_462, w_1, by decide, by decide, by decide +kernel⟩
theorem st_X_holds : Cond.static y_X_holds ∈ gT := w_461
theorem st_L_flush : Cond.static y_L_flush ∈ gT := w_479
theorem yk_X_flush : vs_Y y_X_flush c_X_flush 2 (Option.some Jvm.ClassFile.FieldType.int) 0 := ⟨w_484, w_1, by decide, by decide, by decide +kernel⟩
theorem im_X_flush : Cond.instanceMethod y_X_flush ∈ gT := w_482
theorem se_X_flush : Cond.selects y_X_flush.cls y_X_flush y_X_flush ∈ gT := w_483
theorem st_L_clause : Cond.static y_L_clause ∈ gT := w_486
theorem yk_X_clause : vs_Y y_X_clause c_X_clause 6 (Option.some Jvm.ClassFile.FieldType.int) 4 := ⟨w_491, w_1, by decide, by decide, by decide +kernel⟩
theorem im_X_clause : Cond.instanceMethod y_X_clause ∈ gT := w_489
theorem se_X_clause : Cond.selects y_X_clause.cls y_X_clause y_X_clause ∈ gT := w_490
theorem yk_Q_insert : vs_Y y_Q_insert c_Q_insert 6 (Option.none : Option Jvm.ClassFile.FieldType) 4 := ⟨w_495, w_4, by decide, by decide, by decide +kernel⟩
theorem im_Q_insert : Cond.instanceMethod y_Q_insert ∈ gT := w_493
theorem se_Q_insert : Cond.selects y_Q_insert.cls y_Q_insert y_Q_insert ∈ gT := w_494
theorem yk_Q_comesLater : vs_Y y_Q_comesLater c_Q_comesLater 4 (Option.some Jvm.ClassFile.FieldType.boolean) 3 := ⟨w_499, w_4, by decide, by decide, by decide +kernel⟩
theorem im_Q_comesLater : Cond.instanceMethod y_Q_comesLater ∈ gT := w_498
theorem se_Q_comesLater : Cond.selects y_Q_comesLater.cls y_Q_comesLater y_Q_comesLater ∈ gT := ws_3
theorem yk_Q_move : vs_Y y_Q_move c_Q_move 3 (Option.none : Option Jvm.ClassFile.FieldType) 2 := ⟨w_503, w_4, by decide, by decide, by decide +kernel⟩
theorem im_Q_move : Cond.instanceMethod y_Q_move ∈ gT := w_502
theorem se_Q_move : Cond.selects y_Q_move.cls y_Q_move y_Q_move ∈ gT := ws_4
theorem st_L_search : Cond.static y_L_search ∈ gT := w_505
theorem yk_X_search : vs_Y y_X_search c_X_search 8 (Option.some Jvm.ClassFile.FieldType.int) 2 := ⟨w_510, w_1, by decide, by decide, by decide +kernel⟩
theorem im_X_search : Cond.instanceMethod y_X_search ∈ gT := w_508
theorem se_X_search : Cond.selects y_X_search.cls y_X_search y_X_search ∈ gT := w_509
theorem yk_H_restart : vs_Y y_H_restart c_H_restart 2 (Option.none : Option Jvm.ClassFile.FieldType) 1 := ⟨w_514, w_5, by decide, by decide, by decide +kernel⟩
theorem im_H_restart : Cond.instanceMethod y_H_restart ∈ gT := w_512
theorem se_H_restart : Cond.selects y_H_restart.cls y_H_restart y_H_restart ∈ gT := w_513
theorem yk_Q_openFor : vs_Y y_Q_openFor c_Q_openFor 4 (Option.none : Option Jvm.ClassFile.FieldType) 2 := ⟨w_518, w_4, by decide, by decide, by decide +kernel⟩
theorem im_Q_openFor : Cond.instanceMethod y_Q_openFor ∈ gT := w_516
theorem se_Q_openFor : Cond.selects y_Q_openFor.cls y_Q_openFor y_Q_openFor ∈ gT := w_517
theorem yk_R_isOpen : vs_Y y_R_isOpen c_R_isOpen 3 (Option.some Jvm.ClassFile.FieldType.boolean) 2 := ⟨w_522, w_7, by decide, by decide, by decide +kernel⟩
theorem im_R_isOpen : Cond.instanceMethod y_R_isOpen ∈ gT := w_520
theorem se_R_isOpen : Cond.selects y_R_isOpen.cls y_R_isOpen y_R_isOpen ∈ gT := w_521
theorem yk_X_filterOf : vs_Y y_X_filterOf c_X_filterOf 8 (Option.some Jvm.ClassFile.FieldType.long) 3 := ⟨w_526, w_1, by decide, by decide, by decide +kernel⟩
theorem im_X_filterOf : Cond.instanceMethod y_X_filterOf ∈ gT := w_525
theorem se_X_filterOf : Cond.selects y_X_filterOf.cls y_X_filterOf y_X_filterOf ∈ gT := ws_5
theorem yk_F_placeOf : vs_Y y_F_placeOf c_F_placeOf 4 (Option.some Jvm.ClassFile.FieldType.int) 2 := ⟨w_530, w_3, by decide, by decide, by decide +kernel⟩
theorem im_F_placeOf : Cond.instanceMethod y_F_placeOf ∈ gT := w_528
theorem se_F_placeOf : Cond.selects y_F_placeOf.cls y_F_placeOf y_F_placeOf ∈ gT := w_529
theorem yk_F_reuse : vs_Y y_F_reuse c_F_reuse 6 (Option.some Jvm.ClassFile.FieldType.long) 1 := ⟨w_534, w_3, by decide, by decide, by decide +kernel⟩
theorem im_F_reuse : Cond.instanceMethod y_F_reuse ∈ gT := w_532
theorem se_F_reuse : Cond.selects y_F_reuse.cls y_F_reuse y_F_reuse ∈ gT := w_533
theorem yk_F_append : vs_Y y_F_append c_F_append 5 (Option.none : Option Jvm.ClassFile.FieldType) 3 := ⟨w_538, w_3, by decide, by decide, by decide +kernel⟩
theorem im_F_append : Cond.instanceMethod y_F_append ∈ gT := w_537
theorem se_F_append : Cond.selects y_F_append.cls y_F_append y_F_append ∈ gT := ws_6
theorem yk_R_tokensOf : vs_Y y_R_tokensOf c_R_tokensOf 5 (Option.some Jvm.ClassFile.FieldType.int) 1 := ⟨w_542, w_7, by decide, by decide, by decide +kernel⟩
theorem im_R_tokensOf : Cond.instanceMethod y_R_tokensOf ∈ gT := w_540
theorem se_R_tokensOf : Cond.selects y_R_tokensOf.cls y_R_tokensOf y_R_tokensOf ∈ gT := w_541
theorem yk_D_readableOf : vs_Y y_D_readableOf c_D_readableOf 7 (Option.some Jvm.ClassFile.FieldType.long) 2 := ⟨w_546, w_2, by decide, by decide, by decide +kernel⟩
theorem im_D_readableOf : Cond.instanceMethod y_D_readableOf ∈ gT := w_544
theorem se_D_readableOf : Cond.selects y_D_readableOf.cls y_D_readableOf y_D_readableOf ∈ gT := w_545
theorem yk_D_mayRead : vs_Y y_D_mayRead c_D_mayRead 3 (Option.some Jvm.ClassFile.FieldType.boolean) 2 := ⟨w_551, w_2, by decide, by decide, by decide +kernel⟩
theorem im_D_mayRead : Cond.instanceMethod y_D_mayRead ∈ gT := w_549
theorem se_D_mayRead : Cond.selects y_D_mayRead.cls y_D_mayRead y_D_mayRead ∈ gT := w_550
theorem yk_F_keepNew : vs_Y y_F_keepNew c_F_keepNew 5 (Option.none : Option Jvm.ClassFile.FieldType) 3 := ⟨w_555, w_3, by decide, by decide, by decide +kernel⟩
theorem im_F_keepNew : Cond.instanceMethod y_F_keepNew ∈ gT := w_553
theorem se_F_keepNew : Cond.selects y_F_keepNew.cls y_F_keepNew y_F_keepNew ∈ gT := w_554
theorem yk_X_passThrough : vs_Y y_X_passThrough c_X_passThrough 10 (Option.none : Option Jvm.ClassFile.FieldType) 2 := ⟨w_559, w_1, by decide, by decide, by decide +kernel⟩
theorem im_X_passThrough : Cond.instanceMethod y_X_passThrough ∈ gT := w_558
theorem se_X_passThrough : Cond.selects y_X_passThrough.cls y_X_passThrough y_X_passThrough ∈ gT := ws_7
theorem yk_X_firstBlock : vs_Y y_X_firstBlock c_X_firstBlock 5 (Option.some Jvm.ClassFile.FieldType.long) 1 := ⟨w_562, w_1, by decide, by decide, by decide +kernel⟩
theorem st_X_firstBlock : Cond.static y_X_firstBlock ∈ gT := w_561
theorem yk_Q_scoreOf : vs_Y y_Q_scoreOf c_Q_scoreOf 7 (Option.some Jvm.ClassFile.FieldType.float) 2 := ⟨w_566, w_4, by decide, by decide, by decide +kernel⟩
theorem im_Q_scoreOf : Cond.instanceMethod y_Q_scoreOf ∈ gT := w_564
theorem se_Q_scoreOf : Cond.selects y_Q_scoreOf.cls y_Q_scoreOf y_Q_scoreOf ∈ gT := w_565
theorem yk_D_greatestCode : vs_Y y_D_greatestCode c_D_greatestCode 9 (Option.some Jvm.ClassFile.FieldType.int) 3 := ⟨w_570, w_2, by decide, by decide, by decide +kernel⟩
theorem im_D_greatestCode : Cond.instanceMethod y_D_greatestCode ∈ gT := w_568
theorem se_D_greatestCode : Cond.selects y_D_greatestCode.cls y_D_greatestCode y_D_greatestCode ∈ gT := w_569
theorem yk_X_lowestId : vs_Y y_X_lowestId c_X_lowestId 2 (Option.some Jvm.ClassFile.FieldType.int) 1 := ⟨w_573, w_1, by decide, by decide, by decide +kernel⟩
theorem st_X_lowestId : Cond.static y_X_lowestId ∈ gT := w_572
theorem yk_H_lastScore : vs_Y y_H_lastScore c_H_lastScore 1 (Option.some Jvm.ClassFile.FieldType.float) 0 := ⟨w_582, w_5, by decide, by decide, by decide +kernel⟩
theorem im_H_lastScore : Cond.instanceMethod y_H_lastScore ∈ gT := w_580
theorem se_H_lastScore : Cond.selects y_H_lastScore.cls y_H_lastScore y_H_lastScore ∈ gT := w_581
theorem yk_X_lookAt : vs_Y y_X_lookAt c_X_lookAt 7 (Option.none : Option Jvm.ClassFile.FieldType) 1 := ⟨w_586, w_1, by decide, by decide, by decide +kernel⟩
theorem im_X_lookAt : Cond.instanceMethod y_X_lookAt ∈ gT := w_585
theorem se_X_lookAt : Cond.selects y_X_lookAt.cls y_X_lookAt y_X_lookAt ∈ gT := ws_8
theorem yk_Q_finds : vs_Y y_Q_finds c_Q_finds 6 (Option.some Jvm.ClassFile.FieldType.boolean) 2 := ⟨w_591, w_4, by decide, by decide, by decide +kernel⟩
theorem im_Q_finds : Cond.instanceMethod y_Q_finds ∈ gT := w_589
theorem se_Q_finds : Cond.selects y_Q_finds.cls y_Q_finds y_Q_finds ∈ gT := w_590
theorem yk_H_take : vs_Y y_H_take c_H_take 4 (Option.none : Option Jvm.ClassFile.FieldType) 2 := ⟨w_596, w_5, by decide, by decide, by decide +kernel⟩
theorem im_H_take : Cond.instanceMethod y_H_take ∈ gT := w_594
theorem se_H_take : Cond.selects y_H_take.cls y_H_take y_H_take ∈ gT := w_595
theorem st_L_hit : Cond.static y_L_hit ∈ gT := w_602
theorem yk_X_hit : vs_Y y_X_hit c_X_hit 2 (Option.some Jvm.ClassFile.FieldType.int) 1 := ⟨w_608, w_1, by decide, by decide, by decide +kernel⟩
theorem im_X_hit : Cond.instanceMethod y_X_hit ∈ gT := w_606
theorem se_X_hit : Cond.selects y_X_hit.cls y_X_hit y_X_hit ∈ gT := w_607
theorem st_L_score : Cond.static y_L_score ∈ gT := w_625
theorem yk_X_score : vs_Y y_X_score c_X_score 2 (Option.some Jvm.ClassFile.FieldType.double) 1 := ⟨w_630, w_1, by decide, by decide, by decide +kernel⟩
theorem im_X_score : Cond.instanceMethod y_X_score ∈ gT := w_628
theorem se_X_score : Cond.selects y_X_score.cls y_X_score y_X_score ∈ gT := w_629
theorem st_L_value : Cond.static y_L_value ∈ gT := w_632
theorem yk_X_value : vs_Y y_X_value c_X_value 4 (Option.some Jvm.ClassFile.FieldType.int) 3 := ⟨w_638, w_1, by decide, by decide, by decide +kernel⟩
theorem im_X_value : Cond.instanceMethod y_X_value ∈ gT := w_636
theorem se_X_value : Cond.selects y_X_value.cls y_X_value y_X_value ∈ gT := w_637
theorem st_L_count : Cond.static y_L_count ∈ gT := w_657
theorem yk_X_count : vs_Y y_X_count c_X_count 2 (Option.some Jvm.ClassFile.FieldType.int) 1 := ⟨w_662, w_1, by decide, by decide, by decide +kernel⟩
theorem im_X_count : Cond.instanceMethod y_X_count ∈ gT := w_660
theorem se_X_count : Cond.selects y_X_count.cls y_X_count y_X_count ∈ gT := w_661
theorem yk_M_init : vs_Y y_M_init c_M_init 1 (Option.none : Option Jvm.ClassFile.FieldType) 0 := ⟨w_667, w_9, by decide, by decide, by decide +kernel⟩
theorem im_M_init : Cond.instanceMethod y_M_init ∈ gT := w_666
theorem yk_M_thrown : vs_Y y_M_thrown c_M_thrown 1 (Option.some Jvm.ClassFile.FieldType.int) 0 := ⟨w_794, w_9, by decide, by decide, by decide +kernel⟩
theorem im_M_thrown : Cond.instanceMethod y_M_thrown ∈ gT := w_792
theorem se_M_thrown : Cond.selects y_M_thrown.cls y_M_thrown y_M_thrown ∈ gT := w_793
theorem yk_M_member : vs_Y y_M_member c_M_member 6 (Option.some Jvm.ClassFile.FieldType.boolean) 3 := ⟨w_798, w_9, by decide, by decide, by decide +kernel⟩
theorem im_M_member : Cond.instanceMethod y_M_member ∈ gT := w_796
theorem se_M_member : Cond.selects y_M_member.cls y_M_member y_M_member ∈ gT := w_797
theorem yk_M_in : vs_Y y_M_in c_M_in 3 (Option.some Jvm.ClassFile.FieldType.boolean) 3 := ⟨w_801, w_9, by decide, by decide, by decide +kernel⟩
theorem st_M_in : Cond.static y_M_in ∈ gT := w_800
theorem yk_M_level : vs_Y y_M_level c_M_level 5 (Option.some Jvm.ClassFile.FieldType.int) 3 := ⟨w_805, w_9, by decide, by decide, by decide +kernel⟩
theorem im_M_level : Cond.instanceMethod y_M_level ∈ gT := w_803
theorem se_M_level : Cond.selects y_M_level.cls y_M_level y_M_level ∈ gT := w_804
theorem yk_M_fail : vs_Y y_M_fail c_M_fail 2 (Option.some Jvm.ClassFile.FieldType.int) 1 := ⟨w_809, w_9, by decide, by decide, by decide +kernel⟩
theorem im_M_fail : Cond.instanceMethod y_M_fail ∈ gT := w_808
theorem se_M_fail : Cond.selects y_M_fail.cls y_M_fail y_M_fail ∈ gT := ws_9
theorem yk_M_weigh : vs_Y y_M_weigh c_M_weigh 6 (Option.some Jvm.ClassFile.FieldType.int) 3 := ⟨w_813, w_9, by decide, by decide, by decide +kernel⟩
theorem im_M_weigh : Cond.instanceMethod y_M_weigh ∈ gT := w_811
theorem se_M_weigh : Cond.selects y_M_weigh.cls y_M_weigh y_M_weigh ∈ gT := w_812
theorem yk_M_isWeight : vs_Y y_M_isWeight c_M_isWeight 2 (Option.some Jvm.ClassFile.FieldType.boolean) 1 := ⟨w_816, w_9, by decide, by decide, by decide +kernel⟩
theorem st_M_isWeight : Cond.static y_M_isWeight ∈ gT := w_815
theorem yk_M_put : vs_Y y_M_put c_M_put 4 (Option.some Jvm.ClassFile.FieldType.int) 2 := ⟨w_824, w_9, by decide, by decide, by decide +kernel⟩
theorem im_M_put : Cond.instanceMethod y_M_put ∈ gT := w_822
theorem se_M_put : Cond.selects y_M_put.cls y_M_put y_M_put ∈ gT := w_823
theorem yk_M_rule : vs_Y y_M_rule c_M_rule 5 (Option.some Jvm.ClassFile.FieldType.boolean) 2 := ⟨w_828, w_9, by decide, by decide, by decide +kernel⟩
theorem im_M_rule : Cond.instanceMethod y_M_rule ∈ gT := w_826
theorem se_M_rule : Cond.selects y_M_rule.cls y_M_rule y_M_rule ∈ gT := w_827
theorem yk_M_add : vs_Y y_M_add c_M_add 4 (Option.some Jvm.ClassFile.FieldType.int) 1 := ⟨w_832, w_9, by decide, by decide, by decide +kernel⟩
theorem im_M_add : Cond.instanceMethod y_M_add ∈ gT := w_830
theorem se_M_add : Cond.selects y_M_add.cls y_M_add y_M_add ∈ gT := w_831
theorem yk_M_remove : vs_Y y_M_remove c_M_remove 2 (Option.none : Option Jvm.ClassFile.FieldType) 1 := ⟨w_836, w_9, by decide, by decide, by decide +kernel⟩
theorem im_M_remove : Cond.instanceMethod y_M_remove ∈ gT := w_834
theorem se_M_remove : Cond.selects y_M_remove.cls y_M_remove y_M_remove ∈ gT := w_835
theorem yk_M_flush : vs_Y y_M_flush c_M_flush 3 (Option.some Jvm.ClassFile.FieldType.int) 0 := ⟨w_840, w_9, by decide, by decide, by decide +kernel⟩
theorem im_M_flush : Cond.instanceMethod y_M_flush ∈ gT := w_838
theorem se_M_flush : Cond.selects y_M_flush.cls y_M_flush y_M_flush ∈ gT := w_839
theorem yk_M_sizeOf : vs_Y y_M_sizeOf c_M_sizeOf 4 (Option.some Jvm.ClassFile.FieldType.int) 1 := ⟨w_844, w_9, by decide, by decide, by decide +kernel⟩
theorem im_M_sizeOf : Cond.instanceMethod y_M_sizeOf ∈ gT := w_843
theorem se_M_sizeOf : Cond.selects y_M_sizeOf.cls y_M_sizeOf y_M_sizeOf ∈ gT := ws_10
theorem yk_M_merge : vs_Y y_M_merge c_M_merge 4 (Option.some Jvm.ClassFile.FieldType.int) 0 := ⟨w_848, w_9, by decide, by decide, by decide +kernel⟩
theorem im_M_merge : Cond.instanceMethod y_M_merge ∈ gT := w_846
theorem se_M_merge : Cond.selects y_M_merge.cls y_M_merge y_M_merge ∈ gT := w_847
theorem yk_M_refresh : vs_Y y_M_refresh c_M_refresh 5 (Option.some Jvm.ClassFile.FieldType.int) 0 := ⟨w_852, w_9, by decide, by decide, by decide +kernel⟩
theorem im_M_refresh : Cond.instanceMethod y_M_refresh ∈ gT := w_850
theorem se_M_refresh : Cond.selects y_M_refresh.cls y_M_refresh y_M_refresh ∈ gT := w_851
theorem yk_M_isOther : vs_Y y_M_isOther c_M_isOther 2 (Option.some Jvm.ClassFile.FieldType.boolean) 0 := ⟨w_856, w_9, by decide, by decide, by decide +kernel⟩
theorem im_M_isOther : Cond.instanceMethod y_M_isOther ∈ gT := w_855
theorem se_M_isOther : Cond.selects y_M_isOther.cls y_M_isOther y_M_isOther ∈ gT := ws_11
theorem yk_M_isShown : vs_Y y_M_isShown c_M_isShown 3 (Option.some Jvm.ClassFile.FieldType.boolean) 1 := ⟨w_860, w_9, by decide, by decide, by decide +kernel⟩
theorem im_M_isShown : Cond.instanceMethod y_M_isShown ∈ gT := w_859
theorem se_M_isShown : Cond.selects y_M_isShown.cls y_M_isShown y_M_isShown ∈ gT := ws_12
theorem yk_M_drop : vs_Y y_M_drop c_M_drop 3 (Option.none : Option Jvm.ClassFile.FieldType) 1 := ⟨w_864, w_9, by decide, by decide, by decide +kernel⟩
theorem im_M_drop : Cond.instanceMethod y_M_drop ∈ gT := w_863
theorem se_M_drop : Cond.selects y_M_drop.cls y_M_drop y_M_drop ∈ gT := ws_13
theorem yk_M_clause : vs_Y y_M_clause c_M_clause 6 (Option.some Jvm.ClassFile.FieldType.int) 4 := ⟨w_868, w_9, by decide, by decide, by decide +kernel⟩
theorem im_M_clause : Cond.instanceMethod y_M_clause ∈ gT := w_866
theorem se_M_clause : Cond.selects y_M_clause.cls y_M_clause y_M_clause ∈ gT := w_867
theorem yk_M_clear : vs_Y y_M_clear c_M_clear 2 (Option.some Jvm.ClassFile.FieldType.int) 0 := ⟨w_872, w_9, by decide, by decide, by decide +kernel⟩
theorem im_M_clear : Cond.instanceMethod y_M_clear ∈ gT := w_870
theorem se_M_clear : Cond.selects y_M_clear.cls y_M_clear y_M_clear ∈ gT := w_871
theorem yk_M_search : vs_Y y_M_search c_M_search 9 (Option.some Jvm.ClassFile.FieldType.int) 2 := ⟨w_876, w_9, by decide, by decide, by decide +kernel⟩
theorem im_M_search : Cond.instanceMethod y_M_search ∈ gT := w_874
theorem se_M_search : Cond.selects y_M_search.cls y_M_search y_M_search ∈ gT := w_875
theorem yk_M_arrange : vs_Y y_M_arrange c_M_arrange 3 (Option.none : Option Jvm.ClassFile.FieldType) 0 := ⟨w_880, w_9, by decide, by decide, by decide +kernel⟩
theorem im_M_arrange : Cond.instanceMethod y_M_arrange ∈ gT := w_879
theorem se_M_arrange : Cond.selects y_M_arrange.cls y_M_arrange y_M_arrange ∈ gT := ws_14
theorem yk_M_useFilter : vs_Y y_M_useFilter c_M_useFilter 5 (Option.none : Option Jvm.ClassFile.FieldType) 2 := ⟨w_884, w_9, by decide, by decide, by decide +kernel⟩
theorem im_M_useFilter : Cond.instanceMethod y_M_useFilter ∈ gT := w_883
theorem se_M_useFilter : Cond.selects y_M_useFilter.cls y_M_useFilter y_M_useFilter ∈ gT := ws_15
theorem yk_M_isLeft : vs_Y y_M_isLeft c_M_isLeft 4 (Option.some Jvm.ClassFile.FieldType.boolean) 2 := ⟨w_888, w_9, by decide, by decide, by decide +kernel⟩
theorem im_M_isLeft : Cond.instanceMethod y_M_isLeft ∈ gT := w_887
theorem se_M_isLeft : Cond.selects y_M_isLeft.cls y_M_isLeft y_M_isLeft ∈ gT := ws_16
theorem yk_M_behindBlock : vs_Y y_M_behindBlock c_M_behindBlock 5 (Option.some Jvm.ClassFile.FieldType.int) 2 := ⟨w_892, w_9, by decide, by decide, by decide +kernel⟩
theorem im_M_behindBlock : Cond.instanceMethod y_M_behindBlock ∈ gT := w_891
theorem se_M_behindBlock : Cond.selects y_M_behindBlock.cls y_M_behindBlock y_M_behindBlock ∈ gT := ws_17
theorem yk_M_scoreOf : vs_Y y_M_scoreOf c_M_scoreOf 12 (Option.some Jvm.ClassFile.FieldType.float) 4 := ⟨w_896, w_9, by decide, by decide, by decide +kernel⟩
theorem im_M_scoreOf : Cond.instanceMethod y_M_scoreOf ∈ gT := w_895
theorem se_M_scoreOf : Cond.selects y_M_scoreOf.cls y_M_scoreOf y_M_scoreOf ∈ gT := ws_18
theorem yk_M_isOpen : vs_Y y_M_isOpen c_M_isOpen 3 (Option.some Jvm.ClassFile.FieldType.boolean) 2 := ⟨w_900, w_9, by decide, by decide, by decide +kernel⟩
theorem im_M_isOpen : Cond.instanceMethod y_M_isOpen ∈ gT := w_899
theorem se_M_isOpen : Cond.selects y_M_isOpen.cls y_M_isOpen y_M_isOpen ∈ gT := ws_19
theorem yk_M_lookAt : vs_Y y_M_lookAt c_M_lookAt 8 (Option.none : Option Jvm.ClassFile.FieldType) 5 := ⟨w_904, w_9, by decide, by decide, by decide +kernel⟩
theorem im_M_lookAt : Cond.instanceMethod y_M_lookAt ∈ gT := w_903
theorem se_M_lookAt : Cond.selects y_M_lookAt.cls y_M_lookAt y_M_lookAt ∈ gT := ws_20
theorem yk_M_isFound : vs_Y y_M_isFound c_M_isFound 7 (Option.some Jvm.ClassFile.FieldType.boolean) 2 := ⟨w_908, w_9, by decide, by decide, by decide +kernel⟩
theorem im_M_isFound : Cond.instanceMethod y_M_isFound ∈ gT := w_907
theorem se_M_isFound : Cond.selects y_M_isFound.cls y_M_isFound y_M_isFound ∈ gT := ws_21
theorem yk_M_mayRead : vs_Y y_M_mayRead c_M_mayRead 7 (Option.some Jvm.ClassFile.FieldType.boolean) 2 := ⟨w_912, w_9, by decide, by decide, by decide +kernel⟩
theorem im_M_mayRead : Cond.instanceMethod y_M_mayRead ∈ gT := w_911
theorem se_M_mayRead : Cond.selects y_M_mayRead.cls y_M_mayRead y_M_mayRead ∈ gT := ws_22
theorem yk_M_tokens : vs_Y y_M_tokens c_M_tokens 6 (Option.some Jvm.ClassFile.FieldType.int) 2 := ⟨w_916, w_9, by decide, by decide, by decide +kernel⟩
theorem im_M_tokens : Cond.instanceMethod y_M_tokens ∈ gT := w_915
theorem se_M_tokens : Cond.selects y_M_tokens.cls y_M_tokens y_M_tokens ∈ gT := ws_23
theorem yk_M_enter : vs_Y y_M_enter c_M_enter 5 (Option.none : Option Jvm.ClassFile.FieldType) 3 := ⟨w_920, w_9, by decide, by decide, by decide +kernel⟩
theorem im_M_enter : Cond.instanceMethod y_M_enter ∈ gT := w_919
theorem se_M_enter : Cond.selects y_M_enter.cls y_M_enter y_M_enter ∈ gT := ws_24
theorem yk_M_hit : vs_Y y_M_hit c_M_hit 2 (Option.some Jvm.ClassFile.FieldType.int) 1 := ⟨w_924, w_9, by decide, by decide, by decide +kernel⟩
theorem im_M_hit : Cond.instanceMethod y_M_hit ∈ gT := w_922
theorem se_M_hit : Cond.selects y_M_hit.cls y_M_hit y_M_hit ∈ gT := w_923
theorem yk_M_score : vs_Y y_M_score c_M_score 2 (Option.some Jvm.ClassFile.FieldType.double) 1 := ⟨w_928, w_9, by decide, by decide, by decide +kernel⟩
theorem im_M_score : Cond.instanceMethod y_M_score ∈ gT := w_926
theorem se_M_score : Cond.selects y_M_score.cls y_M_score y_M_score ∈ gT := w_927
theorem yk_M_value : vs_Y y_M_value c_M_value 6 (Option.some Jvm.ClassFile.FieldType.int) 3 := ⟨w_932, w_9, by decide, by decide, by decide +kernel⟩
theorem im_M_value : Cond.instanceMethod y_M_value ∈ gT := w_930
theorem se_M_value : Cond.selects y_M_value.cls y_M_value y_M_value ∈ gT := w_931
theorem yk_M_count : vs_Y y_M_count c_M_count 2 (Option.some Jvm.ClassFile.FieldType.int) 1 := ⟨w_936, w_9, by decide, by decide, by decide +kernel⟩
theorem im_M_count : Cond.instanceMethod y_M_count ∈ gT := w_934
theorem se_M_count : Cond.selects y_M_count.cls y_M_count y_M_count ∈ gT := w_935
set_option maxRecDepth 100000 in
theorem tx_0 : vs_T "VeilSearch" 65 67 0 := ⟨by decide +kernel, by decide, w_311, w_312, w_13⟩
set_option maxRecDepth 100000 in
theorem tx_1 : vs_T "VeilSearch" 116 118 1 := ⟨by decide +kernel, by decide, w_433, w_434, w_14⟩
set_option maxRecDepth 100000 in
theorem tx_2 : vs_T "VeilSearch" 130 132 2 := ⟨by decide +kernel, by decide, w_463, w_464, w_15⟩
set_option maxRecDepth 100000 in
theorem tx_3 : vs_T "VeilSearch" 204 206 3 := ⟨by decide +kernel, by decide, w_609, w_610, w_19⟩
set_option maxRecDepth 100000 in
theorem tx_4 : vs_T "VeilSearch" 222 224 4 := ⟨by decide +kernel, by decide, w_641, w_642, w_20⟩
