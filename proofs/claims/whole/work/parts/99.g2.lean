def wX9 (X : wc_X) (h0 q1 q2 q3 q4 q5 q6 q7 q8 q9 q10 q11 q12 q13 q14 q15 q16 q17 q18 q19 q20 q21 q22 q23 q24 q25 q26 q27 q28 q29 q30 q31 q32 q33 q34 q35 q36 q37 q38 q39 q40 q41 q42 q43 q44 q45 q46 q47 q48 q49 q50 q51 q52 q53 q54 q55 q56 q57 q58 q59 q60 q61 q62 q63 q64 q65 q66 q67 q68 q69 q70 q71 q72 q73 q74 q75 q76 q77 : Nat) : va_W := [(h0, .inr (9, [.ref q1, .ref q4, .ref q7, .ref q12, .ref q17, .ref q18, .ref q32, .ref q40, .ref q47, .ref q74, .ref q76, .ref q77, .int (nI 0), .int (nI 0)]))] ++ wX5 X 6 60 q1 q2 q3 ++ wX5 X 4 80 q4 q5 q6 ++ wX4 X q7 q8 q9 q10 q11 ++ wX4 X q12 q13 q14 q15 q16 ++ wX7 X q17 q4 q12 ++ wX0 X q18 q7 q19 q20 q21 q22 q23 q24 q25 q26 q27 q28 q29 q30 q31 ++ wX8 X q32 q7 q18 q33 q34 q35 q36 q37 q38 q39 ++ wX2 X q40 q7 q41 q42 q43 q44 q45 q46 ++ wX1 X q47 q7 q40 q48 q49 q50 q51 q52 q53 q54 q55 q56 q57 q58 q59 q60 q61 q62 q63 q64 q65 q66 q67 q68 q69 q70 q71 q72 q73 ++ wX6 X q74 q75 ++ [(q76, .inl (X.2.2 0, 3, .inl (fun _ => 0)))] ++ [(q77, .inl (X.2.2 0, 3, .inl (fun _ => (-1))))]
set_option maxRecDepth 100000 in
set_option maxHeartbeats 4000000 in
theorem ct_X9 {X : wc_X} (h0 : Nat) : MC X t_X9_init 95 10302 [.ref h0] [(h0, .inr (9, [.null, .null, .null, .null, .null, .null, .null, .null, .null, .null, .null, .null, .int 0, .int 0]))] (fun w => ∃ q1 q2 q3 q4 q5 q6 q7 q8 q9 q10 q11 q12 q13 q14 q15 q16 q17 q18 q19 q20 q21 q22 q23 q24 q25 q26 q27 q28 q29 q30 q31 q32 q33 q34 q35 q36 q37 q38 q39 q40 q41 q42 q43 q44 q45 q46 q47 q48 q49 q50 q51 q52 q53 q54 q55 q56 q57 q58 q59 q60 q61 q62 q63 q64 q65 q66 q67 q68 q69 q70 q71 q72 q73 q74 q75 q76 q77 : Nat, w = wX9 X h0 q1 q2 q3 q4 q5 q6 q7 q8 q9 q10 q11 q12 q13 q14 q15 q16 q17 q18 q19 q20 q21 q22 q23 q24 q25 q26 q27 q28 q29 q30 q31 q32 q33 q34 q35 q36 q37 q38 q39 q40 q41 q42 q43 q44 q45 q46 q47 q48 q49 q50 q51 q52 q53 q54 q55 q56 q57 q58 q59 q60 q61 q62 q63 q64 q65 q66 q67 q68 q69 q70 q71 q72 q73 q74 q75 q76 q77) := by
  refine wc_met (by decide) (Nat.le_of_ble_eq_true rfl) rfl (fun A => ?_)
  show WC X t_X9_init 95 10302 A _ 0 [(0, .ref h0)] [] _ 0 0
  refine wc_aload_n dX9_init_0 rfl 0 rfl ?_
  refine wc_obj iX9_init_1 (by decide) (Nat.le_of_ble_eq_true rfl) ?_
  refine wc_aload_n dX9_init_4 rfl 0 rfl ?_
  refine wc_new nX9_init_5 (by decide) (by decide) (fun q1 => ?_)
  refine wc_dup dX9_init_8 rfl ?_
  refine wc_bipush (nI 6) dX9_init_9 (by decide) ?_
  refine wc_bipush (nI 60) dX9_init_11 (by decide) ?_
  refine wc_init (ct_X5 6 60 q1 (by decide) (by decide) (by decide)) vX5_init iX9_init_13 rfl rfl (Nat.le_of_ble_eq_true rfl) ⟨by decide, by decide⟩ (by decide) (by decide) (fun w1 hw1 => ?_)
  obtain ⟨q2, q3, rfl⟩ := hw1
  refine wc_w (ws' := [(h0, .inr (9, [.null, .null, .null, .null, .null, .null, .null, .null, .null, .null, .null, .null, .int 0, .int 0]))] ++ wX5 X 6 60 q1 q2 q3) rfl ?_
  refine wc_put (ws' := [(h0, .inr (9, [.ref q1, .null, .null, .null, .null, .null, .null, .null, .null, .null, .null, .null, .int 0, .int 0]))] ++ wX5 X 6 60 q1 q2 q3) 0 pX9_init_16 rfl rfl rfl rfl (Nat.le_of_ble_eq_true rfl) rfl ?_
  refine wc_aload_n dX9_init_19 rfl 0 rfl ?_
  refine wc_new nX9_init_20 (by decide) (by decide) (fun q4 => ?_)
  refine wc_dup dX9_init_23 rfl ?_
  refine wc_iconst (nI 4) dX9_init_24 (by decide) ?_
  refine wc_bipush (nI 80) dX9_init_25 (by decide) ?_
  refine wc_init (ct_X5 4 80 q4 (by decide) (by decide) (by decide)) vX5_init iX9_init_27 rfl rfl (Nat.le_of_ble_eq_true rfl) ⟨by decide, by decide⟩ (by decide) (by decide) (fun w1 hw1 => ?_)
  obtain ⟨q5, q6, rfl⟩ := hw1
  refine wc_w (ws' := [(h0, .inr (9, [.ref q1, .null, .null, .null, .null, .null, .null, .null, .null, .null, .null, .null, .int 0, .int 0]))] ++ wX5 X 6 60 q1 q2 q3 ++ wX5 X 4 80 q4 q5 q6) rfl ?_
  refine wc_put (ws' := [(h0, .inr (9, [.ref q1, .ref q4, .null, .null, .null, .null, .null, .null, .null, .null, .null, .null, .int 0, .int 0]))] ++ wX5 X 6 60 q1 q2 q3 ++ wX5 X 4 80 q4 q5 q6) 0 pX9_init_30 rfl rfl rfl rfl (Nat.le_of_ble_eq_true rfl) rfl ?_
  refine wc_aload_n dX9_init_33 rfl 0 rfl ?_
  refine wc_new nX9_init_34 (by decide) (by decide) (fun q7 => ?_)
  refine wc_dup dX9_init_37 rfl ?_
  refine wc_initN (ct_X4 q7) vX4_init iX9_init_38 rfl rfl (Nat.le_of_ble_eq_true rfl) ⟨by decide, by decide⟩ (by decide) (by decide) (fun w1 hw1 => ?_)
  obtain ⟨q8, q9, q10, q11, rfl⟩ := hw1
  refine wc_w (ws' := [(h0, .inr (9, [.ref q1, .ref q4, .null, .null, .null, .null, .null, .null, .null, .null, .null, .null, .int 0, .int 0]))] ++ wX5 X 6 60 q1 q2 q3 ++ wX5 X 4 80 q4 q5 q6 ++ wX4 X q7 q8 q9 q10 q11) rfl ?_
  refine wc_put (ws' := [(h0, .inr (9, [.ref q1, .ref q4, .ref q7, .null, .null, .null, .null, .null, .null, .null, .null, .null, .int 0, .int 0]))] ++ wX5 X 6 60 q1 q2 q3 ++ wX5 X 4 80 q4 q5 q6 ++ wX4 X q7 q8 q9 q10 q11) 0 pX9_init_41 rfl rfl rfl rfl (Nat.le_of_ble_eq_true rfl) rfl ?_
  refine wc_aload_n dX9_init_44 rfl 0 rfl ?_
  refine wc_new nX9_init_45 (by decide) (by decide) (fun q12 => ?_)
  refine wc_dup dX9_init_48 rfl ?_
  refine wc_initN (ct_X4 q12) vX4_init iX9_init_49 rfl rfl (Nat.le_of_ble_eq_true rfl) ⟨by decide, by decide⟩ (by decide) (by decide) (fun w1 hw1 => ?_)
  obtain ⟨q13, q14, q15, q16, rfl⟩ := hw1
  refine wc_w (ws' := [(h0, .inr (9, [.ref q1, .ref q4, .ref q7, .null, .null, .null, .null, .null, .null, .null, .null, .null, .int 0, .int 0]))] ++ wX5 X 6 60 q1 q2 q3 ++ wX5 X 4 80 q4 q5 q6 ++ wX4 X q7 q8 q9 q10 q11 ++ wX4 X q12 q13 q14 q15 q16) rfl ?_
  refine wc_put (ws' := [(h0, .inr (9, [.ref q1, .ref q4, .ref q7, .ref q12, .null, .null, .null, .null, .null, .null, .null, .null, .int 0, .int 0]))] ++ wX5 X 6 60 q1 q2 q3 ++ wX5 X 4 80 q4 q5 q6 ++ wX4 X q7 q8 q9 q10 q11 ++ wX4 X q12 q13 q14 q15 q16) 0 pX9_init_52 rfl rfl rfl rfl (Nat.le_of_ble_eq_true rfl) rfl ?_
  refine wc_aload_n dX9_init_55 rfl 0 rfl ?_
  refine wc_new nX9_init_56 (by decide) (by decide) (fun q17 => ?_)
  refine wc_dup dX9_init_59 rfl ?_
  refine wc_aload_n dX9_init_60 rfl 0 rfl ?_
  refine wc_get 0 gX9_init_61 rfl rfl ?_
  refine wc_aload_n dX9_init_64 rfl 0 rfl ?_
  refine wc_get 0 gX9_init_65 rfl rfl ?_
  refine wc_init (ct_X7 q17 q4 q12) vX7_init iX9_init_68 rfl rfl (Nat.le_of_ble_eq_true rfl) ⟨by decide, by decide⟩ (by decide) (by decide) (fun w1 hw1 => ?_)
  obtain rfl := hw1
  refine wc_w (ws' := [(h0, .inr (9, [.ref q1, .ref q4, .ref q7, .ref q12, .null, .null, .null, .null, .null, .null, .null, .null, .int 0, .int 0]))] ++ wX5 X 6 60 q1 q2 q3 ++ wX5 X 4 80 q4 q5 q6 ++ wX4 X q7 q8 q9 q10 q11 ++ wX4 X q12 q13 q14 q15 q16 ++ wX7 X q17 q4 q12) rfl ?_
  refine wc_put (ws' := [(h0, .inr (9, [.ref q1, .ref q4, .ref q7, .ref q12, .ref q17, .null, .null, .null, .null, .null, .null, .null, .int 0, .int 0]))] ++ wX5 X 6 60 q1 q2 q3 ++ wX5 X 4 80 q4 q5 q6 ++ wX4 X q7 q8 q9 q10 q11 ++ wX4 X q12 q13 q14 q15 q16 ++ wX7 X q17 q4 q12) 0 pX9_init_71 rfl rfl rfl rfl (Nat.le_of_ble_eq_true rfl) rfl ?_
  refine wc_aload_n dX9_init_74 rfl 0 rfl ?_
  refine wc_new nX9_init_75 (by decide) (by decide) (fun q18 => ?_)
  refine wc_dup dX9_init_78 rfl ?_
  refine wc_aload_n dX9_init_79 rfl 0 rfl ?_
  refine wc_get 0 gX9_init_80 rfl rfl ?_
  refine wc_init (ct_X0 q18 q7) vX0_init iX9_init_83 rfl rfl (Nat.le_of_ble_eq_true rfl) ⟨by decide, by decide⟩ (by decide) (by decide) (fun w1 hw1 => ?_)
  obtain ⟨q19, q20, q21, q22, q23, q24, q25, q26, q27, q28, q29, q30, q31, rfl⟩ := hw1
  refine wc_w (ws' := [(h0, .inr (9, [.ref q1, .ref q4, .ref q7, .ref q12, .ref q17, .null, .null, .null, .null, .null, .null, .null, .int 0, .int 0]))] ++ wX5 X 6 60 q1 q2 q3 ++ wX5 X 4 80 q4 q5 q6 ++ wX4 X q7 q8 q9 q10 q11 ++ wX4 X q12 q13 q14 q15 q16 ++ wX7 X q17 q4 q12 ++ wX0 X q18 q7 q19 q20 q21 q22 q23 q24 q25 q26 q27 q28 q29 q30 q31) rfl ?_
  refine wc_put (ws' := [(h0, .inr (9, [.ref q1, .ref q4, .ref q7, .ref q12, .ref q17, .ref q18, .null, .null, .null, .null, .null, .null, .int 0, .int 0]))] ++ wX5 X 6 60 q1 q2 q3 ++ wX5 X 4 80 q4 q5 q6 ++ wX4 X q7 q8 q9 q10 q11 ++ wX4 X q12 q13 q14 q15 q16 ++ wX7 X q17 q4 q12 ++ wX0 X q18 q7 q19 q20 q21 q22 q23 q24 q25 q26 q27 q28 q29 q30 q31) 0 pX9_init_86 rfl rfl rfl rfl (Nat.le_of_ble_eq_true rfl) rfl ?_
  refine wc_aload_n dX9_init_89 rfl 0 rfl ?_
  refine wc_new nX9_init_90 (by decide) (by decide) (fun q32 => ?_)
  refine wc_dup dX9_init_93 rfl ?_
  refine wc_aload_n dX9_init_94 rfl 0 rfl ?_
  refine wc_get 0 gX9_init_95 rfl rfl ?_
  refine wc_aload_n dX9_init_98 rfl 0 rfl ?_
  refine wc_get 0 gX9_init_99 rfl rfl ?_
  refine wc_init (ct_X8 q32 q7 q18) vX8_init iX9_init_102 rfl rfl (Nat.le_of_ble_eq_true rfl) ⟨by decide, by decide⟩ (by decide) (by decide) (fun w1 hw1 => ?_)
  obtain ⟨q33, q34, q35, q36, q37, q38, q39, rfl⟩ := hw1
  refine wc_w (ws' := [(h0, .inr (9, [.ref q1, .ref q4, .ref q7, .ref q12, .ref q17, .ref q18, .null, .null, .null, .null, .null, .null, .int 0, .int 0]))] ++ wX5 X 6 60 q1 q2 q3 ++ wX5 X 4 80 q4 q5 q6 ++ wX4 X q7 q8 q9 q10 q11 ++ wX4 X q12 q13 q14 q15 q16 ++ wX7 X q17 q4 q12 ++ wX0 X q18 q7 q19 q20 q21 q22 q23 q24 q25 q26 q27 q28 q29 q30 q31 ++ wX8 X q32 q7 q18 q33 q34 q35 q36 q37 q38 q39) rfl ?_
  refine wc_put (ws' := [(h0, .inr (9, [.ref q1, .ref q4, .ref q7, .ref q12, .ref q17, .ref q18, .ref q32, .null, .null, .null, .null, .null, .int 0, .int 0]))] ++ wX5 X 6 60 q1 q2 q3 ++ wX5 X 4 80 q4 q5 q6 ++ wX4 X q7 q8 q9 q10 q11 ++ wX4 X q12 q13 q14 q15 q16 ++ wX7 X q17 q4 q12 ++ wX0 X q18 q7 q19 q20 q21 q22 q23 q24 q25 q26 q27 q28 q29 q30 q31 ++ wX8 X q32 q7 q18 q33 q34 q35 q36 q37 q38 q39) 0 pX9_init_105 rfl rfl rfl rfl (Nat.le_of_ble_eq_true rfl) rfl ?_
  refine wc_aload_n dX9_init_108 rfl 0 rfl ?_
  refine wc_new nX9_init_109 (by decide) (by decide) (fun q40 => ?_)
  refine wc_dup dX9_init_112 rfl ?_
  refine wc_aload_n dX9_init_113 rfl 0 rfl ?_
  refine wc_get 0 gX9_init_114 rfl rfl ?_
  refine wc_init (ct_X2 q40 q7) vX2_init iX9_init_117 rfl rfl (Nat.le_of_ble_eq_true rfl) ⟨by decide, by decide⟩ (by decide) (by decide) (fun w1 hw1 => ?_)
  obtain ⟨q41, q42, q43, q44, q45, q46, rfl⟩ := hw1
  refine wc_w (ws' := [(h0, .inr (9, [.ref q1, .ref q4, .ref q7, .ref q12, .ref q17, .ref q18, .ref q32, .null, .null, .null, .null, .null, .int 0, .int 0]))] ++ wX5 X 6 60 q1 q2 q3 ++ wX5 X 4 80 q4 q5 q6 ++ wX4 X q7 q8 q9 q10 q11 ++ wX4 X q12 q13 q14 q15 q16 ++ wX7 X q17 q4 q12 ++ wX0 X q18 q7 q19 q20 q21 q22 q23 q24 q25 q26 q27 q28 q29 q30 q31 ++ wX8 X q32 q7 q18 q33 q34 q35 q36 q37 q38 q39 ++ wX2 X q40 q7 q41 q42 q43 q44 q45 q46) rfl ?_
  refine wc_put (ws' := [(h0, .inr (9, [.ref q1, .ref q4, .ref q7, .ref q12, .ref q17, .ref q18, .ref q32, .ref q40, .null, .null, .null, .null, .int 0, .int 0]))] ++ wX5 X 6 60 q1 q2 q3 ++ wX5 X 4 80 q4 q5 q6 ++ wX4 X q7 q8 q9 q10 q11 ++ wX4 X q12 q13 q14 q15 q16 ++ wX7 X q17 q4 q12 ++ wX0 X q18 q7 q19 q20 q21 q22 q23 q24 q25 q26 q27 q28 q29 q30 q31 ++ wX8 X q32 q7 q18 q33 q34 q35 q36 q37 q38 q39 ++ wX2 X q40 q7 q41 q42 q43 q44 q45 q46) 0 pX9_init_120 rfl rfl rfl rfl (Nat.le_of_ble_eq_true rfl) rfl ?_
  refine wc_aload_n dX9_init_123 rfl 0 rfl ?_
  refine wc_new nX9_init_124 (by decide) (by decide) (fun q47 => ?_)
  refine wc_dup dX9_init_127 rfl ?_
  refine wc_aload_n dX9_init_128 rfl 0 rfl ?_
  refine wc_get 0 gX9_init_129 rfl rfl ?_
  refine wc_aload_n dX9_init_132 rfl 0 rfl ?_
  refine wc_get 0 gX9_init_133 rfl rfl ?_
  refine wc_init (ct_X1 q47 q7 q40) vX1_init iX9_init_136 rfl rfl (Nat.le_of_ble_eq_true rfl) ⟨by decide, by decide⟩ (by decide) (by decide) (fun w1 hw1 => ?_)
  obtain ⟨q48, q49, q50, q51, q52, q53, q54, q55, q56, q57, q58, q59, q60, q61, q62, q63, q64, q65, q66, q67, q68, q69, q70, q71, q72, q73, rfl⟩ := hw1
  refine wc_w (ws' := [(h0, .inr (9, [.ref q1, .ref q4, .ref q7, .ref q12, .ref q17, .ref q18, .ref q32, .ref q40, .null, .null, .null, .null, .int 0, .int 0]))] ++ wX5 X 6 60 q1 q2 q3 ++ wX5 X 4 80 q4 q5 q6 ++ wX4 X q7 q8 q9 q10 q11 ++ wX4 X q12 q13 q14 q15 q16 ++ wX7 X q17 q4 q12 ++ wX0 X q18 q7 q19 q20 q21 q22 q23 q24 q25 q26 q27 q28 q29 q30 q31 ++ wX8 X q32 q7 q18 q33 q34 q35 q36 q37 q38 q39 ++ wX2 X q40 q7 q41 q42 q43 q44 q45 q46 ++ wX1 X q47 q7 q40 q48 q49 q50 q51 q52 q53 q54 q55 q56 q57 q58 q59 q60 q61 q62 q63 q64 q65 q66 q67 q68 q69 q70 q71 q72 q73) rfl ?_
  refine wc_put (ws' := [(h0, .inr (9, [.ref q1, .ref q4, .ref q7, .ref q12, .ref q17, .ref q18, .ref q32, .ref q40, .ref q47, .null, .null, .null, .int 0, .int 0]))] ++ wX5 X 6 60 q1 q2 q3 ++ wX5 X 4 80 q4 q5 q6 ++ wX4 X q7 q8 q9 q10 q11 ++ wX4 X q12 q13 q14 q15 q16 ++ wX7 X q17 q4 q12 ++ wX0 X q18 q7 q19 q20 q21 q22 q23 q24 q25 q26 q27 q28 q29 q30 q31 ++ wX8 X q32 q7 q18 q33 q34 q35 q36 q37 q38 q39 ++ wX2 X q40 q7 q41 q42 q43 q44 q45 q46 ++ wX1 X q47 q7 q40 q48 q49 q50 q51 q52 q53 q54 q55 q56 q57 q58 q59 q60 q61 q62 q63 q64 q65 q66 q67 q68 q69 q70 q71 q72 q73) 0 pX9_init_139 rfl rfl rfl rfl (Nat.le_of_ble_eq_true rfl) rfl ?_
  refine wc_aload_n dX9_init_142 rfl 0 rfl ?_
  refine wc_new nX9_init_143 (by decide) (by decide) (fun q74 => ?_)
  refine wc_dup dX9_init_146 rfl ?_
  refine wc_initN (ct_X6 q74) vX6_init iX9_init_147 rfl rfl (Nat.le_of_ble_eq_true rfl) ⟨by decide, by decide⟩ (by decide) (by decide) (fun w1 hw1 => ?_)
  obtain ⟨q75, rfl⟩ := hw1
  refine wc_w (ws' := [(h0, .inr (9, [.ref q1, .ref q4, .ref q7, .ref q12, .ref q17, .ref q18, .ref q32, .ref q40, .ref q47, .null, .null, .null, .int 0, .int 0]))] ++ wX5 X 6 60 q1 q2 q3 ++ wX5 X 4 80 q4 q5 q6 ++ wX4 X q7 q8 q9 q10 q11 ++ wX4 X q12 q13 q14 q15 q16 ++ wX7 X q17 q4 q12 ++ wX0 X q18 q7 q19 q20 q21 q22 q23 q24 q25 q26 q27 q28 q29 q30 q31 ++ wX8 X q32 q7 q18 q33 q34 q35 q36 q37 q38 q39 ++ wX2 X q40 q7 q41 q42 q43 q44 q45 q46 ++ wX1 X q47 q7 q40 q48 q49 q50 q51 q52 q53 q54 q55 q56 q57 q58 q59 q60 q61 q62 q63 q64 q65 q66 q67 q68 q69 q70 q71 q72 q73 ++ wX6 X q74 q75) rfl ?_
  refine wc_put (ws' := [(h0, .inr (9, [.ref q1, .ref q4, .ref q7, .ref q12, .ref q17, .ref q18, .ref q32, .ref q40, .ref q47, .ref q74, .null, .null, .int 0, .int 0]))] ++ wX5 X 6 60 q1 q2 q3 ++ wX5 X 4 80 q4 q5 q6 ++ wX4 X q7 q8 q9 q10 q11 ++ wX4 X q12 q13 q14 q15 q16 ++ wX7 X q17 q4 q12 ++ wX0 X q18 q7 q19 q20 q21 q22 q23 q24 q25 q26 q27 q28 q29 q30 q31 ++ wX8 X q32 q7 q18 q33 q34 q35 q36 q37 q38 q39 ++ wX2 X q40 q7 q41 q42 q43 q44 q45 q46 ++ wX1 X q47 q7 q40 q48 q49 q50 q51 q52 q53 q54 q55 q56 q57 q58 q59 q60 q61 q62 q63 q64 q65 q66 q67 q68 q69 q70 q71 q72 q73 ++ wX6 X q74 q75) 0 pX9_init_150 rfl rfl rfl rfl (Nat.le_of_ble_eq_true rfl) rfl ?_
  refine wc_aload_n dX9_init_153 rfl 0 rfl ?_
  refine wc_iconst (nI 3) dX9_init_154 (by decide) ?_
  refine wc_newa 0 (atype := .int) (ty := .int) (a0 := (3, .inl (fun _ => 0))) (N' := 3) rfl wd_123 rfl (fun _ => rfl) (nI_pos (by decide)) (nI_clamp (by decide)) (by decide) (by decide) (by decide) dX9_init_155 (fun q76 => ?_)
  refine wc_put (ws' := [(h0, .inr (9, [.ref q1, .ref q4, .ref q7, .ref q12, .ref q17, .ref q18, .ref q32, .ref q40, .ref q47, .ref q74, .ref q76, .null, .int 0, .int 0]))] ++ wX5 X 6 60 q1 q2 q3 ++ wX5 X 4 80 q4 q5 q6 ++ wX4 X q7 q8 q9 q10 q11 ++ wX4 X q12 q13 q14 q15 q16 ++ wX7 X q17 q4 q12 ++ wX0 X q18 q7 q19 q20 q21 q22 q23 q24 q25 q26 q27 q28 q29 q30 q31 ++ wX8 X q32 q7 q18 q33 q34 q35 q36 q37 q38 q39 ++ wX2 X q40 q7 q41 q42 q43 q44 q45 q46 ++ wX1 X q47 q7 q40 q48 q49 q50 q51 q52 q53 q54 q55 q56 q57 q58 q59 q60 q61 q62 q63 q64 q65 q66 q67 q68 q69 q70 q71 q72 q73 ++ wX6 X q74 q75 ++ [(q76, .inl (X.2.2 0, 3, .inl (fun _ => 0)))]) 0 pX9_init_157 rfl rfl rfl rfl (Nat.le_of_ble_eq_true rfl) rfl ?_
  refine wc_aload_n dX9_init_160 rfl 0 rfl ?_
  refine wc_iconst (nI 3) dX9_init_161 (by decide) ?_
  refine wc_newa 0 (atype := .int) (ty := .int) (a0 := (3, .inl (fun _ => 0))) (N' := 3) rfl wd_123 rfl (fun _ => rfl) (nI_pos (by decide)) (nI_clamp (by decide)) (by decide) (by decide) (by decide) dX9_init_162 (fun q77 => ?_)
  refine wc_put (ws' := [(h0, .inr (9, [.ref q1, .ref q4, .ref q7, .ref q12, .ref q17, .ref q18, .ref q32, .ref q40, .ref q47, .ref q74, .ref q76, .ref q77, .int 0, .int 0]))] ++ wX5 X 6 60 q1 q2 q3 ++ wX5 X 4 80 q4 q5 q6 ++ wX4 X q7 q8 q9 q10 q11 ++ wX4 X q12 q13 q14 q15 q16 ++ wX7 X q17 q4 q12 ++ wX0 X q18 q7 q19 q20 q21 q22 q23 q24 q25 q26 q27 q28 q29 q30 q31 ++ wX8 X q32 q7 q18 q33 q34 q35 q36 q37 q38 q39 ++ wX2 X q40 q7 q41 q42 q43 q44 q45 q46 ++ wX1 X q47 q7 q40 q48 q49 q50 q51 q52 q53 q54 q55 q56 q57 q58 q59 q60 q61 q62 q63 q64 q65 q66 q67 q68 q69 q70 q71 q72 q73 ++ wX6 X q74 q75 ++ [(q76, .inl (X.2.2 0, 3, .inl (fun _ => 0)))] ++ [(q77, .inl (X.2.2 0, 3, .inl (fun _ => 0)))]) 0 pX9_init_164 rfl rfl rfl rfl (Nat.le_of_ble_eq_true rfl) rfl ?_
  refine wc_aload_n dX9_init_167 rfl 0 rfl ?_
  refine wc_iconst (nI 0) dX9_init_168 (by decide) ?_
  refine wc_put (ws' := [(h0, .inr (9, [.ref q1, .ref q4, .ref q7, .ref q12, .ref q17, .ref q18, .ref q32, .ref q40, .ref q47, .ref q74, .ref q76, .ref q77, .int (nI 0), .int 0]))] ++ wX5 X 6 60 q1 q2 q3 ++ wX5 X 4 80 q4 q5 q6 ++ wX4 X q7 q8 q9 q10 q11 ++ wX4 X q12 q13 q14 q15 q16 ++ wX7 X q17 q4 q12 ++ wX0 X q18 q7 q19 q20 q21 q22 q23 q24 q25 q26 q27 q28 q29 q30 q31 ++ wX8 X q32 q7 q18 q33 q34 q35 q36 q37 q38 q39 ++ wX2 X q40 q7 q41 q42 q43 q44 q45 q46 ++ wX1 X q47 q7 q40 q48 q49 q50 q51 q52 q53 q54 q55 q56 q57 q58 q59 q60 q61 q62 q63 q64 q65 q66 q67 q68 q69 q70 q71 q72 q73 ++ wX6 X q74 q75 ++ [(q76, .inl (X.2.2 0, 3, .inl (fun _ => 0)))] ++ [(q77, .inl (X.2.2 0, 3, .inl (fun _ => 0)))]) 0 pX9_init_169 rfl rfl rfl rfl (Nat.le_of_ble_eq_true rfl) rfl ?_
  refine wc_aload_n dX9_init_172 rfl 0 rfl ?_
  refine wc_iconst (nI 0) dX9_init_173 (by decide) ?_
  refine wc_put (ws' := [(h0, .inr (9, [.ref q1, .ref q4, .ref q7, .ref q12, .ref q17, .ref q18, .ref q32, .ref q40, .ref q47, .ref q74, .ref q76, .ref q77, .int (nI 0), .int (nI 0)]))] ++ wX5 X 6 60 q1 q2 q3 ++ wX5 X 4 80 q4 q5 q6 ++ wX4 X q7 q8 q9 q10 q11 ++ wX4 X q12 q13 q14 q15 q16 ++ wX7 X q17 q4 q12 ++ wX0 X q18 q7 q19 q20 q21 q22 q23 q24 q25 q26 q27 q28 q29 q30 q31 ++ wX8 X q32 q7 q18 q33 q34 q35 q36 q37 q38 q39 ++ wX2 X q40 q7 q41 q42 q43 q44 q45 q46 ++ wX1 X q47 q7 q40 q48 q49 q50 q51 q52 q53 q54 q55 q56 q57 q58 q59 q60 q61 q62 q63 q64 q65 q66 q67 q68 q69 q70 q71 q72 q73 ++ wX6 X q74 q75 ++ [(q76, .inl (X.2.2 0, 3, .inl (fun _ => 0)))] ++ [(q77, .inl (X.2.2 0, 3, .inl (fun _ => 0)))]) 0 pX9_init_174 rfl rfl rfl rfl (Nat.le_of_ble_eq_true rfl) rfl ?_
  refine wc_aload_n dX9_init_177 rfl 0 rfl ?_
  refine wc_get 0 gX9_init_178 rfl rfl ?_
  refine wc_iconst (-1) dX9_init_181 (by decide) ?_
  refine wc_callS (ct_fill 3 q77 (-1) (by decide)) vJ7_fill_53178 rfl iX9_init_182 rfl rfl (Nat.le_of_ble_eq_true rfl) ⟨by decide, by decide⟩ (by decide) (by decide) (fun w1 hw1 => ?_)
  obtain rfl := hw1
  refine wc_w (ws' := [(h0, .inr (9, [.ref q1, .ref q4, .ref q7, .ref q12, .ref q17, .ref q18, .ref q32, .ref q40, .ref q47, .ref q74, .ref q76, .ref q77, .int (nI 0), .int (nI 0)]))] ++ wX5 X 6 60 q1 q2 q3 ++ wX5 X 4 80 q4 q5 q6 ++ wX4 X q7 q8 q9 q10 q11 ++ wX4 X q12 q13 q14 q15 q16 ++ wX7 X q17 q4 q12 ++ wX0 X q18 q7 q19 q20 q21 q22 q23 q24 q25 q26 q27 q28 q29 q30 q31 ++ wX8 X q32 q7 q18 q33 q34 q35 q36 q37 q38 q39 ++ wX2 X q40 q7 q41 q42 q43 q44 q45 q46 ++ wX1 X q47 q7 q40 q48 q49 q50 q51 q52 q53 q54 q55 q56 q57 q58 q59 q60 q61 q62 q63 q64 q65 q66 q67 q68 q69 q70 q71 q72 q73 ++ wX6 X q74 q75 ++ [(q76, .inl (X.2.2 0, 3, .inl (fun _ => 0)))] ++ [(q77, .inl (X.2.2 0, 3, .inl (fun _ => (-1))))]) rfl ?_
  exact wc_ret dX9_init_185 rfl rfl ⟨q1, q2, q3, q4, q5, q6, q7, q8, q9, q10, q11, q12, q13, q14, q15, q16, q17, q18, q19, q20, q21, q22, q23, q24, q25, q26, q27, q28, q29, q30, q31, q32, q33, q34, q35, q36, q37, q38, q39, q40, q41, q42, q43, q44, q45, q46, q47, q48, q49, q50, q51, q52, q53, q54, q55, q56, q57, q58, q59, q60, q61, q62, q63, q64, q65, q66, q67, q68, q69, q70, q71, q72, q73, q74, q75, q76, q77, rfl⟩
