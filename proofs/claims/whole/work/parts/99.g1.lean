/-! ===== the constructors, walked ===== -/
def wX5 (X : wc_X) (n w h0 o z : Nat) : va_W := [(h0, .inr (5, [.int (nI w), .ref o, .ref z]))] ++ ma_ws X n w o ++ [(z, .inl (X.2.2 0, n, .inl (fun _ => (-1))))]
set_option maxRecDepth 100000 in
theorem ct_X5 {X : wc_X} (n w h0 : Nat) (hn0 : 0 < n) (hn : n * 4 ≤ 536870912) (hw : w * 4 ≤ 536870912) : MC X t_X5_init (n + 2) (n + n * w + n) [.ref h0, .int (nI n), .int (nI w)] [(h0, .inr (5, [.int 0, .null, .null]))] (fun y => ∃ o z : Nat, y = wX5 X n w h0 o z) := by
  refine wc_met (by decide) (Nat.le_of_ble_eq_true rfl) rfl (fun A => ?_)
  show WC X t_X5_init (n + 2) (n + n * w + n) A _ 0 [(0, .ref h0), (1, .int (nI n)), (2, .int (nI w))] [] _ 0 0
  refine wc_aload_n dX5_init_0 rfl 0 rfl ?_
  refine wc_obj iX5_init_1 (by decide) (Nat.le_of_ble_eq_true rfl) ?_
  refine wc_aload_n dX5_init_4 rfl 0 rfl ?_
  refine wc_iload_n dX5_init_5 rfl 2 rfl ?_
  refine wc_put (ws' := [(h0, .inr (5, [.int (nI w), .null, .null]))]) 0 pX5_init_6 rfl rfl rfl rfl (Nat.le_of_ble_eq_true rfl) rfl ?_
  refine wc_aload_n dX5_init_9 rfl 0 rfl ?_
  refine wc_iload_n dX5_init_10 rfl 1 rfl ?_
  refine wc_iload_n dX5_init_11 rfl 2 rfl ?_
  refine wc_multi (N := n) (M := w) qX5_init_12 (nI_pos (by omega)) (beq_eq_false_iff_ne.mpr (nI_ne0 hn0 (by omega))) (nI_clamp (by omega)) hn (nI_pos (by omega)) (nI_clamp (by omega)) hw (by omega) (by omega) dX5_init_12 (fun o => ?_)
  refine wc_put (ws' := [(h0, .inr (5, [.int (nI w), .ref o, .null]))] ++ ma_ws X n w o) 0 pX5_init_16 rfl rfl rfl rfl (Nat.le_of_ble_eq_true rfl) rfl ?_
  refine wc_aload_n dX5_init_19 rfl 0 rfl ?_
  refine wc_iload_n dX5_init_20 rfl 1 rfl ?_
  refine wc_newa 0 (atype := .int) (ty := .int) (a0 := (n, .inl (fun _ => 0))) (N' := n) rfl wd_123 rfl (fun _ => rfl) (nI_pos (by omega)) (nI_clamp (by omega)) hn (by omega) (by omega) dX5_init_21 (fun z => ?_)
  refine wc_put (ws' := [(h0, .inr (5, [.int (nI w), .ref o, .ref z]))] ++ ma_ws X n w o ++ [(z, .inl (X.2.2 0, n, .inl (fun _ => 0)))]) 0 pX5_init_23 rfl rfl rfl rfl (Nat.le_of_ble_eq_true rfl) rfl ?_
  refine wc_aload_n dX5_init_26 rfl 0 rfl ?_
  refine wc_get 0 gX5_init_27 rfl rfl ?_
  refine wc_iconst (-1) dX5_init_30 (by decide) ?_
  refine wc_callS (ct_fill n z (-1) (by omega)) vJ7_fill_53178 rfl iX5_init_31 rfl rfl (Nat.le_of_ble_eq_true rfl) ⟨by decide, by decide⟩ (by omega) (by omega) (fun w1 hw1 => ?_)
  obtain rfl := hw1
  exact wc_ret dX5_init_34 (by omega) (by omega) ⟨o, z, rfl⟩
def wX3 (X : wc_X) (h0 q1 : Nat) : va_W := [(h0, .inr (3, [.ref q1]))] ++ [(q1, .inl (X.2.2 1, 64, .inr (.inl (fun _ => 0))))]
set_option maxRecDepth 100000 in
set_option maxHeartbeats 4000000 in
theorem ct_X3 {X : wc_X} (h0 : Nat) : MC X t_X3_init 1 64 [.ref h0] [(h0, .inr (3, [.null]))] (fun w => ∃ q1 : Nat, w = wX3 X h0 q1) := by
  refine wc_met (by decide) (Nat.le_of_ble_eq_true rfl) rfl (fun A => ?_)
  show WC X t_X3_init 1 64 A _ 0 [(0, .ref h0)] [] _ 0 0
  refine wc_aload_n dX3_init_0 rfl 0 rfl ?_
  refine wc_obj iX3_init_1 (by decide) (Nat.le_of_ble_eq_true rfl) ?_
  refine wc_aload_n dX3_init_4 rfl 0 rfl ?_
  refine wc_bipush (nI 64) dX3_init_5 (by decide) ?_
  refine wc_newa 1 (atype := .long) (ty := .long) (a0 := (64, .inr (.inl (fun _ => 0)))) (N' := 64) rfl wd_203 rfl (fun _ => rfl) (nI_pos (by decide)) (nI_clamp (by decide)) (by decide) (by decide) (by decide) dX3_init_7 (fun q1 => ?_)
  refine wc_put (ws' := [(h0, .inr (3, [.ref q1]))] ++ [(q1, .inl (X.2.2 1, 64, .inr (.inl (fun _ => 0))))]) 0 pX3_init_9 rfl rfl rfl rfl (Nat.le_of_ble_eq_true rfl) rfl ?_
  exact wc_ret dX3_init_12 rfl rfl ⟨q1, rfl⟩
def wX4 (X : wc_X) (h0 q1 q2 q3 q4 : Nat) : va_W := [(h0, .inr (4, [.int (nI 0), .int (nI 0), .ref q1, .ref q2, .ref q3, .ref q4]))] ++ [(q1, .inl (X.2.2 0, 6, .inl (fun _ => 0)))] ++ [(q2, .inl (X.2.2 0, 24, .inl (fun _ => 0)))] ++ [(q3, .inl (X.2.2 0, 6, .inl (fun _ => 0)))] ++ [(q4, .inl (X.2.2 0, 6, .inl (fun _ => 0)))]
set_option maxRecDepth 100000 in
set_option maxHeartbeats 4000000 in
theorem ct_X4 {X : wc_X} (h0 : Nat) : MC X t_X4_init 4 42 [.ref h0] [(h0, .inr (4, [.int 0, .int 0, .null, .null, .null, .null]))] (fun w => ∃ q1 q2 q3 q4 : Nat, w = wX4 X h0 q1 q2 q3 q4) := by
  refine wc_met (by decide) (Nat.le_of_ble_eq_true rfl) rfl (fun A => ?_)
  show WC X t_X4_init 4 42 A _ 0 [(0, .ref h0)] [] _ 0 0
  refine wc_aload_n dX4_init_0 rfl 0 rfl ?_
  refine wc_obj iX4_init_1 (by decide) (Nat.le_of_ble_eq_true rfl) ?_
  refine wc_aload_n dX4_init_4 rfl 0 rfl ?_
  refine wc_iconst (nI 0) dX4_init_5 (by decide) ?_
  refine wc_put (ws' := [(h0, .inr (4, [.int (nI 0), .int 0, .null, .null, .null, .null]))]) 0 pX4_init_6 rfl rfl rfl rfl (Nat.le_of_ble_eq_true rfl) rfl ?_
  refine wc_aload_n dX4_init_9 rfl 0 rfl ?_
  refine wc_iconst (nI 0) dX4_init_10 (by decide) ?_
  refine wc_put (ws' := [(h0, .inr (4, [.int (nI 0), .int (nI 0), .null, .null, .null, .null]))]) 0 pX4_init_11 rfl rfl rfl rfl (Nat.le_of_ble_eq_true rfl) rfl ?_
  refine wc_aload_n dX4_init_14 rfl 0 rfl ?_
  refine wc_bipush (nI 6) dX4_init_15 (by decide) ?_
  refine wc_newa 0 (atype := .int) (ty := .int) (a0 := (6, .inl (fun _ => 0))) (N' := 6) rfl wd_123 rfl (fun _ => rfl) (nI_pos (by decide)) (nI_clamp (by decide)) (by decide) (by decide) (by decide) dX4_init_17 (fun q1 => ?_)
  refine wc_put (ws' := [(h0, .inr (4, [.int (nI 0), .int (nI 0), .ref q1, .null, .null, .null]))] ++ [(q1, .inl (X.2.2 0, 6, .inl (fun _ => 0)))]) 0 pX4_init_19 rfl rfl rfl rfl (Nat.le_of_ble_eq_true rfl) rfl ?_
  refine wc_aload_n dX4_init_22 rfl 0 rfl ?_
  refine wc_bipush (nI 24) dX4_init_23 (by decide) ?_
  refine wc_newa 0 (atype := .int) (ty := .int) (a0 := (24, .inl (fun _ => 0))) (N' := 24) rfl wd_123 rfl (fun _ => rfl) (nI_pos (by decide)) (nI_clamp (by decide)) (by decide) (by decide) (by decide) dX4_init_25 (fun q2 => ?_)
  refine wc_put (ws' := [(h0, .inr (4, [.int (nI 0), .int (nI 0), .ref q1, .ref q2, .null, .null]))] ++ [(q1, .inl (X.2.2 0, 6, .inl (fun _ => 0)))] ++ [(q2, .inl (X.2.2 0, 24, .inl (fun _ => 0)))]) 0 pX4_init_27 rfl rfl rfl rfl (Nat.le_of_ble_eq_true rfl) rfl ?_
  refine wc_aload_n dX4_init_30 rfl 0 rfl ?_
  refine wc_bipush (nI 6) dX4_init_31 (by decide) ?_
  refine wc_newa 0 (atype := .int) (ty := .int) (a0 := (6, .inl (fun _ => 0))) (N' := 6) rfl wd_123 rfl (fun _ => rfl) (nI_pos (by decide)) (nI_clamp (by decide)) (by decide) (by decide) (by decide) dX4_init_33 (fun q3 => ?_)
  refine wc_put (ws' := [(h0, .inr (4, [.int (nI 0), .int (nI 0), .ref q1, .ref q2, .ref q3, .null]))] ++ [(q1, .inl (X.2.2 0, 6, .inl (fun _ => 0)))] ++ [(q2, .inl (X.2.2 0, 24, .inl (fun _ => 0)))] ++ [(q3, .inl (X.2.2 0, 6, .inl (fun _ => 0)))]) 0 pX4_init_35 rfl rfl rfl rfl (Nat.le_of_ble_eq_true rfl) rfl ?_
  refine wc_aload_n dX4_init_38 rfl 0 rfl ?_
  refine wc_bipush (nI 6) dX4_init_39 (by decide) ?_
  refine wc_newa 0 (atype := .int) (ty := .int) (a0 := (6, .inl (fun _ => 0))) (N' := 6) rfl wd_123 rfl (fun _ => rfl) (nI_pos (by decide)) (nI_clamp (by decide)) (by decide) (by decide) (by decide) dX4_init_41 (fun q4 => ?_)
  refine wc_put (ws' := [(h0, .inr (4, [.int (nI 0), .int (nI 0), .ref q1, .ref q2, .ref q3, .ref q4]))] ++ [(q1, .inl (X.2.2 0, 6, .inl (fun _ => 0)))] ++ [(q2, .inl (X.2.2 0, 24, .inl (fun _ => 0)))] ++ [(q3, .inl (X.2.2 0, 6, .inl (fun _ => 0)))] ++ [(q4, .inl (X.2.2 0, 6, .inl (fun _ => 0)))]) 0 pX4_init_43 rfl rfl rfl rfl (Nat.le_of_ble_eq_true rfl) rfl ?_
  exact wc_ret dX4_init_46 rfl rfl ⟨q1, q2, q3, q4, rfl⟩
def wX6 (X : wc_X) (h0 q1 : Nat) : va_W := [(h0, .inr (6, [.int (nI 0), .long 0, .long 1, .int (nI 0), .ref q1]))] ++ [(q1, .inl (X.2.2 0, 6, .inl (fun _ => 0)))]
set_option maxRecDepth 100000 in
set_option maxHeartbeats 4000000 in
theorem ct_X6 {X : wc_X} (h0 : Nat) : MC X t_X6_init 1 6 [.ref h0] [(h0, .inr (6, [.int 0, .long 0, .long 0, .int 0, .null]))] (fun w => ∃ q1 : Nat, w = wX6 X h0 q1) := by
  refine wc_met (by decide) (Nat.le_of_ble_eq_true rfl) rfl (fun A => ?_)
  show WC X t_X6_init 1 6 A _ 0 [(0, .ref h0)] [] _ 0 0
  refine wc_aload_n dX6_init_0 rfl 0 rfl ?_
  refine wc_obj iX6_init_1 (by decide) (Nat.le_of_ble_eq_true rfl) ?_
  refine wc_aload_n dX6_init_4 rfl 0 rfl ?_
  refine wc_iconst (nI 0) dX6_init_5 (by decide) ?_
  refine wc_put (ws' := [(h0, .inr (6, [.int (nI 0), .long 0, .long 0, .int 0, .null]))]) 0 pX6_init_6 rfl rfl rfl rfl (Nat.le_of_ble_eq_true rfl) rfl ?_
  refine wc_aload_n dX6_init_9 rfl 0 rfl ?_
  refine wc_lconst 0 dX6_init_10 (by decide) ?_
  refine wc_put (ws' := [(h0, .inr (6, [.int (nI 0), .long 0, .long 0, .int 0, .null]))]) 0 pX6_init_11 rfl rfl rfl rfl (Nat.le_of_ble_eq_true rfl) rfl ?_
  refine wc_aload_n dX6_init_14 rfl 0 rfl ?_
  refine wc_lconst 1 dX6_init_15 (by decide) ?_
  refine wc_put (ws' := [(h0, .inr (6, [.int (nI 0), .long 0, .long 1, .int 0, .null]))]) 0 pX6_init_16 rfl rfl rfl rfl (Nat.le_of_ble_eq_true rfl) rfl ?_
  refine wc_aload_n dX6_init_19 rfl 0 rfl ?_
  refine wc_iconst (nI 0) dX6_init_20 (by decide) ?_
  refine wc_put (ws' := [(h0, .inr (6, [.int (nI 0), .long 0, .long 1, .int (nI 0), .null]))]) 0 pX6_init_21 rfl rfl rfl rfl (Nat.le_of_ble_eq_true rfl) rfl ?_
  refine wc_aload_n dX6_init_24 rfl 0 rfl ?_
  refine wc_bipush (nI 6) dX6_init_25 (by decide) ?_
  refine wc_newa 0 (atype := .int) (ty := .int) (a0 := (6, .inl (fun _ => 0))) (N' := 6) rfl wd_123 rfl (fun _ => rfl) (nI_pos (by decide)) (nI_clamp (by decide)) (by decide) (by decide) (by decide) dX6_init_27 (fun q1 => ?_)
  refine wc_put (ws' := [(h0, .inr (6, [.int (nI 0), .long 0, .long 1, .int (nI 0), .ref q1]))] ++ [(q1, .inl (X.2.2 0, 6, .inl (fun _ => 0)))]) 0 pX6_init_29 rfl rfl rfl rfl (Nat.le_of_ble_eq_true rfl) rfl ?_
  exact wc_ret dX6_init_32 rfl rfl ⟨q1, rfl⟩
def wX7 (X : wc_X) (h0 ta tb : Nat) : va_W := [(h0, .inr (7, [.ref ta, .ref tb, .int (nI 0), .int (nI 0), .int (nI 0)]))]
set_option maxRecDepth 100000 in
set_option maxHeartbeats 4000000 in
theorem ct_X7 {X : wc_X} (h0 ta tb : Nat) : MC X t_X7_init 0 0 [.ref h0, .ref ta, .ref tb] [(h0, .inr (7, [.null, .null, .int 0, .int 0, .int 0]))] (fun w => w = wX7 X h0 ta tb) := by
  refine wc_met (by decide) (Nat.le_of_ble_eq_true rfl) rfl (fun A => ?_)
  show WC X t_X7_init 0 0 A _ 0 [(0, .ref h0), (1, .ref ta), (2, .ref tb)] [] _ 0 0
  refine wc_aload_n dX7_init_0 rfl 0 rfl ?_
  refine wc_obj iX7_init_1 (by decide) (Nat.le_of_ble_eq_true rfl) ?_
  refine wc_aload_n dX7_init_4 rfl 0 rfl ?_
  refine wc_iconst (nI 0) dX7_init_5 (by decide) ?_
  refine wc_put (ws' := [(h0, .inr (7, [.null, .null, .int (nI 0), .int 0, .int 0]))]) 0 pX7_init_6 rfl rfl rfl rfl (Nat.le_of_ble_eq_true rfl) rfl ?_
  refine wc_aload_n dX7_init_9 rfl 0 rfl ?_
  refine wc_iconst (nI 0) dX7_init_10 (by decide) ?_
  refine wc_put (ws' := [(h0, .inr (7, [.null, .null, .int (nI 0), .int (nI 0), .int 0]))]) 0 pX7_init_11 rfl rfl rfl rfl (Nat.le_of_ble_eq_true rfl) rfl ?_
  refine wc_aload_n dX7_init_14 rfl 0 rfl ?_
  refine wc_iconst (nI 0) dX7_init_15 (by decide) ?_
  refine wc_put (ws' := [(h0, .inr (7, [.null, .null, .int (nI 0), .int (nI 0), .int (nI 0)]))]) 0 pX7_init_16 rfl rfl rfl rfl (Nat.le_of_ble_eq_true rfl) rfl ?_
  refine wc_aload_n dX7_init_19 rfl 0 rfl ?_
  refine wc_aload_n dX7_init_20 rfl 1 rfl ?_
  refine wc_put (ws' := [(h0, .inr (7, [.ref ta, .null, .int (nI 0), .int (nI 0), .int (nI 0)]))]) 0 pX7_init_21 rfl rfl rfl rfl (Nat.le_of_ble_eq_true rfl) rfl ?_
  refine wc_aload_n dX7_init_24 rfl 0 rfl ?_
  refine wc_aload_n dX7_init_25 rfl 2 rfl ?_
  refine wc_put (ws' := [(h0, .inr (7, [.ref ta, .ref tb, .int (nI 0), .int (nI 0), .int (nI 0)]))]) 0 pX7_init_26 rfl rfl rfl rfl (Nat.le_of_ble_eq_true rfl) rfl ?_
  exact wc_ret dX7_init_29 rfl rfl rfl
def wX0 (X : wc_X) (h0 ts q1 q2 q3 q4 q5 q6 q7 q8 q9 q10 q11 q12 q13 : Nat) : va_W := [(h0, .inr (0, [.ref q1, .ref q4, .int (nI 0), .ref ts, .ref q5]))] ++ wX5 X 4 3 q1 q2 q3 ++ [(q4, .inl (X.2.2 5, 4, .inr (.inr (.inr (.inr (va_up (va_up (va_up (va_up (fun _ => none) (nI 0).toNatClampNeg (some q6)) (nI 1).toNatClampNeg (some q8)) (nI 2).toNatClampNeg (some q10)) (nI 3).toNatClampNeg (some q12)))))))] ++ [(q5, .inl (X.2.2 0, 6, .inl (fun _ => 0)))] ++ wX3 X q6 q7 ++ wX3 X q8 q9 ++ wX3 X q10 q11 ++ wX3 X q12 q13
set_option maxRecDepth 100000 in
set_option maxHeartbeats 4000000 in
theorem ct_X0 {X : wc_X} (h0 ts : Nat) : MC X t_X0_init 17 293 [.ref h0, .ref ts] [(h0, .inr (0, [.null, .null, .int 0, .null, .null]))] (fun w => ∃ q1 q2 q3 q4 q5 q6 q7 q8 q9 q10 q11 q12 q13 : Nat, w = wX0 X h0 ts q1 q2 q3 q4 q5 q6 q7 q8 q9 q10 q11 q12 q13) := by
  refine wc_met (by decide) (Nat.le_of_ble_eq_true rfl) rfl (fun A => ?_)
  show WC X t_X0_init 17 293 A _ 0 [(0, .ref h0), (1, .ref ts)] [] _ 0 0
  refine wc_aload_n dX0_init_0 rfl 0 rfl ?_
  refine wc_obj iX0_init_1 (by decide) (Nat.le_of_ble_eq_true rfl) ?_
  refine wc_aload_n dX0_init_4 rfl 0 rfl ?_
  refine wc_new nX0_init_5 (by decide) (by decide) (fun q1 => ?_)
  refine wc_dup dX0_init_8 rfl ?_
  refine wc_iconst (nI 4) dX0_init_9 (by decide) ?_
  refine wc_iconst (nI 3) dX0_init_10 (by decide) ?_
  refine wc_init (ct_X5 4 3 q1 (by decide) (by decide) (by decide)) vX5_init iX0_init_11 rfl rfl (Nat.le_of_ble_eq_true rfl) ⟨by decide, by decide⟩ (by decide) (by decide) (fun w1 hw1 => ?_)
  obtain ⟨q2, q3, rfl⟩ := hw1
  refine wc_w (ws' := [(h0, .inr (0, [.null, .null, .int 0, .null, .null]))] ++ wX5 X 4 3 q1 q2 q3) rfl ?_
  refine wc_put (ws' := [(h0, .inr (0, [.ref q1, .null, .int 0, .null, .null]))] ++ wX5 X 4 3 q1 q2 q3) 0 pX0_init_14 rfl rfl rfl rfl (Nat.le_of_ble_eq_true rfl) rfl ?_
  refine wc_aload_n dX0_init_17 rfl 0 rfl ?_
  refine wc_iconst (nI 4) dX0_init_18 (by decide) ?_
  refine wc_newq (N' := 4) qX0_init_19 (nI_pos (by decide)) (nI_clamp (by decide)) (by decide) (by decide) (by decide) dX0_init_19 (fun q4 => ?_)
  refine wc_put (ws' := [(h0, .inr (0, [.ref q1, .ref q4, .int 0, .null, .null]))] ++ wX5 X 4 3 q1 q2 q3 ++ [(q4, .inl (X.2.2 5, 4, .inr (.inr (.inr (.inr (fun _ => none))))))]) 0 pX0_init_22 rfl rfl rfl rfl (Nat.le_of_ble_eq_true rfl) rfl ?_
  refine wc_aload_n dX0_init_25 rfl 0 rfl ?_
  refine wc_iconst (nI 0) dX0_init_26 (by decide) ?_
  refine wc_put (ws' := [(h0, .inr (0, [.ref q1, .ref q4, .int (nI 0), .null, .null]))] ++ wX5 X 4 3 q1 q2 q3 ++ [(q4, .inl (X.2.2 5, 4, .inr (.inr (.inr (.inr (fun _ => none))))))]) 0 pX0_init_27 rfl rfl rfl rfl (Nat.le_of_ble_eq_true rfl) rfl ?_
  refine wc_aload_n dX0_init_30 rfl 0 rfl ?_
  refine wc_bipush (nI 6) dX0_init_31 (by decide) ?_
  refine wc_newa 0 (atype := .int) (ty := .int) (a0 := (6, .inl (fun _ => 0))) (N' := 6) rfl wd_123 rfl (fun _ => rfl) (nI_pos (by decide)) (nI_clamp (by decide)) (by decide) (by decide) (by decide) dX0_init_33 (fun q5 => ?_)
  refine wc_put (ws' := [(h0, .inr (0, [.ref q1, .ref q4, .int (nI 0), .null, .ref q5]))] ++ wX5 X 4 3 q1 q2 q3 ++ [(q4, .inl (X.2.2 5, 4, .inr (.inr (.inr (.inr (fun _ => none))))))] ++ [(q5, .inl (X.2.2 0, 6, .inl (fun _ => 0)))]) 0 pX0_init_35 rfl rfl rfl rfl (Nat.le_of_ble_eq_true rfl) rfl ?_
  refine wc_aload_n dX0_init_38 rfl 0 rfl ?_
  refine wc_aload_n dX0_init_39 rfl 1 rfl ?_
  refine wc_put (ws' := [(h0, .inr (0, [.ref q1, .ref q4, .int (nI 0), .ref ts, .ref q5]))] ++ wX5 X 4 3 q1 q2 q3 ++ [(q4, .inl (X.2.2 5, 4, .inr (.inr (.inr (.inr (fun _ => none))))))] ++ [(q5, .inl (X.2.2 0, 6, .inl (fun _ => 0)))]) 0 pX0_init_40 rfl rfl rfl rfl (Nat.le_of_ble_eq_true rfl) rfl ?_
  refine wc_iconst (nI 0) dX0_init_43 (by decide) ?_
  refine wc_istore_n [(2, .int (nI 0)), (0, .ref h0), (1, .ref ts)] dX0_init_44 rfl (by decide) rfl ?_
  refine wc_iload_n dX0_init_45 rfl 0 rfl ?_
  refine wc_iconst (nI 4) dX0_init_46 (by decide) ?_
  refine wc_icmp_ge 69 dX0_init_47 (by decide) (fun q => absurd q (by decide)) (fun _ => ?_)
  refine wc_aload_n dX0_init_50 rfl 1 rfl ?_
  refine wc_get 0 gX0_init_51 rfl rfl ?_
  refine wc_iload_n dX0_init_54 rfl 0 rfl ?_
  refine wc_new nX0_init_55 (by decide) (by decide) (fun q6 => ?_)
  refine wc_dup dX0_init_58 rfl ?_
  refine wc_initN (ct_X3 q6) vX3_init iX0_init_59 rfl rfl (Nat.le_of_ble_eq_true rfl) ⟨by decide, by decide⟩ (by decide) (by decide) (fun w1 hw1 => ?_)
  obtain ⟨q7, rfl⟩ := hw1
  refine wc_w (ws' := [(h0, .inr (0, [.ref q1, .ref q4, .int (nI 0), .ref ts, .ref q5]))] ++ wX5 X 4 3 q1 q2 q3 ++ [(q4, .inl (X.2.2 5, 4, .inr (.inr (.inr (.inr (fun _ => none))))))] ++ [(q5, .inl (X.2.2 0, 6, .inl (fun _ => 0)))] ++ wX3 X q6 q7) rfl ?_
  refine wc_astq (ci := 3) (ws' := [(h0, .inr (0, [.ref q1, .ref q4, .int (nI 0), .ref ts, .ref q5]))] ++ wX5 X 4 3 q1 q2 q3 ++ [(q4, .inl (X.2.2 5, 4, .inr (.inr (.inr (.inr (va_up (fun _ => none) (nI 0).toNatClampNeg (some q6)))))))] ++ [(q5, .inl (X.2.2 0, 6, .inl (fun _ => 0)))] ++ wX3 X q6 q7) 8 10 rfl rfl (vp_in_nI (by decide) (by decide)) rfl dX0_init_62 ?_
  refine wc_iinc (nI 1) [(2, .int (nI 1)), (0, .ref h0), (1, .ref ts)] dX0_init_63 0 rfl (by decide) (by decide) rfl ?_
  refine wc_goto 45 dX0_init_66 (by decide) ?_
  refine wc_iload_n dX0_init_45 rfl 0 rfl ?_
  refine wc_iconst (nI 4) dX0_init_46 (by decide) ?_
  refine wc_icmp_ge 69 dX0_init_47 (by decide) (fun q => absurd q (by decide)) (fun _ => ?_)
  refine wc_aload_n dX0_init_50 rfl 1 rfl ?_
  refine wc_get 0 gX0_init_51 rfl rfl ?_
  refine wc_iload_n dX0_init_54 rfl 0 rfl ?_
  refine wc_new nX0_init_55 (by decide) (by decide) (fun q8 => ?_)
  refine wc_dup dX0_init_58 rfl ?_
  refine wc_initN (ct_X3 q8) vX3_init iX0_init_59 rfl rfl (Nat.le_of_ble_eq_true rfl) ⟨by decide, by decide⟩ (by decide) (by decide) (fun w1 hw1 => ?_)
  obtain ⟨q9, rfl⟩ := hw1
  refine wc_w (ws' := [(h0, .inr (0, [.ref q1, .ref q4, .int (nI 0), .ref ts, .ref q5]))] ++ wX5 X 4 3 q1 q2 q3 ++ [(q4, .inl (X.2.2 5, 4, .inr (.inr (.inr (.inr (va_up (fun _ => none) (nI 0).toNatClampNeg (some q6)))))))] ++ [(q5, .inl (X.2.2 0, 6, .inl (fun _ => 0)))] ++ wX3 X q6 q7 ++ wX3 X q8 q9) rfl ?_
  refine wc_astq (ci := 3) (ws' := [(h0, .inr (0, [.ref q1, .ref q4, .int (nI 0), .ref ts, .ref q5]))] ++ wX5 X 4 3 q1 q2 q3 ++ [(q4, .inl (X.2.2 5, 4, .inr (.inr (.inr (.inr (va_up (va_up (fun _ => none) (nI 0).toNatClampNeg (some q6)) (nI 1).toNatClampNeg (some q8)))))))] ++ [(q5, .inl (X.2.2 0, 6, .inl (fun _ => 0)))] ++ wX3 X q6 q7 ++ wX3 X q8 q9) 8 12 rfl rfl (vp_in_nI (by decide) (by decide)) rfl dX0_init_62 ?_
  refine wc_iinc (nI 2) [(2, .int (nI 2)), (0, .ref h0), (1, .ref ts)] dX0_init_63 0 rfl (by decide) (by decide) rfl ?_
  refine wc_goto 45 dX0_init_66 (by decide) ?_
  refine wc_iload_n dX0_init_45 rfl 0 rfl ?_
  refine wc_iconst (nI 4) dX0_init_46 (by decide) ?_
  refine wc_icmp_ge 69 dX0_init_47 (by decide) (fun q => absurd q (by decide)) (fun _ => ?_)
  refine wc_aload_n dX0_init_50 rfl 1 rfl ?_
  refine wc_get 0 gX0_init_51 rfl rfl ?_
  refine wc_iload_n dX0_init_54 rfl 0 rfl ?_
  refine wc_new nX0_init_55 (by decide) (by decide) (fun q10 => ?_)
  refine wc_dup dX0_init_58 rfl ?_
  refine wc_initN (ct_X3 q10) vX3_init iX0_init_59 rfl rfl (Nat.le_of_ble_eq_true rfl) ⟨by decide, by decide⟩ (by decide) (by decide) (fun w1 hw1 => ?_)
  obtain ⟨q11, rfl⟩ := hw1
  refine wc_w (ws' := [(h0, .inr (0, [.ref q1, .ref q4, .int (nI 0), .ref ts, .ref q5]))] ++ wX5 X 4 3 q1 q2 q3 ++ [(q4, .inl (X.2.2 5, 4, .inr (.inr (.inr (.inr (va_up (va_up (fun _ => none) (nI 0).toNatClampNeg (some q6)) (nI 1).toNatClampNeg (some q8)))))))] ++ [(q5, .inl (X.2.2 0, 6, .inl (fun _ => 0)))] ++ wX3 X q6 q7 ++ wX3 X q8 q9 ++ wX3 X q10 q11) rfl ?_
  refine wc_astq (ci := 3) (ws' := [(h0, .inr (0, [.ref q1, .ref q4, .int (nI 0), .ref ts, .ref q5]))] ++ wX5 X 4 3 q1 q2 q3 ++ [(q4, .inl (X.2.2 5, 4, .inr (.inr (.inr (.inr (va_up (va_up (va_up (fun _ => none) (nI 0).toNatClampNeg (some q6)) (nI 1).toNatClampNeg (some q8)) (nI 2).toNatClampNeg (some q10)))))))] ++ [(q5, .inl (X.2.2 0, 6, .inl (fun _ => 0)))] ++ wX3 X q6 q7 ++ wX3 X q8 q9 ++ wX3 X q10 q11) 8 14 rfl rfl (vp_in_nI (by decide) (by decide)) rfl dX0_init_62 ?_
  refine wc_iinc (nI 3) [(2, .int (nI 3)), (0, .ref h0), (1, .ref ts)] dX0_init_63 0 rfl (by decide) (by decide) rfl ?_
  refine wc_goto 45 dX0_init_66 (by decide) ?_
  refine wc_iload_n dX0_init_45 rfl 0 rfl ?_
  refine wc_iconst (nI 4) dX0_init_46 (by decide) ?_
  refine wc_icmp_ge 69 dX0_init_47 (by decide) (fun q => absurd q (by decide)) (fun _ => ?_)
  refine wc_aload_n dX0_init_50 rfl 1 rfl ?_
  refine wc_get 0 gX0_init_51 rfl rfl ?_
  refine wc_iload_n dX0_init_54 rfl 0 rfl ?_
  refine wc_new nX0_init_55 (by decide) (by decide) (fun q12 => ?_)
  refine wc_dup dX0_init_58 rfl ?_
  refine wc_initN (ct_X3 q12) vX3_init iX0_init_59 rfl rfl (Nat.le_of_ble_eq_true rfl) ⟨by decide, by decide⟩ (by decide) (by decide) (fun w1 hw1 => ?_)
  obtain ⟨q13, rfl⟩ := hw1
  refine wc_w (ws' := [(h0, .inr (0, [.ref q1, .ref q4, .int (nI 0), .ref ts, .ref q5]))] ++ wX5 X 4 3 q1 q2 q3 ++ [(q4, .inl (X.2.2 5, 4, .inr (.inr (.inr (.inr (va_up (va_up (va_up (fun _ => none) (nI 0).toNatClampNeg (some q6)) (nI 1).toNatClampNeg (some q8)) (nI 2).toNatClampNeg (some q10)))))))] ++ [(q5, .inl (X.2.2 0, 6, .inl (fun _ => 0)))] ++ wX3 X q6 q7 ++ wX3 X q8 q9 ++ wX3 X q10 q11 ++ wX3 X q12 q13) rfl ?_
  refine wc_astq (ci := 3) (ws' := [(h0, .inr (0, [.ref q1, .ref q4, .int (nI 0), .ref ts, .ref q5]))] ++ wX5 X 4 3 q1 q2 q3 ++ [(q4, .inl (X.2.2 5, 4, .inr (.inr (.inr (.inr (va_up (va_up (va_up (va_up (fun _ => none) (nI 0).toNatClampNeg (some q6)) (nI 1).toNatClampNeg (some q8)) (nI 2).toNatClampNeg (some q10)) (nI 3).toNatClampNeg (some q12)))))))] ++ [(q5, .inl (X.2.2 0, 6, .inl (fun _ => 0)))] ++ wX3 X q6 q7 ++ wX3 X q8 q9 ++ wX3 X q10 q11 ++ wX3 X q12 q13) 8 16 rfl rfl (vp_in_nI (by decide) (by decide)) rfl dX0_init_62 ?_
  refine wc_iinc (nI 4) [(2, .int (nI 4)), (0, .ref h0), (1, .ref ts)] dX0_init_63 0 rfl (by decide) (by decide) rfl ?_
  refine wc_goto 45 dX0_init_66 (by decide) ?_
  refine wc_iload_n dX0_init_45 rfl 0 rfl ?_
  refine wc_iconst (nI 4) dX0_init_46 (by decide) ?_
  refine wc_icmp_ge 69 dX0_init_47 (by decide) (fun _ => ?_) (fun q => absurd (by decide) q)
  exact wc_ret dX0_init_69 rfl rfl ⟨q1, q2, q3, q4, q5, q6, q7, q8, q9, q10, q11, q12, q13, rfl⟩
def wX8 (X : wc_X) (h0 ts tb q1 q2 q3 q4 q5 q6 q7 : Nat) : va_W := [(h0, .inr (8, [.int (nI 0), .int (-9), .ref ts, .ref tb, .ref q1, .ref q3, .ref q5, .ref q7]))] ++ wX3 X q1 q2 ++ wX3 X q3 q4 ++ wX3 X q5 q6 ++ [(q7, .inl (X.2.2 0, 6, .inl (fun _ => 0)))]
set_option maxRecDepth 100000 in
set_option maxHeartbeats 4000000 in
theorem ct_X8 {X : wc_X} (h0 ts tb : Nat) : MC X t_X8_init 7 201 [.ref h0, .ref ts, .ref tb] [(h0, .inr (8, [.int 0, .int 0, .null, .null, .null, .null, .null, .null]))] (fun w => ∃ q1 q2 q3 q4 q5 q6 q7 : Nat, w = wX8 X h0 ts tb q1 q2 q3 q4 q5 q6 q7) := by
  refine wc_met (by decide) (Nat.le_of_ble_eq_true rfl) rfl (fun A => ?_)
  show WC X t_X8_init 7 201 A _ 0 [(0, .ref h0), (1, .ref ts), (2, .ref tb)] [] _ 0 0
  refine wc_aload_n dX8_init_0 rfl 0 rfl ?_
  refine wc_obj iX8_init_1 (by decide) (Nat.le_of_ble_eq_true rfl) ?_
  refine wc_aload_n dX8_init_4 rfl 0 rfl ?_
  refine wc_iconst (nI 0) dX8_init_5 (by decide) ?_
  refine wc_put (ws' := [(h0, .inr (8, [.int (nI 0), .int 0, .null, .null, .null, .null, .null, .null]))]) 0 pX8_init_6 rfl rfl rfl rfl (Nat.le_of_ble_eq_true rfl) rfl ?_
  refine wc_aload_n dX8_init_9 rfl 0 rfl ?_
  refine wc_bipush (-9) dX8_init_10 (by decide) ?_
  refine wc_put (ws' := [(h0, .inr (8, [.int (nI 0), .int (-9), .null, .null, .null, .null, .null, .null]))]) 0 pX8_init_12 rfl rfl rfl rfl (Nat.le_of_ble_eq_true rfl) rfl ?_
  refine wc_aload_n dX8_init_15 rfl 0 rfl ?_
  refine wc_new nX8_init_16 (by decide) (by decide) (fun q1 => ?_)
  refine wc_dup dX8_init_19 rfl ?_
  refine wc_initN (ct_X3 q1) vX3_init iX8_init_20 rfl rfl (Nat.le_of_ble_eq_true rfl) ⟨by decide, by decide⟩ (by decide) (by decide) (fun w1 hw1 => ?_)
  obtain ⟨q2, rfl⟩ := hw1
  refine wc_w (ws' := [(h0, .inr (8, [.int (nI 0), .int (-9), .null, .null, .null, .null, .null, .null]))] ++ wX3 X q1 q2) rfl ?_
  refine wc_put (ws' := [(h0, .inr (8, [.int (nI 0), .int (-9), .null, .null, .ref q1, .null, .null, .null]))] ++ wX3 X q1 q2) 0 pX8_init_23 rfl rfl rfl rfl (Nat.le_of_ble_eq_true rfl) rfl ?_
  refine wc_aload_n dX8_init_26 rfl 0 rfl ?_
  refine wc_new nX8_init_27 (by decide) (by decide) (fun q3 => ?_)
  refine wc_dup dX8_init_30 rfl ?_
  refine wc_initN (ct_X3 q3) vX3_init iX8_init_31 rfl rfl (Nat.le_of_ble_eq_true rfl) ⟨by decide, by decide⟩ (by decide) (by decide) (fun w1 hw1 => ?_)
  obtain ⟨q4, rfl⟩ := hw1
  refine wc_w (ws' := [(h0, .inr (8, [.int (nI 0), .int (-9), .null, .null, .ref q1, .null, .null, .null]))] ++ wX3 X q1 q2 ++ wX3 X q3 q4) rfl ?_
  refine wc_put (ws' := [(h0, .inr (8, [.int (nI 0), .int (-9), .null, .null, .ref q1, .ref q3, .null, .null]))] ++ wX3 X q1 q2 ++ wX3 X q3 q4) 0 pX8_init_34 rfl rfl rfl rfl (Nat.le_of_ble_eq_true rfl) rfl ?_
  refine wc_aload_n dX8_init_37 rfl 0 rfl ?_
  refine wc_new nX8_init_38 (by decide) (by decide) (fun q5 => ?_)
  refine wc_dup dX8_init_41 rfl ?_
  refine wc_initN (ct_X3 q5) vX3_init iX8_init_42 rfl rfl (Nat.le_of_ble_eq_true rfl) ⟨by decide, by decide⟩ (by decide) (by decide) (fun w1 hw1 => ?_)
  obtain ⟨q6, rfl⟩ := hw1
  refine wc_w (ws' := [(h0, .inr (8, [.int (nI 0), .int (-9), .null, .null, .ref q1, .ref q3, .null, .null]))] ++ wX3 X q1 q2 ++ wX3 X q3 q4 ++ wX3 X q5 q6) rfl ?_
  refine wc_put (ws' := [(h0, .inr (8, [.int (nI 0), .int (-9), .null, .null, .ref q1, .ref q3, .ref q5, .null]))] ++ wX3 X q1 q2 ++ wX3 X q3 q4 ++ wX3 X q5 q6) 0 pX8_init_45 rfl rfl rfl rfl (Nat.le_of_ble_eq_true rfl) rfl ?_
  refine wc_aload_n dX8_init_48 rfl 0 rfl ?_
  refine wc_bipush (nI 6) dX8_init_49 (by decide) ?_
  refine wc_newa 0 (atype := .int) (ty := .int) (a0 := (6, .inl (fun _ => 0))) (N' := 6) rfl wd_123 rfl (fun _ => rfl) (nI_pos (by decide)) (nI_clamp (by decide)) (by decide) (by decide) (by decide) dX8_init_51 (fun q7 => ?_)
  refine wc_put (ws' := [(h0, .inr (8, [.int (nI 0), .int (-9), .null, .null, .ref q1, .ref q3, .ref q5, .ref q7]))] ++ wX3 X q1 q2 ++ wX3 X q3 q4 ++ wX3 X q5 q6 ++ [(q7, .inl (X.2.2 0, 6, .inl (fun _ => 0)))]) 0 pX8_init_53 rfl rfl rfl rfl (Nat.le_of_ble_eq_true rfl) rfl ?_
  refine wc_aload_n dX8_init_56 rfl 0 rfl ?_
  refine wc_aload_n dX8_init_57 rfl 1 rfl ?_
  refine wc_put (ws' := [(h0, .inr (8, [.int (nI 0), .int (-9), .ref ts, .null, .ref q1, .ref q3, .ref q5, .ref q7]))] ++ wX3 X q1 q2 ++ wX3 X q3 q4 ++ wX3 X q5 q6 ++ [(q7, .inl (X.2.2 0, 6, .inl (fun _ => 0)))]) 0 pX8_init_58 rfl rfl rfl rfl (Nat.le_of_ble_eq_true rfl) rfl ?_
  refine wc_aload_n dX8_init_61 rfl 0 rfl ?_
  refine wc_aload_n dX8_init_62 rfl 2 rfl ?_
  refine wc_put (ws' := [(h0, .inr (8, [.int (nI 0), .int (-9), .ref ts, .ref tb, .ref q1, .ref q3, .ref q5, .ref q7]))] ++ wX3 X q1 q2 ++ wX3 X q3 q4 ++ wX3 X q5 q6 ++ [(q7, .inl (X.2.2 0, 6, .inl (fun _ => 0)))]) 0 pX8_init_63 rfl rfl rfl rfl (Nat.le_of_ble_eq_true rfl) rfl ?_
  exact wc_ret dX8_init_66 rfl rfl ⟨q1, q2, q3, q4, q5, q6, q7, rfl⟩
def wX2 (X : wc_X) (h0 ts q1 q2 q3 q4 q5 q6 : Nat) : va_W := [(h0, .inr (2, [.int (nI 0), .ref ts, .ref q1, .ref q2, .ref q3, .ref q4]))] ++ [(q1, .inl (X.2.2 0, 4, .inl (fun _ => 0)))] ++ [(q2, .inl (X.2.2 0, 4, .inl (fun _ => 0)))] ++ [(q3, .inl (X.2.2 0, 4, .inl (fun _ => 0)))] ++ wX5 X 4 3 q4 q5 q6
set_option maxRecDepth 100000 in
set_option maxHeartbeats 4000000 in
theorem ct_X2 {X : wc_X} (h0 ts : Nat) : MC X t_X2_init 10 35 [.ref h0, .ref ts] [(h0, .inr (2, [.int 0, .null, .null, .null, .null, .null]))] (fun w => ∃ q1 q2 q3 q4 q5 q6 : Nat, w = wX2 X h0 ts q1 q2 q3 q4 q5 q6) := by
  refine wc_met (by decide) (Nat.le_of_ble_eq_true rfl) rfl (fun A => ?_)
  show WC X t_X2_init 10 35 A _ 0 [(0, .ref h0), (1, .ref ts)] [] _ 0 0
  refine wc_aload_n dX2_init_0 rfl 0 rfl ?_
  refine wc_obj iX2_init_1 (by decide) (Nat.le_of_ble_eq_true rfl) ?_
  refine wc_aload_n dX2_init_4 rfl 0 rfl ?_
  refine wc_iconst (nI 0) dX2_init_5 (by decide) ?_
  refine wc_put (ws' := [(h0, .inr (2, [.int (nI 0), .null, .null, .null, .null, .null]))]) 0 pX2_init_6 rfl rfl rfl rfl (Nat.le_of_ble_eq_true rfl) rfl ?_
  refine wc_aload_n dX2_init_9 rfl 0 rfl ?_
  refine wc_iconst (nI 4) dX2_init_10 (by decide) ?_
  refine wc_newa 0 (atype := .int) (ty := .int) (a0 := (4, .inl (fun _ => 0))) (N' := 4) rfl wd_123 rfl (fun _ => rfl) (nI_pos (by decide)) (nI_clamp (by decide)) (by decide) (by decide) (by decide) dX2_init_11 (fun q1 => ?_)
  refine wc_put (ws' := [(h0, .inr (2, [.int (nI 0), .null, .ref q1, .null, .null, .null]))] ++ [(q1, .inl (X.2.2 0, 4, .inl (fun _ => 0)))]) 0 pX2_init_13 rfl rfl rfl rfl (Nat.le_of_ble_eq_true rfl) rfl ?_
  refine wc_aload_n dX2_init_16 rfl 0 rfl ?_
  refine wc_iconst (nI 4) dX2_init_17 (by decide) ?_
  refine wc_newa 0 (atype := .int) (ty := .int) (a0 := (4, .inl (fun _ => 0))) (N' := 4) rfl wd_123 rfl (fun _ => rfl) (nI_pos (by decide)) (nI_clamp (by decide)) (by decide) (by decide) (by decide) dX2_init_18 (fun q2 => ?_)
  refine wc_put (ws' := [(h0, .inr (2, [.int (nI 0), .null, .ref q1, .ref q2, .null, .null]))] ++ [(q1, .inl (X.2.2 0, 4, .inl (fun _ => 0)))] ++ [(q2, .inl (X.2.2 0, 4, .inl (fun _ => 0)))]) 0 pX2_init_20 rfl rfl rfl rfl (Nat.le_of_ble_eq_true rfl) rfl ?_
  refine wc_aload_n dX2_init_23 rfl 0 rfl ?_
  refine wc_iconst (nI 4) dX2_init_24 (by decide) ?_
  refine wc_newa 0 (atype := .int) (ty := .int) (a0 := (4, .inl (fun _ => 0))) (N' := 4) rfl wd_123 rfl (fun _ => rfl) (nI_pos (by decide)) (nI_clamp (by decide)) (by decide) (by decide) (by decide) dX2_init_25 (fun q3 => ?_)
  refine wc_put (ws' := [(h0, .inr (2, [.int (nI 0), .null, .ref q1, .ref q2, .ref q3, .null]))] ++ [(q1, .inl (X.2.2 0, 4, .inl (fun _ => 0)))] ++ [(q2, .inl (X.2.2 0, 4, .inl (fun _ => 0)))] ++ [(q3, .inl (X.2.2 0, 4, .inl (fun _ => 0)))]) 0 pX2_init_27 rfl rfl rfl rfl (Nat.le_of_ble_eq_true rfl) rfl ?_
  refine wc_aload_n dX2_init_30 rfl 0 rfl ?_
  refine wc_new nX2_init_31 (by decide) (by decide) (fun q4 => ?_)
  refine wc_dup dX2_init_34 rfl ?_
  refine wc_iconst (nI 4) dX2_init_35 (by decide) ?_
  refine wc_iconst (nI 3) dX2_init_36 (by decide) ?_
  refine wc_init (ct_X5 4 3 q4 (by decide) (by decide) (by decide)) vX5_init iX2_init_37 rfl rfl (Nat.le_of_ble_eq_true rfl) ⟨by decide, by decide⟩ (by decide) (by decide) (fun w1 hw1 => ?_)
  obtain ⟨q5, q6, rfl⟩ := hw1
  refine wc_w (ws' := [(h0, .inr (2, [.int (nI 0), .null, .ref q1, .ref q2, .ref q3, .null]))] ++ [(q1, .inl (X.2.2 0, 4, .inl (fun _ => 0)))] ++ [(q2, .inl (X.2.2 0, 4, .inl (fun _ => 0)))] ++ [(q3, .inl (X.2.2 0, 4, .inl (fun _ => 0)))] ++ wX5 X 4 3 q4 q5 q6) rfl ?_
  refine wc_put (ws' := [(h0, .inr (2, [.int (nI 0), .null, .ref q1, .ref q2, .ref q3, .ref q4]))] ++ [(q1, .inl (X.2.2 0, 4, .inl (fun _ => 0)))] ++ [(q2, .inl (X.2.2 0, 4, .inl (fun _ => 0)))] ++ [(q3, .inl (X.2.2 0, 4, .inl (fun _ => 0)))] ++ wX5 X 4 3 q4 q5 q6) 0 pX2_init_40 rfl rfl rfl rfl (Nat.le_of_ble_eq_true rfl) rfl ?_
  refine wc_aload_n dX2_init_43 rfl 0 rfl ?_
  refine wc_aload_n dX2_init_44 rfl 1 rfl ?_
  refine wc_put (ws' := [(h0, .inr (2, [.int (nI 0), .ref ts, .ref q1, .ref q2, .ref q3, .ref q4]))] ++ [(q1, .inl (X.2.2 0, 4, .inl (fun _ => 0)))] ++ [(q2, .inl (X.2.2 0, 4, .inl (fun _ => 0)))] ++ [(q3, .inl (X.2.2 0, 4, .inl (fun _ => 0)))] ++ wX5 X 4 3 q4 q5 q6) 0 pX2_init_45 rfl rfl rfl rfl (Nat.le_of_ble_eq_true rfl) rfl ?_
  exact wc_ret dX2_init_48 rfl rfl ⟨q1, q2, q3, q4, q5, q6, rfl⟩
def wX1 (X : wc_X) (h0 ts tr q1 q2 q3 q4 q5 q6 q7 q8 q9 q10 q11 q12 q13 q14 q15 q16 q17 q18 q19 q20 q21 q22 q23 q24 q25 q26 : Nat) : va_W := [(h0, .inr (1, [.ref q1, .ref ts, .ref tr, .ref q2, .ref q4, .ref q5, .ref q6]))] ++ [(q1, .inl (X.2.2 5, 10, .inr (.inr (.inr (.inr (va_up (va_up (va_up (va_up (va_up (va_up (va_up (va_up (va_up (va_up (fun _ => none) (nI 0).toNatClampNeg (some q7)) (nI 1).toNatClampNeg (some q9)) (nI 2).toNatClampNeg (some q11)) (nI 3).toNatClampNeg (some q13)) (nI 4).toNatClampNeg (some q15)) (nI 5).toNatClampNeg (some q17)) (nI 6).toNatClampNeg (some q19)) (nI 7).toNatClampNeg (some q21)) (nI 8).toNatClampNeg (some q23)) (nI 9).toNatClampNeg (some q25)))))))] ++ wX3 X q2 q3 ++ [(q4, .inl (X.2.2 0, 6, .inl (fun _ => 0)))] ++ [(q5, .inl (X.2.2 0, 4096, .inl (fun _ => 0)))] ++ [(q6, .inl (X.2.2 0, 4096, .inl (fun _ => 0)))] ++ wX3 X q7 q8 ++ wX3 X q9 q10 ++ wX3 X q11 q12 ++ wX3 X q13 q14 ++ wX3 X q15 q16 ++ wX3 X q17 q18 ++ wX3 X q19 q20 ++ wX3 X q21 q22 ++ wX3 X q23 q24 ++ wX3 X q25 q26
set_option maxRecDepth 100000 in
set_option maxHeartbeats 4000000 in
theorem ct_X1 {X : wc_X} (h0 ts tr : Nat) : MC X t_X1_init 26 8923 [.ref h0, .ref ts, .ref tr] [(h0, .inr (1, [.null, .null, .null, .null, .null, .null, .null]))] (fun w => ∃ q1 q2 q3 q4 q5 q6 q7 q8 q9 q10 q11 q12 q13 q14 q15 q16 q17 q18 q19 q20 q21 q22 q23 q24 q25 q26 : Nat, w = wX1 X h0 ts tr q1 q2 q3 q4 q5 q6 q7 q8 q9 q10 q11 q12 q13 q14 q15 q16 q17 q18 q19 q20 q21 q22 q23 q24 q25 q26) := by
  refine wc_met (by decide) (Nat.le_of_ble_eq_true rfl) rfl (fun A => ?_)
  show WC X t_X1_init 26 8923 A _ 0 [(0, .ref h0), (1, .ref ts), (2, .ref tr)] [] _ 0 0
  refine wc_aload_n dX1_init_0 rfl 0 rfl ?_
  refine wc_obj iX1_init_1 (by decide) (Nat.le_of_ble_eq_true rfl) ?_
  refine wc_aload_n dX1_init_4 rfl 0 rfl ?_
  refine wc_bipush (nI 10) dX1_init_5 (by decide) ?_
  refine wc_newq (N' := 10) qX1_init_7 (nI_pos (by decide)) (nI_clamp (by decide)) (by decide) (by decide) (by decide) dX1_init_7 (fun q1 => ?_)
  refine wc_put (ws' := [(h0, .inr (1, [.ref q1, .null, .null, .null, .null, .null, .null]))] ++ [(q1, .inl (X.2.2 5, 10, .inr (.inr (.inr (.inr (fun _ => none))))))]) 0 pX1_init_10 rfl rfl rfl rfl (Nat.le_of_ble_eq_true rfl) rfl ?_
  refine wc_aload_n dX1_init_13 rfl 0 rfl ?_
  refine wc_new nX1_init_14 (by decide) (by decide) (fun q2 => ?_)
  refine wc_dup dX1_init_17 rfl ?_
  refine wc_initN (ct_X3 q2) vX3_init iX1_init_18 rfl rfl (Nat.le_of_ble_eq_true rfl) ⟨by decide, by decide⟩ (by decide) (by decide) (fun w1 hw1 => ?_)
  obtain ⟨q3, rfl⟩ := hw1
  refine wc_w (ws' := [(h0, .inr (1, [.ref q1, .null, .null, .null, .null, .null, .null]))] ++ [(q1, .inl (X.2.2 5, 10, .inr (.inr (.inr (.inr (fun _ => none))))))] ++ wX3 X q2 q3) rfl ?_
  refine wc_put (ws' := [(h0, .inr (1, [.ref q1, .null, .null, .ref q2, .null, .null, .null]))] ++ [(q1, .inl (X.2.2 5, 10, .inr (.inr (.inr (.inr (fun _ => none))))))] ++ wX3 X q2 q3) 0 pX1_init_21 rfl rfl rfl rfl (Nat.le_of_ble_eq_true rfl) rfl ?_
  refine wc_aload_n dX1_init_24 rfl 0 rfl ?_
  refine wc_bipush (nI 6) dX1_init_25 (by decide) ?_
  refine wc_newa 0 (atype := .int) (ty := .int) (a0 := (6, .inl (fun _ => 0))) (N' := 6) rfl wd_123 rfl (fun _ => rfl) (nI_pos (by decide)) (nI_clamp (by decide)) (by decide) (by decide) (by decide) dX1_init_27 (fun q4 => ?_)
  refine wc_put (ws' := [(h0, .inr (1, [.ref q1, .null, .null, .ref q2, .ref q4, .null, .null]))] ++ [(q1, .inl (X.2.2 5, 10, .inr (.inr (.inr (.inr (fun _ => none))))))] ++ wX3 X q2 q3 ++ [(q4, .inl (X.2.2 0, 6, .inl (fun _ => 0)))]) 0 pX1_init_29 rfl rfl rfl rfl (Nat.le_of_ble_eq_true rfl) rfl ?_
  refine wc_aload_n dX1_init_32 rfl 0 rfl ?_
  refine wc_sipush (nI 4096) dX1_init_33 (by decide) ?_
  refine wc_newa 0 (atype := .int) (ty := .int) (a0 := (4096, .inl (fun _ => 0))) (N' := 4096) rfl wd_123 rfl (fun _ => rfl) (nI_pos (by decide)) (nI_clamp (by decide)) (by decide) (by decide) (by decide) dX1_init_36 (fun q5 => ?_)
  refine wc_put (ws' := [(h0, .inr (1, [.ref q1, .null, .null, .ref q2, .ref q4, .ref q5, .null]))] ++ [(q1, .inl (X.2.2 5, 10, .inr (.inr (.inr (.inr (fun _ => none))))))] ++ wX3 X q2 q3 ++ [(q4, .inl (X.2.2 0, 6, .inl (fun _ => 0)))] ++ [(q5, .inl (X.2.2 0, 4096, .inl (fun _ => 0)))]) 0 pX1_init_38 rfl rfl rfl rfl (Nat.le_of_ble_eq_true rfl) rfl ?_
  refine wc_aload_n dX1_init_41 rfl 0 rfl ?_
  refine wc_sipush (nI 4096) dX1_init_42 (by decide) ?_
  refine wc_newa 0 (atype := .int) (ty := .int) (a0 := (4096, .inl (fun _ => 0))) (N' := 4096) rfl wd_123 rfl (fun _ => rfl) (nI_pos (by decide)) (nI_clamp (by decide)) (by decide) (by decide) (by decide) dX1_init_45 (fun q6 => ?_)
  refine wc_put (ws' := [(h0, .inr (1, [.ref q1, .null, .null, .ref q2, .ref q4, .ref q5, .ref q6]))] ++ [(q1, .inl (X.2.2 5, 10, .inr (.inr (.inr (.inr (fun _ => none))))))] ++ wX3 X q2 q3 ++ [(q4, .inl (X.2.2 0, 6, .inl (fun _ => 0)))] ++ [(q5, .inl (X.2.2 0, 4096, .inl (fun _ => 0)))] ++ [(q6, .inl (X.2.2 0, 4096, .inl (fun _ => 0)))]) 0 pX1_init_47 rfl rfl rfl rfl (Nat.le_of_ble_eq_true rfl) rfl ?_
  refine wc_aload_n dX1_init_50 rfl 0 rfl ?_
  refine wc_aload_n dX1_init_51 rfl 1 rfl ?_
  refine wc_put (ws' := [(h0, .inr (1, [.ref q1, .ref ts, .null, .ref q2, .ref q4, .ref q5, .ref q6]))] ++ [(q1, .inl (X.2.2 5, 10, .inr (.inr (.inr (.inr (fun _ => none))))))] ++ wX3 X q2 q3 ++ [(q4, .inl (X.2.2 0, 6, .inl (fun _ => 0)))] ++ [(q5, .inl (X.2.2 0, 4096, .inl (fun _ => 0)))] ++ [(q6, .inl (X.2.2 0, 4096, .inl (fun _ => 0)))]) 0 pX1_init_52 rfl rfl rfl rfl (Nat.le_of_ble_eq_true rfl) rfl ?_
  refine wc_aload_n dX1_init_55 rfl 0 rfl ?_
  refine wc_aload_n dX1_init_56 rfl 2 rfl ?_
  refine wc_put (ws' := [(h0, .inr (1, [.ref q1, .ref ts, .ref tr, .ref q2, .ref q4, .ref q5, .ref q6]))] ++ [(q1, .inl (X.2.2 5, 10, .inr (.inr (.inr (.inr (fun _ => none))))))] ++ wX3 X q2 q3 ++ [(q4, .inl (X.2.2 0, 6, .inl (fun _ => 0)))] ++ [(q5, .inl (X.2.2 0, 4096, .inl (fun _ => 0)))] ++ [(q6, .inl (X.2.2 0, 4096, .inl (fun _ => 0)))]) 0 pX1_init_57 rfl rfl rfl rfl (Nat.le_of_ble_eq_true rfl) rfl ?_
  refine wc_iconst (nI 0) dX1_init_60 (by decide) ?_
  refine wc_istore_n [(3, .int (nI 0)), (0, .ref h0), (1, .ref ts), (2, .ref tr)] dX1_init_61 rfl (by decide) rfl ?_
  refine wc_iload_n dX1_init_62 rfl 0 rfl ?_
  refine wc_bipush (nI 9) dX1_init_63 (by decide) ?_
  refine wc_icmp_gt 87 dX1_init_65 (by decide) (fun q => absurd q (by decide)) (fun _ => ?_)
  refine wc_aload_n dX1_init_68 rfl 1 rfl ?_
  refine wc_get 0 gX1_init_69 rfl rfl ?_
  refine wc_iload_n dX1_init_72 rfl 0 rfl ?_
  refine wc_new nX1_init_73 (by decide) (by decide) (fun q7 => ?_)
  refine wc_dup dX1_init_76 rfl ?_
  refine wc_initN (ct_X3 q7) vX3_init iX1_init_77 rfl rfl (Nat.le_of_ble_eq_true rfl) ⟨by decide, by decide⟩ (by decide) (by decide) (fun w1 hw1 => ?_)
  obtain ⟨q8, rfl⟩ := hw1
  refine wc_w (ws' := [(h0, .inr (1, [.ref q1, .ref ts, .ref tr, .ref q2, .ref q4, .ref q5, .ref q6]))] ++ [(q1, .inl (X.2.2 5, 10, .inr (.inr (.inr (.inr (fun _ => none))))))] ++ wX3 X q2 q3 ++ [(q4, .inl (X.2.2 0, 6, .inl (fun _ => 0)))] ++ [(q5, .inl (X.2.2 0, 4096, .inl (fun _ => 0)))] ++ [(q6, .inl (X.2.2 0, 4096, .inl (fun _ => 0)))] ++ wX3 X q7 q8) rfl ?_
  refine wc_astq (ci := 3) (ws' := [(h0, .inr (1, [.ref q1, .ref ts, .ref tr, .ref q2, .ref q4, .ref q5, .ref q6]))] ++ [(q1, .inl (X.2.2 5, 10, .inr (.inr (.inr (.inr (va_up (fun _ => none) (nI 0).toNatClampNeg (some q7)))))))] ++ wX3 X q2 q3 ++ [(q4, .inl (X.2.2 0, 6, .inl (fun _ => 0)))] ++ [(q5, .inl (X.2.2 0, 4096, .inl (fun _ => 0)))] ++ [(q6, .inl (X.2.2 0, 4096, .inl (fun _ => 0)))] ++ wX3 X q7 q8) 1 7 rfl rfl (vp_in_nI (by decide) (by decide)) rfl dX1_init_80 ?_
  refine wc_iinc (nI 1) [(3, .int (nI 1)), (0, .ref h0), (1, .ref ts), (2, .ref tr)] dX1_init_81 0 rfl (by decide) (by decide) rfl ?_
  refine wc_goto 62 dX1_init_84 (by decide) ?_
  refine wc_iload_n dX1_init_62 rfl 0 rfl ?_
  refine wc_bipush (nI 9) dX1_init_63 (by decide) ?_
  refine wc_icmp_gt 87 dX1_init_65 (by decide) (fun q => absurd q (by decide)) (fun _ => ?_)
  refine wc_aload_n dX1_init_68 rfl 1 rfl ?_
  refine wc_get 0 gX1_init_69 rfl rfl ?_
  refine wc_iload_n dX1_init_72 rfl 0 rfl ?_
  refine wc_new nX1_init_73 (by decide) (by decide) (fun q9 => ?_)
  refine wc_dup dX1_init_76 rfl ?_
  refine wc_initN (ct_X3 q9) vX3_init iX1_init_77 rfl rfl (Nat.le_of_ble_eq_true rfl) ⟨by decide, by decide⟩ (by decide) (by decide) (fun w1 hw1 => ?_)
  obtain ⟨q10, rfl⟩ := hw1
  refine wc_w (ws' := [(h0, .inr (1, [.ref q1, .ref ts, .ref tr, .ref q2, .ref q4, .ref q5, .ref q6]))] ++ [(q1, .inl (X.2.2 5, 10, .inr (.inr (.inr (.inr (va_up (fun _ => none) (nI 0).toNatClampNeg (some q7)))))))] ++ wX3 X q2 q3 ++ [(q4, .inl (X.2.2 0, 6, .inl (fun _ => 0)))] ++ [(q5, .inl (X.2.2 0, 4096, .inl (fun _ => 0)))] ++ [(q6, .inl (X.2.2 0, 4096, .inl (fun _ => 0)))] ++ wX3 X q7 q8 ++ wX3 X q9 q10) rfl ?_
  refine wc_astq (ci := 3) (ws' := [(h0, .inr (1, [.ref q1, .ref ts, .ref tr, .ref q2, .ref q4, .ref q5, .ref q6]))] ++ [(q1, .inl (X.2.2 5, 10, .inr (.inr (.inr (.inr (va_up (va_up (fun _ => none) (nI 0).toNatClampNeg (some q7)) (nI 1).toNatClampNeg (some q9)))))))] ++ wX3 X q2 q3 ++ [(q4, .inl (X.2.2 0, 6, .inl (fun _ => 0)))] ++ [(q5, .inl (X.2.2 0, 4096, .inl (fun _ => 0)))] ++ [(q6, .inl (X.2.2 0, 4096, .inl (fun _ => 0)))] ++ wX3 X q7 q8 ++ wX3 X q9 q10) 1 9 rfl rfl (vp_in_nI (by decide) (by decide)) rfl dX1_init_80 ?_
  refine wc_iinc (nI 2) [(3, .int (nI 2)), (0, .ref h0), (1, .ref ts), (2, .ref tr)] dX1_init_81 0 rfl (by decide) (by decide) rfl ?_
  refine wc_goto 62 dX1_init_84 (by decide) ?_
  refine wc_iload_n dX1_init_62 rfl 0 rfl ?_
  refine wc_bipush (nI 9) dX1_init_63 (by decide) ?_
  refine wc_icmp_gt 87 dX1_init_65 (by decide) (fun q => absurd q (by decide)) (fun _ => ?_)
  refine wc_aload_n dX1_init_68 rfl 1 rfl ?_
  refine wc_get 0 gX1_init_69 rfl rfl ?_
  refine wc_iload_n dX1_init_72 rfl 0 rfl ?_
  refine wc_new nX1_init_73 (by decide) (by decide) (fun q11 => ?_)
  refine wc_dup dX1_init_76 rfl ?_
  refine wc_initN (ct_X3 q11) vX3_init iX1_init_77 rfl rfl (Nat.le_of_ble_eq_true rfl) ⟨by decide, by decide⟩ (by decide) (by decide) (fun w1 hw1 => ?_)
  obtain ⟨q12, rfl⟩ := hw1
  refine wc_w (ws' := [(h0, .inr (1, [.ref q1, .ref ts, .ref tr, .ref q2, .ref q4, .ref q5, .ref q6]))] ++ [(q1, .inl (X.2.2 5, 10, .inr (.inr (.inr (.inr (va_up (va_up (fun _ => none) (nI 0).toNatClampNeg (some q7)) (nI 1).toNatClampNeg (some q9)))))))] ++ wX3 X q2 q3 ++ [(q4, .inl (X.2.2 0, 6, .inl (fun _ => 0)))] ++ [(q5, .inl (X.2.2 0, 4096, .inl (fun _ => 0)))] ++ [(q6, .inl (X.2.2 0, 4096, .inl (fun _ => 0)))] ++ wX3 X q7 q8 ++ wX3 X q9 q10 ++ wX3 X q11 q12) rfl ?_
  refine wc_astq (ci := 3) (ws' := [(h0, .inr (1, [.ref q1, .ref ts, .ref tr, .ref q2, .ref q4, .ref q5, .ref q6]))] ++ [(q1, .inl (X.2.2 5, 10, .inr (.inr (.inr (.inr (va_up (va_up (va_up (fun _ => none) (nI 0).toNatClampNeg (some q7)) (nI 1).toNatClampNeg (some q9)) (nI 2).toNatClampNeg (some q11)))))))] ++ wX3 X q2 q3 ++ [(q4, .inl (X.2.2 0, 6, .inl (fun _ => 0)))] ++ [(q5, .inl (X.2.2 0, 4096, .inl (fun _ => 0)))] ++ [(q6, .inl (X.2.2 0, 4096, .inl (fun _ => 0)))] ++ wX3 X q7 q8 ++ wX3 X q9 q10 ++ wX3 X q11 q12) 1 11 rfl rfl (vp_in_nI (by decide) (by decide)) rfl dX1_init_80 ?_
  refine wc_iinc (nI 3) [(3, .int (nI 3)), (0, .ref h0), (1, .ref ts), (2, .ref tr)] dX1_init_81 0 rfl (by decide) (by decide) rfl ?_
  refine wc_goto 62 dX1_init_84 (by decide) ?_
  refine wc_iload_n dX1_init_62 rfl 0 rfl ?_
  refine wc_bipush (nI 9) dX1_init_63 (by decide) ?_
  refine wc_icmp_gt 87 dX1_init_65 (by decide) (fun q => absurd q (by decide)) (fun _ => ?_)
  refine wc_aload_n dX1_init_68 rfl 1 rfl ?_
  refine wc_get 0 gX1_init_69 rfl rfl ?_
  refine wc_iload_n dX1_init_72 rfl 0 rfl ?_
  refine wc_new nX1_init_73 (by decide) (by decide) (fun q13 => ?_)
  refine wc_dup dX1_init_76 rfl ?_
  refine wc_initN (ct_X3 q13) vX3_init iX1_init_77 rfl rfl (Nat.le_of_ble_eq_true rfl) ⟨by decide, by decide⟩ (by decide) (by decide) (fun w1 hw1 => ?_)
  obtain ⟨q14, rfl⟩ := hw1
  refine wc_w (ws' := [(h0, .inr (1, [.ref q1, .ref ts, .ref tr, .ref q2, .ref q4, .ref q5, .ref q6]))] ++ [(q1, .inl (X.2.2 5, 10, .inr (.inr (.inr (.inr (va_up (va_up (va_up (fun _ => none) (nI 0).toNatClampNeg (some q7)) (nI 1).toNatClampNeg (some q9)) (nI 2).toNatClampNeg (some q11)))))))] ++ wX3 X q2 q3 ++ [(q4, .inl (X.2.2 0, 6, .inl (fun _ => 0)))] ++ [(q5, .inl (X.2.2 0, 4096, .inl (fun _ => 0)))] ++ [(q6, .inl (X.2.2 0, 4096, .inl (fun _ => 0)))] ++ wX3 X q7 q8 ++ wX3 X q9 q10 ++ wX3 X q11 q12 ++ wX3 X q13 q14) rfl ?_
  refine wc_astq (ci := 3) (ws' := [(h0, .inr (1, [.ref q1, .ref ts, .ref tr, .ref q2, .ref q4, .ref q5, .ref q6]))] ++ [(q1, .inl (X.2.2 5, 10, .inr (.inr (.inr (.inr (va_up (va_up (va_up (va_up (fun _ => none) (nI 0).toNatClampNeg (some q7)) (nI 1).toNatClampNeg (some q9)) (nI 2).toNatClampNeg (some q11)) (nI 3).toNatClampNeg (some q13)))))))] ++ wX3 X q2 q3 ++ [(q4, .inl (X.2.2 0, 6, .inl (fun _ => 0)))] ++ [(q5, .inl (X.2.2 0, 4096, .inl (fun _ => 0)))] ++ [(q6, .inl (X.2.2 0, 4096, .inl (fun _ => 0)))] ++ wX3 X q7 q8 ++ wX3 X q9 q10 ++ wX3 X q11 q12 ++ wX3 X q13 q14) 1 13 rfl rfl (vp_in_nI (by decide) (by decide)) rfl dX1_init_80 ?_
  refine wc_iinc (nI 4) [(3, .int (nI 4)), (0, .ref h0), (1, .ref ts), (2, .ref tr)] dX1_init_81 0 rfl (by decide) (by decide) rfl ?_
  refine wc_goto 62 dX1_init_84 (by decide) ?_
  refine wc_iload_n dX1_init_62 rfl 0 rfl ?_
  refine wc_bipush (nI 9) dX1_init_63 (by decide) ?_
  refine wc_icmp_gt 87 dX1_init_65 (by decide) (fun q => absurd q (by decide)) (fun _ => ?_)
  refine wc_aload_n dX1_init_68 rfl 1 rfl ?_
  refine wc_get 0 gX1_init_69 rfl rfl ?_
  refine wc_iload_n dX1_init_72 rfl 0 rfl ?_
  refine wc_new nX1_init_73 (by decide) (by decide) (fun q15 => ?_)
  refine wc_dup dX1_init_76 rfl ?_
  refine wc_initN (ct_X3 q15) vX3_init iX1_init_77 rfl rfl (Nat.le_of_ble_eq_true rfl) ⟨by decide, by decide⟩ (by decide) (by decide) (fun w1 hw1 => ?_)
  obtain ⟨q16, rfl⟩ := hw1
  refine wc_w (ws' := [(h0, .inr (1, [.ref q1, .ref ts, .ref tr, .ref q2, .ref q4, .ref q5, .ref q6]))] ++ [(q1, .inl (X.2.2 5, 10, .inr (.inr (.inr (.inr (va_up (va_up (va_up (va_up (fun _ => none) (nI 0).toNatClampNeg (some q7)) (nI 1).toNatClampNeg (some q9)) (nI 2).toNatClampNeg (some q11)) (nI 3).toNatClampNeg (some q13)))))))] ++ wX3 X q2 q3 ++ [(q4, .inl (X.2.2 0, 6, .inl (fun _ => 0)))] ++ [(q5, .inl (X.2.2 0, 4096, .inl (fun _ => 0)))] ++ [(q6, .inl (X.2.2 0, 4096, .inl (fun _ => 0)))] ++ wX3 X q7 q8 ++ wX3 X q9 q10 ++ wX3 X q11 q12 ++ wX3 X q13 q14 ++ wX3 X q15 q16) rfl ?_
  refine wc_astq (ci := 3) (ws' := [(h0, .inr (1, [.ref q1, .ref ts, .ref tr, .ref q2, .ref q4, .ref q5, .ref q6]))] ++ [(q1, .inl (X.2.2 5, 10, .inr (.inr (.inr (.inr (va_up (va_up (va_up (va_up (va_up (fun _ => none) (nI 0).toNatClampNeg (some q7)) (nI 1).toNatClampNeg (some q9)) (nI 2).toNatClampNeg (some q11)) (nI 3).toNatClampNeg (some q13)) (nI 4).toNatClampNeg (some q15)))))))] ++ wX3 X q2 q3 ++ [(q4, .inl (X.2.2 0, 6, .inl (fun _ => 0)))] ++ [(q5, .inl (X.2.2 0, 4096, .inl (fun _ => 0)))] ++ [(q6, .inl (X.2.2 0, 4096, .inl (fun _ => 0)))] ++ wX3 X q7 q8 ++ wX3 X q9 q10 ++ wX3 X q11 q12 ++ wX3 X q13 q14 ++ wX3 X q15 q16) 1 15 rfl rfl (vp_in_nI (by decide) (by decide)) rfl dX1_init_80 ?_
  refine wc_iinc (nI 5) [(3, .int (nI 5)), (0, .ref h0), (1, .ref ts), (2, .ref tr)] dX1_init_81 0 rfl (by decide) (by decide) rfl ?_
  refine wc_goto 62 dX1_init_84 (by decide) ?_
  refine wc_iload_n dX1_init_62 rfl 0 rfl ?_
  refine wc_bipush (nI 9) dX1_init_63 (by decide) ?_
  refine wc_icmp_gt 87 dX1_init_65 (by decide) (fun q => absurd q (by decide)) (fun _ => ?_)
  refine wc_aload_n dX1_init_68 rfl 1 rfl ?_
  refine wc_get 0 gX1_init_69 rfl rfl ?_
  refine wc_iload_n dX1_init_72 rfl 0 rfl ?_
  refine wc_new nX1_init_73 (by decide) (by decide) (fun q17 => ?_)
  refine wc_dup dX1_init_76 rfl ?_
  refine wc_initN (ct_X3 q17) vX3_init iX1_init_77 rfl rfl (Nat.le_of_ble_eq_true rfl) ⟨by decide, by decide⟩ (by decide) (by decide) (fun w1 hw1 => ?_)
  obtain ⟨q18, rfl⟩ := hw1
  refine wc_w (ws' := [(h0, .inr (1, [.ref q1, .ref ts, .ref tr, .ref q2, .ref q4, .ref q5, .ref q6]))] ++ [(q1, .inl (X.2.2 5, 10, .inr (.inr (.inr (.inr (va_up (va_up (va_up (va_up (va_up (fun _ => none) (nI 0).toNatClampNeg (some q7)) (nI 1).toNatClampNeg (some q9)) (nI 2).toNatClampNeg (some q11)) (nI 3).toNatClampNeg (some q13)) (nI 4).toNatClampNeg (some q15)))))))] ++ wX3 X q2 q3 ++ [(q4, .inl (X.2.2 0, 6, .inl (fun _ => 0)))] ++ [(q5, .inl (X.2.2 0, 4096, .inl (fun _ => 0)))] ++ [(q6, .inl (X.2.2 0, 4096, .inl (fun _ => 0)))] ++ wX3 X q7 q8 ++ wX3 X q9 q10 ++ wX3 X q11 q12 ++ wX3 X q13 q14 ++ wX3 X q15 q16 ++ wX3 X q17 q18) rfl ?_
  refine wc_astq (ci := 3) (ws' := [(h0, .inr (1, [.ref q1, .ref ts, .ref tr, .ref q2, .ref q4, .ref q5, .ref q6]))] ++ [(q1, .inl (X.2.2 5, 10, .inr (.inr (.inr (.inr (va_up (va_up (va_up (va_up (va_up (va_up (fun _ => none) (nI 0).toNatClampNeg (some q7)) (nI 1).toNatClampNeg (some q9)) (nI 2).toNatClampNeg (some q11)) (nI 3).toNatClampNeg (some q13)) (nI 4).toNatClampNeg (some q15)) (nI 5).toNatClampNeg (some q17)))))))] ++ wX3 X q2 q3 ++ [(q4, .inl (X.2.2 0, 6, .inl (fun _ => 0)))] ++ [(q5, .inl (X.2.2 0, 4096, .inl (fun _ => 0)))] ++ [(q6, .inl (X.2.2 0, 4096, .inl (fun _ => 0)))] ++ wX3 X q7 q8 ++ wX3 X q9 q10 ++ wX3 X q11 q12 ++ wX3 X q13 q14 ++ wX3 X q15 q16 ++ wX3 X q17 q18) 1 17 rfl rfl (vp_in_nI (by decide) (by decide)) rfl dX1_init_80 ?_
  refine wc_iinc (nI 6) [(3, .int (nI 6)), (0, .ref h0), (1, .ref ts), (2, .ref tr)] dX1_init_81 0 rfl (by decide) (by decide) rfl ?_
  refine wc_goto 62 dX1_init_84 (by decide) ?_
  refine wc_iload_n dX1_init_62 rfl 0 rfl ?_
  refine wc_bipush (nI 9) dX1_init_63 (by decide) ?_
  refine wc_icmp_gt 87 dX1_init_65 (by decide) (fun q => absurd q (by decide)) (fun _ => ?_)
  refine wc_aload_n dX1_init_68 rfl 1 rfl ?_
  refine wc_get 0 gX1_init_69 rfl rfl ?_
  refine wc_iload_n dX1_init_72 rfl 0 rfl ?_
  refine wc_new nX1_init_73 (by decide) (by decide) (fun q19 => ?_)
  refine wc_dup dX1_init_76 rfl ?_
  refine wc_initN (ct_X3 q19) vX3_init iX1_init_77 rfl rfl (Nat.le_of_ble_eq_true rfl) ⟨by decide, by decide⟩ (by decide) (by decide) (fun w1 hw1 => ?_)
  obtain ⟨q20, rfl⟩ := hw1
  refine wc_w (ws' := [(h0, .inr (1, [.ref q1, .ref ts, .ref tr, .ref q2, .ref q4, .ref q5, .ref q6]))] ++ [(q1, .inl (X.2.2 5, 10, .inr (.inr (.inr (.inr (va_up (va_up (va_up (va_up (va_up (va_up (fun _ => none) (nI 0).toNatClampNeg (some q7)) (nI 1).toNatClampNeg (some q9)) (nI 2).toNatClampNeg (some q11)) (nI 3).toNatClampNeg (some q13)) (nI 4).toNatClampNeg (some q15)) (nI 5).toNatClampNeg (some q17)))))))] ++ wX3 X q2 q3 ++ [(q4, .inl (X.2.2 0, 6, .inl (fun _ => 0)))] ++ [(q5, .inl (X.2.2 0, 4096, .inl (fun _ => 0)))] ++ [(q6, .inl (X.2.2 0, 4096, .inl (fun _ => 0)))] ++ wX3 X q7 q8 ++ wX3 X q9 q10 ++ wX3 X q11 q12 ++ wX3 X q13 q14 ++ wX3 X q15 q16 ++ wX3 X q17 q18 ++ wX3 X q19 q20) rfl ?_
  refine wc_astq (ci := 3) (ws' := [(h0, .inr (1, [.ref q1, .ref ts, .ref tr, .ref q2, .ref q4, .ref q5, .ref q6]))] ++ [(q1, .inl (X.2.2 5, 10, .inr (.inr (.inr (.inr (va_up (va_up (va_up (va_up (va_up (va_up (va_up (fun _ => none) (nI 0).toNatClampNeg (some q7)) (nI 1).toNatClampNeg (some q9)) (nI 2).toNatClampNeg (some q11)) (nI 3).toNatClampNeg (some q13)) (nI 4).toNatClampNeg (some q15)) (nI 5).toNatClampNeg (some q17)) (nI 6).toNatClampNeg (some q19)))))))] ++ wX3 X q2 q3 ++ [(q4, .inl (X.2.2 0, 6, .inl (fun _ => 0)))] ++ [(q5, .inl (X.2.2 0, 4096, .inl (fun _ => 0)))] ++ [(q6, .inl (X.2.2 0, 4096, .inl (fun _ => 0)))] ++ wX3 X q7 q8 ++ wX3 X q9 q10 ++ wX3 X q11 q12 ++ wX3 X q13 q14 ++ wX3 X q15 q16 ++ wX3 X q17 q18 ++ wX3 X q19 q20) 1 19 rfl rfl (vp_in_nI (by decide) (by decide)) rfl dX1_init_80 ?_
  refine wc_iinc (nI 7) [(3, .int (nI 7)), (0, .ref h0), (1, .ref ts), (2, .ref tr)] dX1_init_81 0 rfl (by decide) (by decide) rfl ?_
  refine wc_goto 62 dX1_init_84 (by decide) ?_
  refine wc_iload_n dX1_init_62 rfl 0 rfl ?_
  refine wc_bipush (nI 9) dX1_init_63 (by decide) ?_
  refine wc_icmp_gt 87 dX1_init_65 (by decide) (fun q => absurd q (by decide)) (fun _ => ?_)
  refine wc_aload_n dX1_init_68 rfl 1 rfl ?_
  refine wc_get 0 gX1_init_69 rfl rfl ?_
  refine wc_iload_n dX1_init_72 rfl 0 rfl ?_
  refine wc_new nX1_init_73 (by decide) (by decide) (fun q21 => ?_)
  refine wc_dup dX1_init_76 rfl ?_
  refine wc_initN (ct_X3 q21) vX3_init iX1_init_77 rfl rfl (Nat.le_of_ble_eq_true rfl) ⟨by decide, by decide⟩ (by decide) (by decide) (fun w1 hw1 => ?_)
  obtain ⟨q22, rfl⟩ := hw1
  refine wc_w (ws' := [(h0, .inr (1, [.ref q1, .ref ts, .ref tr, .ref q2, .ref q4, .ref q5, .ref q6]))] ++ [(q1, .inl (X.2.2 5, 10, .inr (.inr (.inr (.inr (va_up (va_up (va_up (va_up (va_up (va_up (va_up (fun _ => none) (nI 0).toNatClampNeg (some q7)) (nI 1).toNatClampNeg (some q9)) (nI 2).toNatClampNeg (some q11)) (nI 3).toNatClampNeg (some q13)) (nI 4).toNatClampNeg (some q15)) (nI 5).toNatClampNeg (some q17)) (nI 6).toNatClampNeg (some q19)))))))] ++ wX3 X q2 q3 ++ [(q4, .inl (X.2.2 0, 6, .inl (fun _ => 0)))] ++ [(q5, .inl (X.2.2 0, 4096, .inl (fun _ => 0)))] ++ [(q6, .inl (X.2.2 0, 4096, .inl (fun _ => 0)))] ++ wX3 X q7 q8 ++ wX3 X q9 q10 ++ wX3 X q11 q12 ++ wX3 X q13 q14 ++ wX3 X q15 q16 ++ wX3 X q17 q18 ++ wX3 X q19 q20 ++ wX3 X q21 q22) rfl ?_
  refine wc_astq (ci := 3) (ws' := [(h0, .inr (1, [.ref q1, .ref ts, .ref tr, .ref q2, .ref q4, .ref q5, .ref q6]))] ++ [(q1, .inl (X.2.2 5, 10, .inr (.inr (.inr (.inr (va_up (va_up (va_up (va_up (va_up (va_up (va_up (va_up (fun _ => none) (nI 0).toNatClampNeg (some q7)) (nI 1).toNatClampNeg (some q9)) (nI 2).toNatClampNeg (some q11)) (nI 3).toNatClampNeg (some q13)) (nI 4).toNatClampNeg (some q15)) (nI 5).toNatClampNeg (some q17)) (nI 6).toNatClampNeg (some q19)) (nI 7).toNatClampNeg (some q21)))))))] ++ wX3 X q2 q3 ++ [(q4, .inl (X.2.2 0, 6, .inl (fun _ => 0)))] ++ [(q5, .inl (X.2.2 0, 4096, .inl (fun _ => 0)))] ++ [(q6, .inl (X.2.2 0, 4096, .inl (fun _ => 0)))] ++ wX3 X q7 q8 ++ wX3 X q9 q10 ++ wX3 X q11 q12 ++ wX3 X q13 q14 ++ wX3 X q15 q16 ++ wX3 X q17 q18 ++ wX3 X q19 q20 ++ wX3 X q21 q22) 1 21 rfl rfl (vp_in_nI (by decide) (by decide)) rfl dX1_init_80 ?_
  refine wc_iinc (nI 8) [(3, .int (nI 8)), (0, .ref h0), (1, .ref ts), (2, .ref tr)] dX1_init_81 0 rfl (by decide) (by decide) rfl ?_
  refine wc_goto 62 dX1_init_84 (by decide) ?_
  refine wc_iload_n dX1_init_62 rfl 0 rfl ?_
  refine wc_bipush (nI 9) dX1_init_63 (by decide) ?_
  refine wc_icmp_gt 87 dX1_init_65 (by decide) (fun q => absurd q (by decide)) (fun _ => ?_)
  refine wc_aload_n dX1_init_68 rfl 1 rfl ?_
  refine wc_get 0 gX1_init_69 rfl rfl ?_
  refine wc_iload_n dX1_init_72 rfl 0 rfl ?_
  refine wc_new nX1_init_73 (by decide) (by decide) (fun q23 => ?_)
  refine wc_dup dX1_init_76 rfl ?_
  refine wc_initN (ct_X3 q23) vX3_init iX1_init_77 rfl rfl (Nat.le_of_ble_eq_true rfl) ⟨by decide, by decide⟩ (by decide) (by decide) (fun w1 hw1 => ?_)
  obtain ⟨q24, rfl⟩ := hw1
  refine wc_w (ws' := [(h0, .inr (1, [.ref q1, .ref ts, .ref tr, .ref q2, .ref q4, .ref q5, .ref q6]))] ++ [(q1, .inl (X.2.2 5, 10, .inr (.inr (.inr (.inr (va_up (va_up (va_up (va_up (va_up (va_up (va_up (va_up (fun _ => none) (nI 0).toNatClampNeg (some q7)) (nI 1).toNatClampNeg (some q9)) (nI 2).toNatClampNeg (some q11)) (nI 3).toNatClampNeg (some q13)) (nI 4).toNatClampNeg (some q15)) (nI 5).toNatClampNeg (some q17)) (nI 6).toNatClampNeg (some q19)) (nI 7).toNatClampNeg (some q21)))))))] ++ wX3 X q2 q3 ++ [(q4, .inl (X.2.2 0, 6, .inl (fun _ => 0)))] ++ [(q5, .inl (X.2.2 0, 4096, .inl (fun _ => 0)))] ++ [(q6, .inl (X.2.2 0, 4096, .inl (fun _ => 0)))] ++ wX3 X q7 q8 ++ wX3 X q9 q10 ++ wX3 X q11 q12 ++ wX3 X q13 q14 ++ wX3 X q15 q16 ++ wX3 X q17 q18 ++ wX3 X q19 q20 ++ wX3 X q21 q22 ++ wX3 X q23 q24) rfl ?_
  refine wc_astq (ci := 3) (ws' := [(h0, .inr (1, [.ref q1, .ref ts, .ref tr, .ref q2, .ref q4, .ref q5, .ref q6]))] ++ [(q1, .inl (X.2.2 5, 10, .inr (.inr (.inr (.inr (va_up (va_up (va_up (va_up (va_up (va_up (va_up (va_up (va_up (fun _ => none) (nI 0).toNatClampNeg (some q7)) (nI 1).toNatClampNeg (some q9)) (nI 2).toNatClampNeg (some q11)) (nI 3).toNatClampNeg (some q13)) (nI 4).toNatClampNeg (some q15)) (nI 5).toNatClampNeg (some q17)) (nI 6).toNatClampNeg (some q19)) (nI 7).toNatClampNeg (some q21)) (nI 8).toNatClampNeg (some q23)))))))] ++ wX3 X q2 q3 ++ [(q4, .inl (X.2.2 0, 6, .inl (fun _ => 0)))] ++ [(q5, .inl (X.2.2 0, 4096, .inl (fun _ => 0)))] ++ [(q6, .inl (X.2.2 0, 4096, .inl (fun _ => 0)))] ++ wX3 X q7 q8 ++ wX3 X q9 q10 ++ wX3 X q11 q12 ++ wX3 X q13 q14 ++ wX3 X q15 q16 ++ wX3 X q17 q18 ++ wX3 X q19 q20 ++ wX3 X q21 q22 ++ wX3 X q23 q24) 1 23 rfl rfl (vp_in_nI (by decide) (by decide)) rfl dX1_init_80 ?_
  refine wc_iinc (nI 9) [(3, .int (nI 9)), (0, .ref h0), (1, .ref ts), (2, .ref tr)] dX1_init_81 0 rfl (by decide) (by decide) rfl ?_
  refine wc_goto 62 dX1_init_84 (by decide) ?_
  refine wc_iload_n dX1_init_62 rfl 0 rfl ?_
  refine wc_bipush (nI 9) dX1_init_63 (by decide) ?_
  refine wc_icmp_gt 87 dX1_init_65 (by decide) (fun q => absurd q (by decide)) (fun _ => ?_)
  refine wc_aload_n dX1_init_68 rfl 1 rfl ?_
  refine wc_get 0 gX1_init_69 rfl rfl ?_
  refine wc_iload_n dX1_init_72 rfl 0 rfl ?_
  refine wc_new nX1_init_73 (by decide) (by decide) (fun q25 => ?_)
  refine wc_dup dX1_init_76 rfl ?_
  refine wc_initN (ct_X3 q25) vX3_init iX1_init_77 rfl rfl (Nat.le_of_ble_eq_true rfl) ⟨by decide, by decide⟩ (by decide) (by decide) (fun w1 hw1 => ?_)
  obtain ⟨q26, rfl⟩ := hw1
  refine wc_w (ws' := [(h0, .inr (1, [.ref q1, .ref ts, .ref tr, .ref q2, .ref q4, .ref q5, .ref q6]))] ++ [(q1, .inl (X.2.2 5, 10, .inr (.inr (.inr (.inr (va_up (va_up (va_up (va_up (va_up (va_up (va_up (va_up (va_up (fun _ => none) (nI 0).toNatClampNeg (some q7)) (nI 1).toNatClampNeg (some q9)) (nI 2).toNatClampNeg (some q11)) (nI 3).toNatClampNeg (some q13)) (nI 4).toNatClampNeg (some q15)) (nI 5).toNatClampNeg (some q17)) (nI 6).toNatClampNeg (some q19)) (nI 7).toNatClampNeg (some q21)) (nI 8).toNatClampNeg (some q23)))))))] ++ wX3 X q2 q3 ++ [(q4, .inl (X.2.2 0, 6, .inl (fun _ => 0)))] ++ [(q5, .inl (X.2.2 0, 4096, .inl (fun _ => 0)))] ++ [(q6, .inl (X.2.2 0, 4096, .inl (fun _ => 0)))] ++ wX3 X q7 q8 ++ wX3 X q9 q10 ++ wX3 X q11 q12 ++ wX3 X q13 q14 ++ wX3 X q15 q16 ++ wX3 X q17 q18 ++ wX3 X q19 q20 ++ wX3 X q21 q22 ++ wX3 X q23 q24 ++ wX3 X q25 q26) rfl ?_
  refine wc_astq (ci := 3) (ws' := [(h0, .inr (1, [.ref q1, .ref ts, .ref tr, .ref q2, .ref q4, .ref q5, .ref q6]))] ++ [(q1, .inl (X.2.2 5, 10, .inr (.inr (.inr (.inr (va_up (va_up (va_up (va_up (va_up (va_up (va_up (va_up (va_up (va_up (fun _ => none) (nI 0).toNatClampNeg (some q7)) (nI 1).toNatClampNeg (some q9)) (nI 2).toNatClampNeg (some q11)) (nI 3).toNatClampNeg (some q13)) (nI 4).toNatClampNeg (some q15)) (nI 5).toNatClampNeg (some q17)) (nI 6).toNatClampNeg (some q19)) (nI 7).toNatClampNeg (some q21)) (nI 8).toNatClampNeg (some q23)) (nI 9).toNatClampNeg (some q25)))))))] ++ wX3 X q2 q3 ++ [(q4, .inl (X.2.2 0, 6, .inl (fun _ => 0)))] ++ [(q5, .inl (X.2.2 0, 4096, .inl (fun _ => 0)))] ++ [(q6, .inl (X.2.2 0, 4096, .inl (fun _ => 0)))] ++ wX3 X q7 q8 ++ wX3 X q9 q10 ++ wX3 X q11 q12 ++ wX3 X q13 q14 ++ wX3 X q15 q16 ++ wX3 X q17 q18 ++ wX3 X q19 q20 ++ wX3 X q21 q22 ++ wX3 X q23 q24 ++ wX3 X q25 q26) 1 25 rfl rfl (vp_in_nI (by decide) (by decide)) rfl dX1_init_80 ?_
  refine wc_iinc (nI 10) [(3, .int (nI 10)), (0, .ref h0), (1, .ref ts), (2, .ref tr)] dX1_init_81 0 rfl (by decide) (by decide) rfl ?_
  refine wc_goto 62 dX1_init_84 (by decide) ?_
  refine wc_iload_n dX1_init_62 rfl 0 rfl ?_
  refine wc_bipush (nI 9) dX1_init_63 (by decide) ?_
  refine wc_icmp_gt 87 dX1_init_65 (by decide) (fun _ => ?_) (fun q => absurd (by decide) q)
  exact wc_ret dX1_init_87 rfl rfl ⟨q1, q2, q3, q4, q5, q6, q7, q8, q9, q10, q11, q12, q13, q14, q15, q16, q17, q18, q19, q20, q21, q22, q23, q24, q25, q26, rfl⟩
