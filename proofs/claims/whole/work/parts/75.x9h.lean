theorem m_unlikeW {G : wm_G} {M : wm_M} (k sb : Nat) (hk : k < 6) (hsb : sb < 16) (hwn : ∀ i, i < 4 → M.1 19 (4 * k + i) = -1 ∨ (M.1 19 (4 * k + i) = nI (M.1 19 (4 * k + i)).toNatClampNeg ∧ (M.1 19 (4 * k + i)).toNatClampNeg < 8)) : MD G t_X4_unlikeWords [wm_r G (17), .int (nI (k)), .int (nI (sb))] (M) (some (.int (nI (pcN (sSeen (fun side => decide (nI sb >>> (nI side &&& 31) &&& 1 = 1) && !decide (M.1 19 (4 * k + side) = -1)) (fun side => (M.1 19 (4 * k + side)).toNatClampNeg) 4))))) (M) := by
  refine wm_met (by decide) (Nat.le_of_ble_eq_true rfl) ?_
  show WA G t_X4_unlikeWords (fun v_ N_ => v_ = some (.int (nI (pcN (sSeen (fun side => decide (nI sb >>> (nI side &&& 31) &&& 1 = 1) && !decide (M.1 19 (4 * k + side) = -1)) (fun side => (M.1 19 (4 * k + side)).toNatClampNeg) 4)))) ∧ N_ = M) 0 [(0, wm_r G (17)), (1, .int (nI (k))), (2, .int (nI (sb)))] [] (M)
  refine wa_iconst (0) dX4_unlikeWords_0 (by decide) ?_
  refine wa_istore_n [(3, .int (0)), (0, wm_r G (17)), (1, .int (nI (k))), (2, .int (nI (sb)))] dX4_unlikeWords_1 rfl (by decide) rfl ?_
  refine wa_iconst (0) dX4_unlikeWords_2 (by decide) ?_
  refine wa_istore [(4, .int (0)), (3, .int (0)), (0, wm_r G (17)), (1, .int (nI (k))), (2, .int (nI (sb)))] dX4_unlikeWords_3 (by decide) rfl ?_
  have L_5 : ∀ (n_ : Nat) (side acc : Nat), (4 - side) < n_ → (side ≤ 4) → (acc = sSeen (fun side => decide (nI sb >>> (nI side &&& 31) &&& 1 = 1) && !decide (M.1 19 (4 * k + side) = -1)) (fun side => (M.1 19 (4 * k + side)).toNatClampNeg) side) → WA G t_X4_unlikeWords (fun v_ N_ => v_ = some (.int (nI (pcN (sSeen (fun side => decide (nI sb >>> (nI side &&& 31) &&& 1 = 1) && !decide (M.1 19 (4 * k + side) = -1)) (fun side => (M.1 19 (4 * k + side)).toNatClampNeg) 4)))) ∧ N_ = M) 5 [(4, .int (nI (side))), (3, .int (nI (acc))), (0, wm_r G (17)), (1, .int (nI (k))), (2, .int (nI (sb)))] [] (M) := by
    intro n_
    induction n_ with
    | zero => intro side acc h_; exact absurd h_ (Nat.not_lt_zero _)
    | succ n_ ih_5 =>
      intro side acc h_ hsd ha
      refine wa_iload dX4_unlikeWords_5 0 rfl ?_
      refine wa_iconst (4) dX4_unlikeWords_7 (by decide) ?_
      refine wa_icmp_geN (a := side) (b := 4) 53 dX4_unlikeWords_8 (by decide) (by omega) (by omega) (fun c_8 => ?_) (fun c_8 => ?_)
      · refine wa_iload_n dX4_unlikeWords_53 rfl 1 rfl ?_
        refine wa_cSi (m_bitCountI acc (by rw [ha]; exact sSeen_lt (fun i hi hp => by rcases hwn i (by omega) with q | q; simp [q] at hp; exact q.2))) vJ6_bitCount_0f7a4 iX4_unlikeWords_54 rfl rfl (Nat.le_of_ble_eq_true rfl) ⟨by decide, by decide⟩ ?_
        exact wa_iret dX4_unlikeWords_57 rfl ⟨congrArg (fun z => some (Value.int z)) (by rw [ha, show side = 4 by omega]), rfl⟩
      · refine wa_aload_n dX4_unlikeWords_11 rfl 2 rfl ?_
        refine wa_getr gX4_unlikeWords_12 (rfl) rfl ?_
        refine wa_iconst (4) dX4_unlikeWords_15 (by decide) ?_
        refine wa_iload_n dX4_unlikeWords_16 rfl 3 rfl ?_
        refine wa_imulN (a := 4) (b := k) dX4_unlikeWords_17 ?_
        refine wa_iload dX4_unlikeWords_18 0 rfl ?_
        refine wa_iaddN (a := 4 * k) (b := side) dX4_unlikeWords_20 ?_
        refine wa_ialdN (e := 4 * k + side) dX4_unlikeWords_21 (rfl) (by omega) (by decide) ?_
        refine wa_topi (fun word e_word => ?_)
        refine wa_istore [(5, .int (word)), (4, .int (nI (side))), (3, .int (nI (acc))), (0, wm_r G (17)), (1, .int (nI (k))), (2, .int (nI (sb)))] dX4_unlikeWords_22 (by decide) rfl ?_
        refine wa_iload_n dX4_unlikeWords_24 rfl 5 rfl ?_
        refine wa_iload dX4_unlikeWords_25 1 rfl ?_
        refine wa_ishr dX4_unlikeWords_27 ?_
        refine wa_iconst (1) dX4_unlikeWords_28 (by decide) ?_
        refine wa_iand dX4_unlikeWords_29 ?_
        refine wa_iconst (1) dX4_unlikeWords_30 (by decide) ?_
        refine wa_icmp_ne 47 dX4_unlikeWords_31 (by decide) (fun c_31 => ?_) (fun c_31 => ?_)
        · have hac : acc = sSeen (fun side => decide (nI sb >>> (nI side &&& 31) &&& 1 = 1) && !decide (M.1 19 (4 * k + side) = -1)) (fun side => (M.1 19 (4 * k + side)).toNatClampNeg) (side + 1) := ha.trans (sSeen_f (by show (decide _ && _) = false; rw [decide_eq_false c_31]; rfl)).symm
          refine wa_iinc ((nI (side + 1))) [(4, .int (nI (side + 1))), (5, .int (word)), (3, .int (nI (acc))), (0, wm_r G (17)), (1, .int (nI (k))), (2, .int (nI (sb)))] dX4_unlikeWords_47 1 rfl (nI_inc _) (by decide) rfl ?_
          refine wa_goto 5 dX4_unlikeWords_50 (by decide) ?_
          refine wa_sub [0, 2, 3, 4, 5] rfl ?_
          exact ih_5 (side + 1) _ (by omega) (by omega) hac
        · refine wa_iload dX4_unlikeWords_34 0 rfl ?_
          refine wa_iconst (-1) dX4_unlikeWords_36 (by decide) ?_
          refine wa_icmp_eq 47 dX4_unlikeWords_37 (by decide) (fun c_37 => ?_) (fun c_37 => ?_)
          · have hac : acc = sSeen (fun side => decide (nI sb >>> (nI side &&& 31) &&& 1 = 1) && !decide (M.1 19 (4 * k + side) = -1)) (fun side => (M.1 19 (4 * k + side)).toNatClampNeg) (side + 1) := ha.trans (sSeen_f (by show (_ && !decide _) = false; rw [decide_eq_true (e_word.symm.trans c_37)]; simp)).symm
            refine wa_iinc ((nI (side + 1))) [(4, .int (nI (side + 1))), (5, .int (word)), (3, .int (nI (acc))), (0, wm_r G (17)), (1, .int (nI (k))), (2, .int (nI (sb)))] dX4_unlikeWords_47 1 rfl (nI_inc _) (by decide) rfl ?_
            refine wa_goto 5 dX4_unlikeWords_50 (by decide) ?_
            refine wa_sub [0, 2, 3, 4, 5] rfl ?_
            exact ih_5 (side + 1) _ (by omega) (by omega) hac
          · have hac : acc ||| 2 ^ ((M.1 19 (4 * k + side)).toNatClampNeg) = sSeen (fun side => decide (nI sb >>> (nI side &&& 31) &&& 1 = 1) && !decide (M.1 19 (4 * k + side) = -1)) (fun side => (M.1 19 (4 * k + side)).toNatClampNeg) (side + 1) := by
              rw [sSeen_t (by show (decide _ && !decide _) = true; rw [decide_eq_true c_31, decide_eq_false (fun e => c_37 (e_word.trans e))]; rfl), ← ha]
            have hq : word = nI ((M.1 19 (4 * k + side)).toNatClampNeg) ∧ (M.1 19 (4 * k + side)).toNatClampNeg < 8 := by
              rcases hwn side (by omega) with q | q
              · exact absurd (e_word.trans q) c_37
              · exact ⟨e_word.trans q.1, q.2⟩
            refine wa_iload_n dX4_unlikeWords_40 rfl 2 rfl ?_
            refine wa_iconst (1) dX4_unlikeWords_41 (by decide) ?_
            refine wa_iload dX4_unlikeWords_42 0 rfl ?_
            refine wa_ishl dX4_unlikeWords_44 ?_
            refine wa_ior dX4_unlikeWords_45 ?_
            refine wa_eqi (y := (nI (acc ||| 2 ^ ((M.1 19 (4 * k + side)).toNatClampNeg)))) (by rw [hq.1, nI_pow _ (by omega), nI_or]) ?_
            refine wa_istore_n [(3, .int (nI (acc ||| 2 ^ ((M.1 19 (4 * k + side)).toNatClampNeg)))), (5, .int (word)), (4, .int (nI (side))), (0, wm_r G (17)), (1, .int (nI (k))), (2, .int (nI (sb)))] dX4_unlikeWords_46 rfl (by decide) rfl ?_
            refine wa_iinc ((nI (side + 1))) [(4, .int (nI (side + 1))), (3, .int (nI (acc ||| 2 ^ ((M.1 19 (4 * k + side)).toNatClampNeg)))), (5, .int (word)), (0, wm_r G (17)), (1, .int (nI (k))), (2, .int (nI (sb)))] dX4_unlikeWords_47 2 rfl (nI_inc _) (by decide) rfl ?_
            refine wa_goto 5 dX4_unlikeWords_50 (by decide) ?_
            refine wa_sub [0, 1, 3, 4, 5] rfl ?_
            exact ih_5 (side + 1) _ (by omega) (by omega) hac
  exact L_5 _ 0 0 (Nat.lt_succ_self _) (by omega) rfl
