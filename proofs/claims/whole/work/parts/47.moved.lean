theorem m_smoved {G : wm_G} {M : wm_M} (k : Nat) (hk : SS k) (i st q : Nat) (hi : i < 64) (hst : st < 6) (hq : q < 4) (hq1 : 1 ≤ q) : MD G t_X3_moved [wm_r G (k), .int (nI (i)), .int (nI (st)), .int (nI (q))] (M) (some (.long (mvB (M.2.1 (k + 1)) st q i))) (M) := by
  refine wm_met (by decide) (Nat.le_of_ble_eq_true rfl) ?_
  show WA G t_X3_moved (fun v_ N_ => v_ = some (.long (mvB (M.2.1 (k + 1)) st q i)) ∧ N_ = M) 0 [(0, wm_r G (k)), (1, .int (nI (i))), (2, .int (nI (st))), (3, .int (nI (q)))] [] (M)
  refine wa_iload_n dX3_moved_0 rfl 2 rfl ?_
  refine wa_iconst (3) dX3_moved_1 (by decide) ?_
  refine wa_icmp_ltN (a := st) (b := 3) 44 dX3_moved_2 (by decide) (by omega) (by omega) (fun c_2 => ?_) (fun c_2 => ?_)
  · have hp := p4_3 c_2
    have hb1 : q * 4 ^ st ≤ 3 * 16 := Nat.mul_le_mul (by omega) hp
    have hb2 : (4 - q) * 4 ^ st ≤ 3 * 16 := Nat.mul_le_mul (by omega) hp
    refine wa_iconst (1) dX3_moved_44 (by decide) ?_
    refine wa_iconst (2) dX3_moved_45 (by decide) ?_
    refine wa_iload_n dX3_moved_46 rfl 2 rfl ?_
    refine wa_imulN (a := 2) (b := st) dX3_moved_47 ?_
    refine wa_ishl dX3_moved_48 ?_
    refine wa_eqi (y := (nI (4 ^ st))) (by rw [show ((1 : Int32) <<< (nI (2 * st) &&& 31)) = nI (2 ^ (2 * st)) from nI_pow _ (by omega), p4]) ?_
    refine wa_istore [(4, .int (nI (4 ^ st))), (0, wm_r G (k)), (1, .int (nI (i))), (2, .int (nI (st))), (3, .int (nI (q)))] dX3_moved_49 (by decide) rfl ?_
    refine wa_lconst (0) dX3_moved_51 (by decide) ?_
    refine wa_lstore [(5, .long (0)), (4, .int (nI (4 ^ st))), (0, wm_r G (k)), (1, .int (nI (i))), (2, .int (nI (st))), (3, .int (nI (q)))] dX3_moved_52 (by decide) rfl ?_
    refine wa_iconst (4) dX3_moved_54 (by decide) ?_
    refine wa_iload_n dX3_moved_55 rfl 5 rfl ?_
    refine wa_isubN (a := 4) (b := q) dX3_moved_56 (by omega) ?_
    refine wa_istore [(7, .int (nI ((4) - (q)))), (5, .long (0)), (4, .int (nI (4 ^ st))), (0, wm_r G (k)), (1, .int (nI (i))), (2, .int (nI (st))), (3, .int (nI (q)))] dX3_moved_57 (by decide) rfl ?_
    have L_59 : ∀ (n_ : Nat) (n : Nat), (q - n) < n_ → (n ≤ q) → WA G t_X3_moved (fun v_ N_ => v_ = some (.long (mvB (M.2.1 (k + 1)) st q i)) ∧ N_ = M) 59 [(7, .int (nI (4 - q + n))), (5, .long (ovL st (4 - q) n)), (4, .int (nI (4 ^ st))), (0, wm_r G (k)), (1, .int (nI (i))), (2, .int (nI (st))), (3, .int (nI (q)))] [] (M) := by
      intro n_
      induction n_ with
      | zero => intro n h_; exact absurd h_ (Nat.not_lt_zero _)
      | succ n_ ih_59 =>
        intro n h_ hn
        refine wa_iload dX3_moved_59 0 rfl ?_
        refine wa_iconst (4) dX3_moved_61 (by decide) ?_
        refine wa_icmp_geN (a := 4 - q + n) (b := 4) 87 dX3_moved_62 (by decide) (by omega) (by omega) (fun c_62 => ?_) (fun c_62 => ?_)
        · refine wa_aload_n dX3_moved_87 rfl 3 rfl ?_
          refine wa_getr gX3_moved_88 (hk.1) rfl ?_
          refine wa_iload_n dX3_moved_91 rfl 4 rfl ?_
          refine wa_laldN (e := i) dX3_moved_92 (hk.2) (hi) (by omega) ?_
          refine wa_lload dX3_moved_93 1 rfl ?_
          refine wa_ldc2 (-1) dX3_moved_95 kX3_moved_95 ?_
          refine wa_lxor dX3_moved_98 ?_
          refine wa_land dX3_moved_99 ?_
          refine wa_iload_n dX3_moved_100 rfl 6 rfl ?_
          refine wa_iload dX3_moved_101 2 rfl ?_
          refine wa_imulN (a := q) (b := 4 ^ st) dX3_moved_103 ?_
          refine wa_lshl dX3_moved_104 ?_
          refine wa_lstore [(7, .long ((((M).2.1 (k + 1) (i)) &&& ((ovL st (4 - q) n) ^^^ (-1))) <<< (((nI (q * (4 ^ st)))).toInt64 &&& 63))), (5, .long (ovL st (4 - q) n)), (4, .int (nI (4 ^ st))), (0, wm_r G (k)), (1, .int (nI (i))), (2, .int (nI (st))), (3, .int (nI (q)))] dX3_moved_105 (by decide) rfl ?_
          refine wa_lload dX3_moved_107 0 rfl ?_
          refine wa_aload_n dX3_moved_109 rfl 3 rfl ?_
          refine wa_getr gX3_moved_110 (hk.1) rfl ?_
          refine wa_iload_n dX3_moved_113 rfl 4 rfl ?_
          refine wa_laldN (e := i) dX3_moved_114 (hk.2) (hi) (by omega) ?_
          refine wa_lload dX3_moved_115 1 rfl ?_
          refine wa_land dX3_moved_117 ?_
          refine wa_iconst (4) dX3_moved_118 (by decide) ?_
          refine wa_iload_n dX3_moved_119 rfl 6 rfl ?_
          refine wa_isubN (a := 4) (b := q) dX3_moved_120 (by omega) ?_
          refine wa_iload dX3_moved_121 2 rfl ?_
          refine wa_imulN (a := (4) - (q)) (b := 4 ^ st) dX3_moved_123 ?_
          refine wa_lushr dX3_moved_124 ?_
          refine wa_lor dX3_moved_125 ?_
          exact wa_lret dX3_moved_126 rfl ⟨congrArg (fun z => some (Value.long z)) (by unfold mvB mvL; rw [if_neg (by omega), show n = q by omega]), rfl⟩
        · refine wa_lload dX3_moved_65 1 rfl ?_
          refine wa_gets gX3_moved_67 ?_
          refine wa_iload_n dX3_moved_70 rfl 5 rfl ?_
          refine wa_firstldN (e := st) dX3_moved_71 (c_2) ?_
          refine wa_iload dX3_moved_72 0 rfl ?_
          refine wa_iload dX3_moved_74 2 rfl ?_
          refine wa_imulN (a := 4 - q + n) (b := 4 ^ st) dX3_moved_76 ?_
          refine wa_lshl dX3_moved_77 ?_
          refine wa_lor dX3_moved_78 ?_
          refine wa_eql (y := ovL st (4 - q) (n + 1)) (rfl) ?_
          refine wa_lstore [(5, .long (ovL st (4 - q) (n + 1))), (7, .int (nI (4 - q + n))), (4, .int (nI (4 ^ st))), (0, wm_r G (k)), (1, .int (nI (i))), (2, .int (nI (st))), (3, .int (nI (q)))] dX3_moved_79 (by decide) rfl ?_
          refine wa_iinc ((nI (4 - q + n + 1))) [(7, .int (nI (4 - q + n + 1))), (5, .long (ovL st (4 - q) (n + 1))), (4, .int (nI (4 ^ st))), (0, wm_r G (k)), (1, .int (nI (i))), (2, .int (nI (st))), (3, .int (nI (q)))] dX3_moved_81 1 rfl (nI_inc _) (by decide) rfl ?_
          refine wa_goto 59 dX3_moved_84 (by decide) ?_
          exact ih_59 (n + 1) (by omega) (by omega)
    exact L_59 _ 0 (Nat.lt_succ_self _) (Nat.zero_le _)
  · have hqi := sQ_lt i (st - 3)
    have hmv : sMv i (st - 3) (4 - q) < 64 := sMv_lt (n := 3) (by omega) (by omega)
    refine wa_iconst (2) dX3_moved_5 (by decide) ?_
    refine wa_iload_n dX3_moved_6 rfl 2 rfl ?_
    refine wa_iconst (3) dX3_moved_7 (by decide) ?_
    refine wa_isubN (a := st) (b := 3) dX3_moved_8 (by omega) ?_
    refine wa_imulN (a := 2) (b := (st) - (3)) dX3_moved_9 ?_
    refine wa_istore [(4, .int (nI (2 * ((st) - (3))))), (0, wm_r G (k)), (1, .int (nI (i))), (2, .int (nI (st))), (3, .int (nI (q)))] dX3_moved_10 (by decide) rfl ?_
    refine wa_iload_n dX3_moved_12 rfl 2 rfl ?_
    refine wa_iload dX3_moved_13 0 rfl ?_
    refine wa_ishr dX3_moved_15 ?_
    refine wa_iconst (3) dX3_moved_16 (by decide) ?_
    refine wa_iand dX3_moved_17 ?_
    refine wa_eqi (y := (nI (sQ i (st - 3)))) (sh_q (by omega) (by omega)) ?_
    refine wa_istore [(5, .int (nI (sQ i (st - 3)))), (4, .int (nI (2 * ((st) - (3))))), (0, wm_r G (k)), (1, .int (nI (i))), (2, .int (nI (st))), (3, .int (nI (q)))] dX3_moved_18 (by decide) rfl ?_
    refine wa_iload dX3_moved_20 0 rfl ?_
    refine wa_iload_n dX3_moved_22 rfl 5 rfl ?_
    refine wa_isub dX3_moved_23 ?_
    refine wa_iconst (3) dX3_moved_24 (by decide) ?_
    refine wa_iand dX3_moved_25 ?_
    refine wa_eqi (y := (nI ((sQ i (st - 3) + (4 - q)) % 4))) (by rw [nI_sub3 hqi hq, show sQ i (st - 3) + 4 - q = sQ i (st - 3) + (4 - q) by omega]) ?_
    refine wa_istore [(6, .int (nI ((sQ i (st - 3) + (4 - q)) % 4))), (5, .int (nI (sQ i (st - 3)))), (4, .int (nI (2 * ((st) - (3))))), (0, wm_r G (k)), (1, .int (nI (i))), (2, .int (nI (st))), (3, .int (nI (q)))] dX3_moved_26 (by decide) rfl ?_
    refine wa_aload_n dX3_moved_28 rfl 3 rfl ?_
    refine wa_getr gX3_moved_29 (hk.1) rfl ?_
    refine wa_iload_n dX3_moved_32 rfl 4 rfl ?_
    refine wa_iload dX3_moved_33 0 rfl ?_
    refine wa_iload dX3_moved_35 1 rfl ?_
    refine wa_isub dX3_moved_37 ?_
    refine wa_iload dX3_moved_38 2 rfl ?_
    refine wa_ishl dX3_moved_40 ?_
    refine wa_iadd dX3_moved_41 ?_
    refine wa_eqi (y := (nI (sMv i (st - 3) (4 - q)))) (sMv_i (by omega) (by omega)) ?_
    refine wa_laldN (e := sMv i (st - 3) (4 - q)) dX3_moved_42 (hk.2) (by omega) (by omega) ?_
    exact wa_lret dX3_moved_43 rfl ⟨congrArg (fun z => some (Value.long z)) (by unfold mvB; rw [if_pos c_2]), rfl⟩

theorem m_meetMoved {G : wm_G} {M : wm_M} (k k2 : Nat) (hk : SS k) (hk2 : SS k2) (st q : Nat) (hne : k ≠ k2) (hst : st < 6) (hq : q < 4) (hq1 : 1 ≤ q) : MD G t_X3_meetMoved [wm_r G (k), wm_r G (k2), .int (nI (st)), .int (nI (q))] (M) (none) (wJa M (k + 1) (wTo (fun i => (M.2.1 (k + 1)) i &&& mvB (M.2.1 (k2 + 1)) st q i) (M.2.1 (k + 1)) 64)) := by
  refine wm_met (by decide) (Nat.le_of_ble_eq_true rfl) ?_
  show WA G t_X3_meetMoved (fun v_ N_ => v_ = none ∧ N_ = wJa M (k + 1) (wTo (fun i => (M.2.1 (k + 1)) i &&& mvB (M.2.1 (k2 + 1)) st q i) (M.2.1 (k + 1)) 64)) 0 [(0, wm_r G (k)), (1, wm_r G (k2)), (2, .int (nI (st))), (3, .int (nI (q)))] [] (M)
  refine wa_iconst (0) dX3_meetMoved_0 (by decide) ?_
  refine wa_istore [(4, .int (0)), (0, wm_r G (k)), (1, wm_r G (k2)), (2, .int (nI (st))), (3, .int (nI (q)))] dX3_meetMoved_1 (by decide) rfl ?_
  have L_3 : ∀ (n_ : Nat) (i : Nat), (64 - i) < n_ → (i ≤ 64) → WA G t_X3_meetMoved (fun v_ N_ => v_ = none ∧ N_ = wJa M (k + 1) (wTo (fun i => (M.2.1 (k + 1)) i &&& mvB (M.2.1 (k2 + 1)) st q i) (M.2.1 (k + 1)) 64)) 3 [(4, .int (nI (i))), (0, wm_r G (k)), (1, wm_r G (k2)), (2, .int (nI (st))), (3, .int (nI (q)))] [] (wJa M (k + 1) (wTo (fun i => (M.2.1 (k + 1)) i &&& mvB (M.2.1 (k2 + 1)) st q i) (M.2.1 (k + 1)) i)) := by
    intro n_
    induction n_ with
    | zero => intro i h_; exact absurd h_ (Nat.not_lt_zero _)
    | succ n_ ih_3 =>
      intro i h_ hi
      refine wa_iload dX3_meetMoved_3 0 rfl ?_
      refine wa_bipush (64) dX3_meetMoved_5 (by decide) ?_
      refine wa_icmp_geN (a := i) (b := 64) 34 dX3_meetMoved_7 (by decide) (by omega) (by omega) (fun c_7 => ?_) (fun c_7 => ?_)
      · exact wa_vret dX3_meetMoved_34 rfl ⟨rfl, by rw [show i = 64 by omega]⟩
      · refine wa_aload_n dX3_meetMoved_10 rfl 1 rfl ?_
        refine wa_getr gX3_meetMoved_11 (hk.1) rfl ?_
        refine wa_iload dX3_meetMoved_14 0 rfl ?_
        refine wa_dup2_11 dX3_meetMoved_16 rfl rfl ?_
        refine wa_laldN (e := i) dX3_meetMoved_17 (hk.2) (by omega) (by omega) ?_
        refine wa_eql (y := (M.2.1 (k + 1)) i) (by rw [wJa_s, wTo_out (Nat.le_refl _)]) ?_
        refine wa_aload_n dX3_meetMoved_18 rfl 2 rfl ?_
        refine wa_iload dX3_meetMoved_19 0 rfl ?_
        refine wa_iload_n dX3_meetMoved_21 rfl 3 rfl ?_
        refine wa_iload_n dX3_meetMoved_22 rfl 4 rfl ?_
        refine wa_cVl (m_smoved k2 hk2 i st q c_7 hst hq hq1) vX3_moved iX3_meetMoved_23 (hk2.1) rfl rfl rfl (Nat.le_of_ble_eq_true rfl) ⟨by decide, by decide⟩ ?_
        refine wa_eql (y := mvB (M.2.1 (k2 + 1)) st q i) (by rw [wJa_n (by omega)]) ?_
        refine wa_land dX3_meetMoved_26 ?_
        refine wa_lastN (e := i) dX3_meetMoved_27 (hk.2) (by omega) (by omega) ?_
        refine wa_eqm (M' := wJa M (k + 1) (wTo (fun i => (M.2.1 (k + 1)) i &&& mvB (M.2.1 (k2 + 1)) st q i) (M.2.1 (k + 1)) (i + 1))) (by rw [wJ_wJa, wTo_sL rfl]) ?_
        refine wa_iinc ((nI (i + 1))) [(4, .int (nI (i + 1))), (0, wm_r G (k)), (1, wm_r G (k2)), (2, .int (nI (st))), (3, .int (nI (q)))] dX3_meetMoved_28 0 rfl (nI_inc _) (by decide) rfl ?_
        refine wa_goto 3 dX3_meetMoved_31 (by decide) ?_
        exact ih_3 (i + 1) (by omega) (by omega)
  refine wa_eqm (M' := wJa M (k + 1) (wTo (fun i => (M.2.1 (k + 1)) i &&& mvB (M.2.1 (k2 + 1)) st q i) (M.2.1 (k + 1)) 0)) (by rw [wTo_0, wJa_self]) ?_
  exact L_3 _ 0 (Nat.lt_succ_self _) (by omega)

theorem m_joinMoved {G : wm_G} {M : wm_M} (k k2 : Nat) (hk : SS k) (hk2 : SS k2) (st q : Nat) (hne : k ≠ k2) (hst : st < 6) (hq : q < 4) (hq1 : 1 ≤ q) : MD G t_X3_joinMoved [wm_r G (k), wm_r G (k2), .int (nI (st)), .int (nI (q))] (M) (none) (wJa M (k + 1) (wTo (fun i => (M.2.1 (k + 1)) i ||| mvB (M.2.1 (k2 + 1)) st q i) (M.2.1 (k + 1)) 64)) := by
  refine wm_met (by decide) (Nat.le_of_ble_eq_true rfl) ?_
  show WA G t_X3_joinMoved (fun v_ N_ => v_ = none ∧ N_ = wJa M (k + 1) (wTo (fun i => (M.2.1 (k + 1)) i ||| mvB (M.2.1 (k2 + 1)) st q i) (M.2.1 (k + 1)) 64)) 0 [(0, wm_r G (k)), (1, wm_r G (k2)), (2, .int (nI (st))), (3, .int (nI (q)))] [] (M)
  refine wa_iconst (0) dX3_joinMoved_0 (by decide) ?_
  refine wa_istore [(4, .int (0)), (0, wm_r G (k)), (1, wm_r G (k2)), (2, .int (nI (st))), (3, .int (nI (q)))] dX3_joinMoved_1 (by decide) rfl ?_
  have L_3 : ∀ (n_ : Nat) (i : Nat), (64 - i) < n_ → (i ≤ 64) → WA G t_X3_joinMoved (fun v_ N_ => v_ = none ∧ N_ = wJa M (k + 1) (wTo (fun i => (M.2.1 (k + 1)) i ||| mvB (M.2.1 (k2 + 1)) st q i) (M.2.1 (k + 1)) 64)) 3 [(4, .int (nI (i))), (0, wm_r G (k)), (1, wm_r G (k2)), (2, .int (nI (st))), (3, .int (nI (q)))] [] (wJa M (k + 1) (wTo (fun i => (M.2.1 (k + 1)) i ||| mvB (M.2.1 (k2 + 1)) st q i) (M.2.1 (k + 1)) i)) := by
    intro n_
    induction n_ with
    | zero => intro i h_; exact absurd h_ (Nat.not_lt_zero _)
    | succ n_ ih_3 =>
      intro i h_ hi
      refine wa_iload dX3_joinMoved_3 0 rfl ?_
      refine wa_bipush (64) dX3_joinMoved_5 (by decide) ?_
      refine wa_icmp_geN (a := i) (b := 64) 34 dX3_joinMoved_7 (by decide) (by omega) (by omega) (fun c_7 => ?_) (fun c_7 => ?_)
      · exact wa_vret dX3_joinMoved_34 rfl ⟨rfl, by rw [show i = 64 by omega]⟩
      · refine wa_aload_n dX3_joinMoved_10 rfl 1 rfl ?_
        refine wa_getr gX3_joinMoved_11 (hk.1) rfl ?_
        refine wa_iload dX3_joinMoved_14 0 rfl ?_
        refine wa_dup2_11 dX3_joinMoved_16 rfl rfl ?_
        refine wa_laldN (e := i) dX3_joinMoved_17 (hk.2) (by omega) (by omega) ?_
        refine wa_eql (y := (M.2.1 (k + 1)) i) (by rw [wJa_s, wTo_out (Nat.le_refl _)]) ?_
        refine wa_aload_n dX3_joinMoved_18 rfl 2 rfl ?_
        refine wa_iload dX3_joinMoved_19 0 rfl ?_
        refine wa_iload_n dX3_joinMoved_21 rfl 3 rfl ?_
        refine wa_iload_n dX3_joinMoved_22 rfl 4 rfl ?_
        refine wa_cVl (m_smoved k2 hk2 i st q c_7 hst hq hq1) vX3_moved iX3_joinMoved_23 (hk2.1) rfl rfl rfl (Nat.le_of_ble_eq_true rfl) ⟨by decide, by decide⟩ ?_
        refine wa_eql (y := mvB (M.2.1 (k2 + 1)) st q i) (by rw [wJa_n (by omega)]) ?_
        refine wa_lor dX3_joinMoved_26 ?_
        refine wa_lastN (e := i) dX3_joinMoved_27 (hk.2) (by omega) (by omega) ?_
        refine wa_eqm (M' := wJa M (k + 1) (wTo (fun i => (M.2.1 (k + 1)) i ||| mvB (M.2.1 (k2 + 1)) st q i) (M.2.1 (k + 1)) (i + 1))) (by rw [wJ_wJa, wTo_sL rfl]) ?_
        refine wa_iinc ((nI (i + 1))) [(4, .int (nI (i + 1))), (0, wm_r G (k)), (1, wm_r G (k2)), (2, .int (nI (st))), (3, .int (nI (q)))] dX3_joinMoved_28 0 rfl (nI_inc _) (by decide) rfl ?_
        refine wa_goto 3 dX3_joinMoved_31 (by decide) ?_
        exact ih_3 (i + 1) (by omega) (by omega)
  refine wa_eqm (M' := wJa M (k + 1) (wTo (fun i => (M.2.1 (k + 1)) i ||| mvB (M.2.1 (k2 + 1)) st q i) (M.2.1 (k + 1)) 0)) (by rw [wTo_0, wJa_self]) ?_
  exact L_3 _ 0 (Nat.lt_succ_self _) (by omega)

theorem m_meetsMoved {G : wm_G} {M : wm_M} (k k2 : Nat) (hk : SS k) (hk2 : SS k2) (st q : Nat) (hst : st < 6) (hq : q < 4) (hq1 : 1 ≤ q) : MD G t_X3_meetsMoved [wm_r G (k), wm_r G (k2), .int (nI (st)), .int (nI (q))] (M) (some (.int (wB (!wAll (fun s => !(sb (M.2.1 (k + 1)) s && sb (M.2.1 (k2 + 1)) (sMv s st (4 - q)))) 4096)))) (M) := by
  refine wm_met (by decide) (Nat.le_of_ble_eq_true rfl) ?_
  show WA G t_X3_meetsMoved (fun v_ N_ => v_ = some (.int (wB (!wAll (fun s => !(sb (M.2.1 (k + 1)) s && sb (M.2.1 (k2 + 1)) (sMv s st (4 - q)))) 4096))) ∧ N_ = M) 0 [(0, wm_r G (k)), (1, wm_r G (k2)), (2, .int (nI (st))), (3, .int (nI (q)))] [] (M)
  refine wa_iconst (0) dX3_meetsMoved_0 (by decide) ?_
  refine wa_istore [(4, .int (0)), (0, wm_r G (k)), (1, wm_r G (k2)), (2, .int (nI (st))), (3, .int (nI (q)))] dX3_meetsMoved_1 (by decide) rfl ?_
  have L_3 : ∀ (n_ : Nat) (i : Nat), (64 - i) < n_ → (i ≤ 64) → (∀ j, j < i → (M.2.1 (k + 1)) j &&& mvB (M.2.1 (k2 + 1)) st q j = 0) → WA G t_X3_meetsMoved (fun v_ N_ => v_ = some (.int (wB (!wAll (fun s => !(sb (M.2.1 (k + 1)) s && sb (M.2.1 (k2 + 1)) (sMv s st (4 - q)))) 4096))) ∧ N_ = M) 3 [(4, .int (nI (i))), (0, wm_r G (k)), (1, wm_r G (k2)), (2, .int (nI (st))), (3, .int (nI (q)))] [] (M) := by
    intro n_
    induction n_ with
    | zero => intro i h_; exact absurd h_ (Nat.not_lt_zero _)
    | succ n_ ih_3 =>
      intro i h_ hi hn
      refine wa_iload dX3_meetsMoved_3 0 rfl ?_
      refine wa_bipush (64) dX3_meetsMoved_5 (by decide) ?_
      refine wa_icmp_geN (a := i) (b := 64) 39 dX3_meetsMoved_7 (by decide) (by omega) (by omega) (fun c_7 => ?_) (fun c_7 => ?_)
      · refine wa_iconst (0) dX3_meetsMoved_39 (by decide) ?_
        exact wa_zret dX3_meetsMoved_40 rfl (by decide) ⟨congrArg (fun z => some (Value.int z)) (by rw [mm_t hst hq hq1 (fun j hj => hn j (by omega))]; rfl), rfl⟩
      · refine wa_aload_n dX3_meetsMoved_10 rfl 1 rfl ?_
        refine wa_getr gX3_meetsMoved_11 (hk.1) rfl ?_
        refine wa_iload dX3_meetsMoved_14 0 rfl ?_
        refine wa_laldN (e := i) dX3_meetsMoved_16 (hk.2) (by omega) (by omega) ?_
        refine wa_aload_n dX3_meetsMoved_17 rfl 2 rfl ?_
        refine wa_iload dX3_meetsMoved_18 0 rfl ?_
        refine wa_iload_n dX3_meetsMoved_20 rfl 3 rfl ?_
        refine wa_iload_n dX3_meetsMoved_21 rfl 4 rfl ?_
        refine wa_cVl (m_smoved k2 hk2 i st q c_7 hst hq hq1) vX3_moved iX3_meetsMoved_22 (hk2.1) rfl rfl rfl (Nat.le_of_ble_eq_true rfl) ⟨by decide, by decide⟩ ?_
        refine wa_land dX3_meetsMoved_25 ?_
        refine wa_lconst (0) dX3_meetsMoved_26 (by decide) ?_
        refine wa_lcmp dX3_meetsMoved_27 ?_
        refine wa_if_eq 33 dX3_meetsMoved_28 (by decide) (fun c_28 => ?_) (fun c_28 => ?_)
        · refine wa_iinc ((nI (i + 1))) [(4, .int (nI (i + 1))), (0, wm_r G (k)), (1, wm_r G (k2)), (2, .int (nI (st))), (3, .int (nI (q)))] dX3_meetsMoved_33 0 rfl (nI_inc _) (by decide) rfl ?_
          refine wa_goto 3 dX3_meetsMoved_36 (by decide) ?_
          exact ih_3 (i + 1) (by omega) (by omega) (fun j hj => by rcases Nat.lt_or_eq_of_le (Nat.le_of_lt_succ hj) with q9 | q9; exact hn j q9; subst q9; exact (lg_cmp00 _).mp c_28)
        · refine wa_iconst (1) dX3_meetsMoved_31 (by decide) ?_
          exact wa_zret dX3_meetsMoved_32 rfl (by decide) ⟨congrArg (fun z => some (Value.int z)) (by rw [mm_f hst hq hq1 c_7 (fun q9 => c_28 ((lg_cmp00 _).mpr q9))]; rfl), rfl⟩
  exact L_3 _ 0 (Nat.lt_succ_self _) (by omega) (fun j hj => absurd hj (Nat.not_lt_zero _))
