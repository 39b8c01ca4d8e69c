theorem x_in {G : wm_G} {M : wm_M} (v lo hi : Int32) : MD G t_X10_in [.int (v), .int (lo), .int (hi)] (M) (some (.int (wB (inC v lo hi)))) (M) := by
  refine wm_met (by decide) (Nat.le_of_ble_eq_true rfl) ?_
  show WA G t_X10_in (fun v_ N_ => v_ = some (.int (wB (inC v lo hi))) ∧ N_ = M) 0 [(0, .int (v)), (1, .int (lo)), (2, .int (hi))] [] (M)
  refine wa_iload_n dX10_in_0 rfl 0 rfl ?_
  refine wa_iload_n dX10_in_1 rfl 1 rfl ?_
  refine wa_icmp_lt 14 dX10_in_2 (by decide) (fun c_2 => ?_) (fun c_2 => ?_)
  · refine wa_iconst (0) dX10_in_14 (by decide) ?_
    exact wa_zret dX10_in_15 rfl (by decide) ⟨congrArg (fun z => some (Value.int z)) (by first | (rw [inC_lt c_2]; rfl) | (rw [inC_gt (Int32.not_le.mpr c_7)]; rfl) | (rw [inC_t c_2 (Int32.not_lt.mp c_7)]; rfl)), rfl⟩
  · refine wa_iload_n dX10_in_5 rfl 0 rfl ?_
    refine wa_iload_n dX10_in_6 rfl 2 rfl ?_
    refine wa_icmp_gt 14 dX10_in_7 (by decide) (fun c_7 => ?_) (fun c_7 => ?_)
    · refine wa_iconst (0) dX10_in_14 (by decide) ?_
      exact wa_zret dX10_in_15 rfl (by decide) ⟨congrArg (fun z => some (Value.int z)) (by first | (rw [inC_lt c_2]; rfl) | (rw [inC_gt (Int32.not_le.mpr c_7)]; rfl) | (rw [inC_t c_2 (Int32.not_lt.mp c_7)]; rfl)), rfl⟩
    · refine wa_iconst (1) dX10_in_10 (by decide) ?_
      refine wa_goto 15 dX10_in_11 (by decide) ?_
      exact wa_zret dX10_in_15 rfl (by decide) ⟨congrArg (fun z => some (Value.int z)) (by first | (rw [inC_lt c_2]; rfl) | (rw [inC_gt (Int32.not_le.mpr c_7)]; rfl) | (rw [inC_t c_2 (Int32.not_lt.mp c_7)]; rfl)), rfl⟩

theorem x_isRow {G : wm_G} {M : wm_M} (r : Int32) : MD G t_X10_isRow [.int (r)] (M) (some (.int (wB (wIn r 6)))) (M) := by
  refine wm_met (by decide) (Nat.le_of_ble_eq_true rfl) ?_
  show WA G t_X10_isRow (fun v_ N_ => v_ = some (.int (wB (wIn r 6))) ∧ N_ = M) 0 [(0, .int (r))] [] (M)
  refine wa_iload_n dX10_isRow_0 rfl 0 rfl ?_
  refine wa_iconst (0) dX10_isRow_1 (by decide) ?_
  refine wa_iconst (5) dX10_isRow_2 (by decide) ?_
  refine wa_cSi (x_in r 0 5) vX10_in iX10_isRow_3 rfl rfl (Nat.le_of_ble_eq_true rfl) ⟨by decide, by decide⟩ ?_
  refine wa_eqi (y := (wB (wIn r 6))) (congrArg wB (inC_w (m := 5) (by decide) r)) ?_
  exact wa_zretB dX10_isRow_6 rfl ⟨congrArg (fun z => some (Value.int z)) (rfl), rfl⟩

theorem x_isText {G : wm_G} {M : wm_M} (r : Int32) : MD G t_X10_isText [.int (r)] (M) (some (.int (wB (wIn r 4)))) (M) := by
  refine wm_met (by decide) (Nat.le_of_ble_eq_true rfl) ?_
  show WA G t_X10_isText (fun v_ N_ => v_ = some (.int (wB (wIn r 4))) ∧ N_ = M) 0 [(0, .int (r))] [] (M)
  refine wa_iload_n dX10_isText_0 rfl 0 rfl ?_
  refine wa_iconst (0) dX10_isText_1 (by decide) ?_
  refine wa_iconst (3) dX10_isText_2 (by decide) ?_
  refine wa_cSi (x_in r 0 3) vX10_in iX10_isText_3 rfl rfl (Nat.le_of_ble_eq_true rfl) ⟨by decide, by decide⟩ ?_
  refine wa_eqi (y := (wB (wIn r 4))) (congrArg wB (inC_w (m := 3) (by decide) r)) ?_
  exact wa_zretB dX10_isText_6 rfl ⟨congrArg (fun z => some (Value.int z)) (rfl), rfl⟩

theorem x_isLaw {G : wm_G} {M : wm_M} (r : Int32) : MD G t_X10_isLaw [.int (r)] (M) (some (.int (wB (wIn r 4)))) (M) := by
  refine wm_met (by decide) (Nat.le_of_ble_eq_true rfl) ?_
  show WA G t_X10_isLaw (fun v_ N_ => v_ = some (.int (wB (wIn r 4))) ∧ N_ = M) 0 [(0, .int (r))] [] (M)
  refine wa_iload_n dX10_isLaw_0 rfl 0 rfl ?_
  refine wa_iconst (0) dX10_isLaw_1 (by decide) ?_
  refine wa_iconst (3) dX10_isLaw_2 (by decide) ?_
  refine wa_cSi (x_in r 0 3) vX10_in iX10_isLaw_3 rfl rfl (Nat.le_of_ble_eq_true rfl) ⟨by decide, by decide⟩ ?_
  refine wa_eqi (y := (wB (wIn r 4))) (congrArg wB (inC_w (m := 3) (by decide) r)) ?_
  exact wa_zretB dX10_isLaw_6 rfl ⟨congrArg (fun z => some (Value.int z)) (rfl), rfl⟩

theorem x_isSet {G : wm_G} {M : wm_M} (r : Int32) : MD G t_X10_isSet [.int (r)] (M) (some (.int (wB (wIn r 16)))) (M) := by
  refine wm_met (by decide) (Nat.le_of_ble_eq_true rfl) ?_
  show WA G t_X10_isSet (fun v_ N_ => v_ = some (.int (wB (wIn r 16))) ∧ N_ = M) 0 [(0, .int (r))] [] (M)
  refine wa_iload_n dX10_isSet_0 rfl 0 rfl ?_
  refine wa_iconst (0) dX10_isSet_1 (by decide) ?_
  refine wa_bipush (15) dX10_isSet_2 (by decide) ?_
  refine wa_cSi (x_in r 0 15) vX10_in iX10_isSet_4 rfl rfl (Nat.le_of_ble_eq_true rfl) ⟨by decide, by decide⟩ ?_
  refine wa_eqi (y := (wB (wIn r 16))) (congrArg wB (inC_w (m := 15) (by decide) r)) ?_
  exact wa_zretB dX10_isSet_7 rfl ⟨congrArg (fun z => some (Value.int z)) (rfl), rfl⟩

theorem x_areYears {G : wm_G} {M : wm_M} (r : Int32) : MD G t_X10_areYears [.int (r)] (M) (some (.int (wB (wIn r 10)))) (M) := by
  refine wm_met (by decide) (Nat.le_of_ble_eq_true rfl) ?_
  show WA G t_X10_areYears (fun v_ N_ => v_ = some (.int (wB (wIn r 10))) ∧ N_ = M) 0 [(0, .int (r))] [] (M)
  refine wa_iload_n dX10_areYears_0 rfl 0 rfl ?_
  refine wa_iconst (0) dX10_areYears_1 (by decide) ?_
  refine wa_bipush (9) dX10_areYears_2 (by decide) ?_
  refine wa_cSi (x_in r 0 9) vX10_in iX10_areYears_4 rfl rfl (Nat.le_of_ble_eq_true rfl) ⟨by decide, by decide⟩ ?_
  refine wa_eqi (y := (wB (wIn r 10))) (congrArg wB (inC_w (m := 9) (by decide) r)) ?_
  exact wa_zretB dX10_areYears_7 rfl ⟨congrArg (fun z => some (Value.int z)) (rfl), rfl⟩

theorem x_has {G : wm_G} {M : wm_M} (set k : Nat) (hs : set < 2 ^ 31) (hk : k < 32) : MD G t_X10_has [.int (nI (set)), .int (nI (k))] (M) (some (.int (wB (set.testBit k)))) (M) := by
  refine wm_met (by decide) (Nat.le_of_ble_eq_true rfl) ?_
  show WA G t_X10_has (fun v_ N_ => v_ = some (.int (wB (set.testBit k))) ∧ N_ = M) 0 [(0, .int (nI (set))), (1, .int (nI (k)))] [] (M)
  refine wa_iload_n dX10_has_0 rfl 0 rfl ?_
  refine wa_iload_n dX10_has_1 rfl 1 rfl ?_
  refine wa_ishr dX10_has_2 ?_
  refine wa_eqi (y := (nI (set / 2 ^ k))) (nI_shr hs hk) ?_
  refine wa_iconst (1) dX10_has_3 (by decide) ?_
  refine wa_iand dX10_has_4 ?_
  refine wa_eqi (y := (nI (set / 2 ^ k % 2))) (nI_and1 (Nat.lt_of_le_of_lt (Nat.div_le_self _ _) (by omega))) ?_
  refine wa_iconst (1) dX10_has_5 (by decide) ?_
  refine wa_icmp_neN (a := set / 2 ^ k % 2) (b := 1) 13 dX10_has_6 (by decide) (Nat.lt_trans (Nat.mod_lt _ (by decide)) (by decide)) (by omega) (fun c_6 => ?_) (fun c_6 => ?_)
  · refine wa_iconst (0) dX10_has_13 (by decide) ?_
    exact wa_zret dX10_has_14 rfl (by decide) ⟨congrArg (fun z => some (Value.int z)) (by rw [tb_div]; first | (rw [decide_eq_false c_6]; rfl) | (rw [decide_eq_true c_6]; rfl)), rfl⟩
  · refine wa_iconst (1) dX10_has_9 (by decide) ?_
    refine wa_goto 14 dX10_has_10 (by decide) ?_
    exact wa_zret dX10_has_14 rfl (by decide) ⟨congrArg (fun z => some (Value.int z)) (by rw [tb_div]; first | (rw [decide_eq_false c_6]; rfl) | (rw [decide_eq_true c_6]; rfl)), rfl⟩

theorem x_bits {G : wm_G} {M : wm_M} (set : Nat) (hs : set < 256) : MD G t_X10_bits [.int (nI (set))] (M) (some (.int (nI (pcN set)))) (M) := by
  refine wm_met (by decide) (Nat.le_of_ble_eq_true rfl) ?_
  show WA G t_X10_bits (fun v_ N_ => v_ = some (.int (nI (pcN set))) ∧ N_ = M) 0 [(0, .int (nI (set)))] [] (M)
  refine wa_iconst (0) dX10_bits_0 (by decide) ?_
  refine wa_istore_n [(1, .int (0)), (0, .int (nI (set)))] dX10_bits_1 rfl (by decide) rfl ?_
  refine wa_iload_n dX10_bits_2 rfl 1 rfl ?_
  refine wa_istore_n [(2, .int (nI (set))), (1, .int (0)), (0, .int (nI (set)))] dX10_bits_3 rfl (by decide) rfl ?_
  have L_4 : ∀ (n_ : Nat) (s c : Nat), (s) < n_ → (s < 256) → (c + pcN s = pcN set) → WA G t_X10_bits (fun v_ N_ => v_ = some (.int (nI (pcN set))) ∧ N_ = M) 4 [(2, .int (nI (s))), (1, .int (nI (c))), (0, .int (nI (set)))] [] (M) := by
    intro n_
    induction n_ with
    | zero => intro s c h_; exact absurd h_ (Nat.not_lt_zero _)
    | succ n_ ih_4 =>
      intro s c h_ hs2 hc
      refine wa_iload_n dX10_bits_4 rfl 0 rfl ?_
      refine wa_if_eqN (a := s) 20 dX10_bits_5 (by decide) (by omega) (fun c_5 => ?_) (fun c_5 => ?_)
      · refine wa_iload_n dX10_bits_20 rfl 1 rfl ?_
        exact wa_iret dX10_bits_21 rfl ⟨congrArg (fun z => some (Value.int z)) (by rw [← hc, show s = 0 from c_5]; rfl), rfl⟩
      · have hcl := clr_all s hs2 c_5
        refine wa_iinc ((nI (c + 1))) [(1, .int (nI (c + 1))), (2, .int (nI (s))), (0, .int (nI (set)))] dX10_bits_8 1 rfl (nI_inc _) (by decide) rfl ?_
        refine wa_iload_n dX10_bits_11 rfl 1 rfl ?_
        refine wa_iload_n dX10_bits_12 rfl 1 rfl ?_
        refine wa_iconst (1) dX10_bits_13 (by decide) ?_
        refine wa_isub dX10_bits_14 ?_
        refine wa_iand dX10_bits_15 ?_
        refine wa_eqi (y := (nI (s &&& (s - 1)))) (hcl.1) ?_
        refine wa_istore_n [(2, .int (nI (s &&& (s - 1)))), (1, .int (nI (c + 1))), (0, .int (nI (set)))] dX10_bits_16 rfl (by decide) rfl ?_
        refine wa_goto 4 dX10_bits_17 (by decide) ?_
        exact ih_4 (s &&& (s - 1)) (c + 1) (by omega) (by omega) (by omega)
  exact L_4 _ set 0 (Nat.lt_succ_self _) hs (by omega)

theorem x_meets {G : wm_G} {M : wm_M} (f : Nat) (h1 : 1 ≤ f) (h5 : f ≤ 5) : MD G t_X10_meets [wm_r G (96), .int (nI (f))] (M) (some (.int (-3))) (xNote M f) := by
  refine wm_met (by decide) (Nat.le_of_ble_eq_true rfl) ?_
  show WA G t_X10_meets (fun v_ N_ => v_ = some (.int (-3)) ∧ N_ = xNote M f) 0 [(0, wm_r G (96)), (1, .int (nI (f)))] [] (M)
  refine wa_aload_n dX10_meets_0 rfl 0 rfl ?_
  refine wa_iload_n dX10_meets_1 rfl 1 rfl ?_
  refine wa_puti gX10_meets_2 (rfl) rfl ?_
  refine wa_aload_n dX10_meets_5 rfl 0 rfl ?_
  refine wa_getr gX10_meets_6 (rfl) rfl ?_
  refine wa_iload_n dX10_meets_9 rfl 1 rfl ?_
  refine wa_dup2_11 dX10_meets_10 rfl rfl ?_
  refine wa_ialdN (e := f) dX10_meets_11 (rfl) (by omega) (by decide) ?_
  refine wa_iconst (1) dX10_meets_12 (by decide) ?_
  refine wa_iadd dX10_meets_13 ?_
  refine wa_iastN (e := f) dX10_meets_14 (rfl) (by omega) (by decide) ?_
  refine wa_eqm (M' := xNote M f) (by unfold xNote; rw [wI_c (show 97 ≠ 96 by decide)]) ?_
  refine wa_bipush (-3) dX10_meets_15 (by decide) ?_
  exact wa_iret dX10_meets_17 rfl ⟨congrArg (fun z => some (Value.int z)) (rfl), rfl⟩

theorem x_tells {G : wm_G} {M : wm_M} (v a : Int32) : MD G t_X10_tells [wm_r G (96), .int (v), .int (a)] (M) (some (.int (a))) (xTell M v) := by
  refine wm_met (by decide) (Nat.le_of_ble_eq_true rfl) ?_
  show WA G t_X10_tells (fun v_ N_ => v_ = some (.int (a)) ∧ N_ = xTell M v) 0 [(0, wm_r G (96)), (1, .int (v)), (2, .int (a))] [] (M)
  refine wa_aload_n dX10_tells_0 rfl 0 rfl ?_
  refine wa_iload_n dX10_tells_1 rfl 1 rfl ?_
  refine wa_puti gX10_tells_2 (rfl) rfl ?_
  refine wa_iload_n dX10_tells_5 rfl 2 rfl ?_
  exact wa_iret dX10_tells_6 rfl ⟨congrArg (fun z => some (Value.int z)) (rfl), rfl⟩

theorem x_finding {G : wm_G} {M : wm_M} : MD G t_X10_finding [wm_r G (96)] (M) (some (.int (M.1 96 0))) (M) := by
  refine wm_met (by decide) (Nat.le_of_ble_eq_true rfl) ?_
  show WA G t_X10_finding (fun v_ N_ => v_ = some (.int (M.1 96 0)) ∧ N_ = M) 0 [(0, wm_r G (96))] [] (M)
  refine wa_aload_n dX10_finding_0 rfl 0 rfl ?_
  refine wa_geti gX10_finding_1 (rfl) rfl ?_
  exact wa_iret dX10_finding_4 rfl ⟨congrArg (fun z => some (Value.int z)) (rfl), rfl⟩

theorem x_asked {G : wm_G} {M : wm_M} : MD G t_X10_asked [wm_r G (96)] (M) (some (.int (M.1 96 2))) (M) := by
  refine wm_met (by decide) (Nat.le_of_ble_eq_true rfl) ?_
  show WA G t_X10_asked (fun v_ N_ => v_ = some (.int (M.1 96 2)) ∧ N_ = M) 0 [(0, wm_r G (96))] [] (M)
  refine wa_aload_n dX10_asked_0 rfl 0 rfl ?_
  refine wa_geti gX10_asked_1 (rfl) rfl ?_
  exact wa_iret dX10_asked_4 rfl ⟨congrArg (fun z => some (Value.int z)) (rfl), rfl⟩

theorem x_upper {G : wm_G} {M : wm_M} : MD G t_X10_upper [wm_r G (96)] (M) (some (.long (M.2.1 96 3))) (M) := by
  refine wm_met (by decide) (Nat.le_of_ble_eq_true rfl) ?_
  show WA G t_X10_upper (fun v_ N_ => v_ = some (.long (M.2.1 96 3)) ∧ N_ = M) 0 [(0, wm_r G (96))] [] (M)
  refine wa_aload_n dX10_upper_0 rfl 0 rfl ?_
  refine wa_getl gX10_upper_1 (rfl) rfl ?_
  exact wa_lret dX10_upper_4 rfl ⟨congrArg (fun z => some (Value.long z)) (rfl), rfl⟩

theorem x_lower {G : wm_G} {M : wm_M} : MD G t_X10_lower [wm_r G (96)] (M) (some (.long (M.2.1 96 4))) (M) := by
  refine wm_met (by decide) (Nat.le_of_ble_eq_true rfl) ?_
  show WA G t_X10_lower (fun v_ N_ => v_ = some (.long (M.2.1 96 4)) ∧ N_ = M) 0 [(0, wm_r G (96))] [] (M)
  refine wa_aload_n dX10_lower_0 rfl 0 rfl ?_
  refine wa_getl gX10_lower_1 (rfl) rfl ?_
  exact wa_lret dX10_lower_4 rfl ⟨congrArg (fun z => some (Value.long z)) (rfl), rfl⟩

theorem x_findings_bad {G : wm_G} {M : wm_M} (f : Int32) (hf : f < 1 ∨ ¬ f ≤ 5) : MD G t_X10_findings [wm_r G (96), .int (f)] (M) (some (.int (-1))) (M) := by
  refine wm_met (by decide) (Nat.le_of_ble_eq_true rfl) ?_
  show WA G t_X10_findings (fun v_ N_ => v_ = some (.int (-1)) ∧ N_ = M) 0 [(0, wm_r G (96)), (1, .int (f))] [] (M)
  refine wa_iload_n dX10_findings_0 rfl 1 rfl ?_
  refine wa_iconst (1) dX10_findings_1 (by decide) ?_
  refine wa_iconst (5) dX10_findings_2 (by decide) ?_
  refine wa_cSi (x_in f 1 5) vX10_in iX10_findings_3 rfl rfl (Nat.le_of_ble_eq_true rfl) ⟨by decide, by decide⟩ ?_
  refine wa_eqi (y := (0)) (by rw [show inC f 1 5 = false from Bool.eq_false_iff.mpr (fun q => (inC_1 (m := 5) (by decide)).mp q hf)]; rfl) ?_
  refine wa_if_eq 18 dX10_findings_6 (by decide) (fun c_6 => ?_) (fun c_6 => absurd c_6 (by decide))
  refine wa_iconst (-1) dX10_findings_18 (by decide) ?_
  exact wa_iret dX10_findings_19 rfl ⟨congrArg (fun z => some (Value.int z)) (rfl), rfl⟩

theorem x_findings_ok {G : wm_G} {M : wm_M} (f : Nat) (h1 : 1 ≤ f) (h5 : f ≤ 5) : MD G t_X10_findings [wm_r G (96), .int (nI (f))] (M) (some (.int (M.1 97 f))) (M) := by
  refine wm_met (by decide) (Nat.le_of_ble_eq_true rfl) ?_
  show WA G t_X10_findings (fun v_ N_ => v_ = some (.int (M.1 97 f)) ∧ N_ = M) 0 [(0, wm_r G (96)), (1, .int (nI (f)))] [] (M)
  refine wa_iload_n dX10_findings_0 rfl 1 rfl ?_
  refine wa_iconst (1) dX10_findings_1 (by decide) ?_
  refine wa_iconst (5) dX10_findings_2 (by decide) ?_
  refine wa_cSi (x_in (nI f) 1 5) vX10_in iX10_findings_3 rfl rfl (Nat.le_of_ble_eq_true rfl) ⟨by decide, by decide⟩ ?_
  refine wa_eqi (y := (1)) (by rw [show inC (nI f) 1 5 = true from inC_t (fun q => by have := (nI_ltI (b := 1) (by omega) (by decide)).mp q; omega) ((nI_leI (b := 5) (by omega) (by decide)).mpr h5)]; rfl) ?_
  refine wa_if_eq 18 dX10_findings_6 (by decide) (fun c_6 => absurd c_6 (by decide)) (fun c_6 => ?_)
  refine wa_aload_n dX10_findings_9 rfl 0 rfl ?_
  refine wa_getr gX10_findings_10 (rfl) rfl ?_
  refine wa_iload_n dX10_findings_13 rfl 1 rfl ?_
  refine wa_ialdN (e := f) dX10_findings_14 (rfl) (by omega) (by decide) ?_
  refine wa_goto 19 dX10_findings_15 (by decide) ?_
  exact wa_iret dX10_findings_19 rfl ⟨congrArg (fun z => some (Value.int z)) (rfl), rfl⟩

theorem x_frac {G : wm_G} {M : wm_M} (u l : Nat) (a : Int32) (hu : u < 2 ^ 63) (hl : l < 2 ^ 63) (h0 : 0 < l) : MD G t_X10_fraction [wm_r G (96), .long (lN u), .long (lN l), .int (a)] (M) (some (.int (a))) (xFr2 M (lN (u / Nat.gcd u l)) (lN (l / Nat.gcd u l))) := by
  refine wm_met (by decide) (Nat.le_of_ble_eq_true rfl) ?_
  show WA G t_X10_fraction (fun v_ N_ => v_ = some (.int (a)) ∧ N_ = xFr2 M (lN (u / Nat.gcd u l)) (lN (l / Nat.gcd u l))) 0 [(0, wm_r G (96)), (1, .long (lN u)), (3, .long (lN l)), (5, .int (a))] [] (M)
  refine wa_lload_n dX10_fraction_0 rfl 1 rfl ?_
  refine wa_lstore [(6, .long (lN u)), (0, wm_r G (96)), (1, .long (lN u)), (3, .long (lN l)), (5, .int (a))] dX10_fraction_1 (by decide) rfl ?_
  refine wa_lload_n dX10_fraction_3 rfl 3 rfl ?_
  refine wa_lstore [(8, .long (lN l)), (6, .long (lN u)), (0, wm_r G (96)), (1, .long (lN u)), (3, .long (lN l)), (5, .int (a))] dX10_fraction_4 (by decide) rfl ?_
  have L_6 : ∀ (n_ : Nat) (x y : Nat), (y) < n_ → (x < 2 ^ 63) → (y < 2 ^ 63) → (Nat.gcd x y = Nat.gcd u l) → WA G t_X10_fraction (fun v_ N_ => v_ = some (.int (a)) ∧ N_ = xFr2 M (lN (u / Nat.gcd u l)) (lN (l / Nat.gcd u l))) 6 [(8, .long (lN y)), (6, .long (lN x)), (0, wm_r G (96)), (1, .long (lN u)), (3, .long (lN l)), (5, .int (a))] [] (M) := by
    intro n_
    induction n_ with
    | zero => intro x y h_; exact absurd h_ (Nat.not_lt_zero _)
    | succ n_ ih_6 =>
      intro x y h_ hx hy hg
      refine wa_lload dX10_fraction_6 0 rfl ?_
      refine wa_lconst (0) dX10_fraction_8 (by decide) ?_
      refine wa_lcmp dX10_fraction_9 ?_
      refine wa_if_eq 31 dX10_fraction_10 (by decide) (fun c_10 => ?_) (fun c_10 => ?_)
      · have hy0 : y = 0 := (lg_cmp0 hy).mp c_10
        have hxg : x = Nat.gcd u l := by rw [← hg, hy0, Nat.gcd_zero_right]
        have hg0 : 0 < Nat.gcd u l := Nat.gcd_pos_of_pos_right _ h0
        have hgl : Nat.gcd u l < 2 ^ 63 := Nat.lt_of_le_of_lt (Nat.le_of_dvd h0 (Nat.gcd_dvd_right u l)) hl
        subst hxg
        refine wa_aload_n dX10_fraction_31 rfl 2 rfl ?_
        refine wa_lload_n dX10_fraction_32 rfl 3 rfl ?_
        refine wa_lload dX10_fraction_33 1 rfl ?_
        refine wa_eql (y := lN (Nat.gcd u l)) (rfl) ?_
        refine wa_ldiv dX10_fraction_35 (lN_ne0 hg0 hgl) ?_
        refine wa_eql (y := lN (u / Nat.gcd u l)) (pk_lDiv hu hg0 hgl) ?_
        refine wa_putl gX10_fraction_36 (rfl) rfl ?_
        refine wa_aload_n dX10_fraction_39 rfl 2 rfl ?_
        refine wa_lload_n dX10_fraction_40 rfl 4 rfl ?_
        refine wa_lload dX10_fraction_41 1 rfl ?_
        refine wa_eql (y := lN (Nat.gcd u l)) (rfl) ?_
        refine wa_ldiv dX10_fraction_43 (lN_ne0 hg0 hgl) ?_
        refine wa_eql (y := lN (l / Nat.gcd u l)) (pk_lDiv hl hg0 hgl) ?_
        refine wa_putl gX10_fraction_44 (rfl) rfl ?_
        refine wa_iload dX10_fraction_47 5 rfl ?_
        exact wa_iret dX10_fraction_49 rfl ⟨congrArg (fun z => some (Value.int z)) (rfl), rfl⟩
      · have hy0 : 0 < y := Nat.pos_of_ne_zero (fun q => c_10 ((lg_cmp0 hy).mpr q))
        refine wa_lload dX10_fraction_13 1 rfl ?_
        refine wa_lload dX10_fraction_15 0 rfl ?_
        refine wa_lrem dX10_fraction_17 (lN_ne0 hy0 hy) ?_
        refine wa_eql (y := lN (x % y)) (lN_rem hx hy0 hy) ?_
        refine wa_lstore [(10, .long (lN (x % y))), (8, .long (lN y)), (6, .long (lN x)), (0, wm_r G (96)), (1, .long (lN u)), (3, .long (lN l)), (5, .int (a))] dX10_fraction_18 (by decide) rfl ?_
        refine wa_lload dX10_fraction_20 1 rfl ?_
        refine wa_lstore [(6, .long (lN y)), (10, .long (lN (x % y))), (8, .long (lN y)), (0, wm_r G (96)), (1, .long (lN u)), (3, .long (lN l)), (5, .int (a))] dX10_fraction_22 (by decide) rfl ?_
        refine wa_lload dX10_fraction_24 1 rfl ?_
        refine wa_lstore [(8, .long (lN (x % y))), (6, .long (lN y)), (10, .long (lN (x % y))), (0, wm_r G (96)), (1, .long (lN u)), (3, .long (lN l)), (5, .int (a))] dX10_fraction_26 (by decide) rfl ?_
        refine wa_goto 6 dX10_fraction_28 (by decide) ?_
        refine wa_sub [0, 1, 3, 4, 5, 6] rfl ?_
        exact ih_6 y (x % y) (by have := Nat.mod_lt x hy0; omega) hy (Nat.lt_trans (Nat.mod_lt _ hy0) hy) (by rw [← hg, Nat.gcd_comm x y, Nat.gcd_rec y x, Nat.gcd_comm])
  exact L_6 _ u l (Nat.lt_succ_self _) hu hl rfl

theorem x_rowAt {G : wm_G} {M : wm_M} (r i : Nat) (hr : r < 6) (hi : i < 60) : MD G t_X10_rowAt [wm_r G (96), .int (nI (r)), .int (nI (i))] (M) (some (.int (M.1 99 (60 * r + i)))) (M) := by
  refine wm_met (by decide) (Nat.le_of_ble_eq_true rfl) ?_
  show WA G t_X10_rowAt (fun v_ N_ => v_ = some (.int (M.1 99 (60 * r + i))) ∧ N_ = M) 0 [(0, wm_r G (96)), (1, .int (nI (r))), (2, .int (nI (i)))] [] (M)
  refine wa_aload_n dX10_rowAt_0 rfl 0 rfl ?_
  refine wa_getr gX10_rowAt_1 (rfl) rfl ?_
  refine wa_bipush (60) dX10_rowAt_4 (by decide) ?_
  refine wa_iload_n dX10_rowAt_6 rfl 1 rfl ?_
  refine wa_imulN (a := 60) (b := r) dX10_rowAt_7 ?_
  refine wa_iload_n dX10_rowAt_8 rfl 2 rfl ?_
  refine wa_iaddN (a := 60 * r) (b := i) dX10_rowAt_9 ?_
  refine wa_ialdN (e := 60 * r + i) dX10_rowAt_10 (rfl) (by omega) (by decide) ?_
  exact wa_iret dX10_rowAt_11 rfl ⟨congrArg (fun z => some (Value.int z)) (rfl), rfl⟩

theorem x_row_bad {G : wm_G} {M : wm_M} (r : Int32) (hr : wIn r 6 = false) (n : Int32) : MD G t_X10_row [wm_r G (96), .int (r), .int (n)] (M) (some (.int (-1))) (M) := by
  refine wm_met (by decide) (Nat.le_of_ble_eq_true rfl) ?_
  show WA G t_X10_row (fun v_ N_ => v_ = some (.int (-1)) ∧ N_ = M) 0 [(0, wm_r G (96)), (1, .int (r)), (2, .int (n))] [] (M)
  refine wa_iload_n dX10_row_0 rfl 1 rfl ?_
  refine wa_cSi (x_isRow r) vX10_isRow iX10_row_1 rfl rfl (Nat.le_of_ble_eq_true rfl) ⟨by decide, by decide⟩ ?_
  refine wa_eqi (y := (0)) (by rw [hr]; rfl) ?_
  refine wa_if_eq 13 dX10_row_4 (by decide) (fun c_4 => ?_) (fun c_4 => absurd c_4 (by decide))
  refine wa_iconst (-1) dX10_row_13 (by decide) ?_
  exact wa_iret dX10_row_14 rfl ⟨congrArg (fun z => some (Value.int z)) (rfl), rfl⟩

theorem x_row_big {G : wm_G} {M : wm_M} (r : Nat) (hr : r < 6) (n : Int32) (hn : ¬ n ≤ nI 60) : MD G t_X10_row [wm_r G (96), .int (nI (r)), .int (n)] (M) (some (.int (-1))) (M) := by
  refine wm_met (by decide) (Nat.le_of_ble_eq_true rfl) ?_
  show WA G t_X10_row (fun v_ N_ => v_ = some (.int (-1)) ∧ N_ = M) 0 [(0, wm_r G (96)), (1, .int (nI (r))), (2, .int (n))] [] (M)
  refine wa_iload_n dX10_row_0 rfl 1 rfl ?_
  refine wa_cSi (x_isRow (nI r)) vX10_isRow iX10_row_1 rfl rfl (Nat.le_of_ble_eq_true rfl) ⟨by decide, by decide⟩ ?_
  refine wa_eqi (y := (1)) (by rw [wIn_nI (by omega), decide_eq_true (by omega)]; rfl) ?_
  refine wa_if_eq 13 dX10_row_4 (by decide) (fun c_4 => absurd c_4 (by decide)) (fun c_4 => ?_)
  refine wa_iload_n dX10_row_7 rfl 2 rfl ?_
  refine wa_bipush (60) dX10_row_8 (by decide) ?_
  refine wa_icmp_le 15 dX10_row_10 (by decide) (fun c_10 => absurd c_10 hn) (fun c_10 => ?_)
  refine wa_iconst (-1) dX10_row_13 (by decide) ?_
  exact wa_iret dX10_row_14 rfl ⟨congrArg (fun z => some (Value.int z)) (rfl), rfl⟩

theorem x_row_neg {G : wm_G} {M : wm_M} (r : Nat) (hr : r < 6) (n : Int32) (hn : n < 0) : MD G t_X10_row [wm_r G (96), .int (nI (r)), .int (n)] (M) (some (.int (-3))) (xNote M 5) := by
  refine wm_met (by decide) (Nat.le_of_ble_eq_true rfl) ?_
  show WA G t_X10_row (fun v_ N_ => v_ = some (.int (-3)) ∧ N_ = xNote M 5) 0 [(0, wm_r G (96)), (1, .int (nI (r))), (2, .int (n))] [] (M)
  refine wa_iload_n dX10_row_0 rfl 1 rfl ?_
  refine wa_cSi (x_isRow (nI r)) vX10_isRow iX10_row_1 rfl rfl (Nat.le_of_ble_eq_true rfl) ⟨by decide, by decide⟩ ?_
  refine wa_eqi (y := (1)) (by rw [wIn_nI (by omega), decide_eq_true (by omega)]; rfl) ?_
  refine wa_if_eq 13 dX10_row_4 (by decide) (fun c_4 => absurd c_4 (by decide)) (fun c_4 => ?_)
  refine wa_iload_n dX10_row_7 rfl 2 rfl ?_
  refine wa_bipush (60) dX10_row_8 (by decide) ?_
  refine wa_icmp_le 15 dX10_row_10 (by decide) (fun c_10 => ?_) (fun c_10 => absurd (neg_le (m := 60) (by decide) hn) c_10)
  refine wa_iload_n dX10_row_15 rfl 2 rfl ?_
  refine wa_if_ge 25 dX10_row_16 (by decide) (fun c_16 => absurd hn (Int32.not_lt.mpr c_16)) (fun c_16 => ?_)
  refine wa_aload_n dX10_row_19 rfl 0 rfl ?_
  refine wa_iconst (5) dX10_row_20 (by decide) ?_
  refine wa_cVi (x_meets 5 (by decide) (by decide)) vX10_meets iX10_row_21 (rfl) rfl rfl rfl (Nat.le_of_ble_eq_true rfl) ⟨by decide, by decide⟩ ?_
  exact wa_iret dX10_row_24 rfl ⟨congrArg (fun z => some (Value.int z)) (rfl), rfl⟩

theorem x_row_ok {G : wm_G} {M : wm_M} (r : Nat) (hr : r < 6) (n : Nat) (hn : n ≤ 60) : MD G t_X10_row [wm_r G (96), .int (nI (r)), .int (nI (n))] (M) (some (.int (nI (n)))) (wIa (wI M 98 r (nI n)) 99 (wFill (M.1 99) (60 * r) (60 * r + (60)) 0)) := by
  refine wm_met (by decide) (Nat.le_of_ble_eq_true rfl) ?_
  show WA G t_X10_row (fun v_ N_ => v_ = some (.int (nI (n))) ∧ N_ = wIa (wI M 98 r (nI n)) 99 (wFill (M.1 99) (60 * r) (60 * r + (60)) 0)) 0 [(0, wm_r G (96)), (1, .int (nI (r))), (2, .int (nI (n)))] [] (M)
  refine wa_iload_n dX10_row_0 rfl 1 rfl ?_
  refine wa_cSi (x_isRow (nI r)) vX10_isRow iX10_row_1 rfl rfl (Nat.le_of_ble_eq_true rfl) ⟨by decide, by decide⟩ ?_
  refine wa_eqi (y := (1)) (by rw [wIn_nI (by omega), decide_eq_true (by omega)]; rfl) ?_
  refine wa_if_eq 13 dX10_row_4 (by decide) (fun c_4 => absurd c_4 (by decide)) (fun c_4 => ?_)
  refine wa_iload_n dX10_row_7 rfl 2 rfl ?_
  refine wa_bipush (60) dX10_row_8 (by decide) ?_
  refine wa_icmp_leN (a := n) (b := 60) 15 dX10_row_10 (by decide) (by omega) (by omega) (fun c_10 => ?_) (fun c_10 => absurd c_10 (by omega))
  refine wa_iload_n dX10_row_15 rfl 2 rfl ?_
  refine wa_if_geN (a := n) 25 dX10_row_16 (by decide) (by omega) (fun c_16 => ?_) (fun c_16 => absurd c_16 (by omega))
  refine wa_aload_n dX10_row_25 rfl 0 rfl ?_
  refine wa_getr gX10_row_26 (rfl) rfl ?_
  refine wa_iload_n dX10_row_29 rfl 1 rfl ?_
  refine wa_iload_n dX10_row_30 rfl 2 rfl ?_
  refine wa_iastN (e := r) dX10_row_31 (rfl) (by omega) (by decide) ?_
  refine wa_iconst (0) dX10_row_32 (by decide) ?_
  refine wa_istore_n [(3, .int (0)), (0, wm_r G (96)), (1, .int (nI (r))), (2, .int (nI (n)))] dX10_row_33 rfl (by decide) rfl ?_
  have L_34 : ∀ (n_ : Nat) (i : Nat), (60 - i) < n_ → (i ≤ 60) → WA G t_X10_row (fun v_ N_ => v_ = some (.int (nI (n))) ∧ N_ = wIa (wI M 98 r (nI n)) 99 (wFill (M.1 99) (60 * r) (60 * r + (60)) 0)) 34 [(3, .int (nI (i))), (0, wm_r G (96)), (1, .int (nI (r))), (2, .int (nI (n)))] [] (wIa (wI M 98 r (nI n)) 99 (wFill (M.1 99) (60 * r) (60 * r + (i)) 0)) := by
    intro n_
    induction n_ with
    | zero => intro i h_; exact absurd h_ (Nat.not_lt_zero _)
    | succ n_ ih_34 =>
      intro i h_ hi
      refine wa_iload_n dX10_row_34 rfl 0 rfl ?_
      refine wa_bipush (60) dX10_row_35 (by decide) ?_
      refine wa_icmp_geN (a := i) (b := 60) 58 dX10_row_37 (by decide) (by omega) (by omega) (fun c_37 => ?_) (fun c_37 => ?_)
      · refine wa_iload_n dX10_row_58 rfl 3 rfl ?_
        exact wa_iret dX10_row_59 rfl ⟨congrArg (fun z => some (Value.int z)) (rfl), by rw [show i = 60 by omega]⟩
      · refine wa_aload_n dX10_row_40 rfl 1 rfl ?_
        refine wa_getr gX10_row_41 (rfl) rfl ?_
        refine wa_bipush (60) dX10_row_44 (by decide) ?_
        refine wa_iload_n dX10_row_46 rfl 2 rfl ?_
        refine wa_imulN (a := 60) (b := r) dX10_row_47 ?_
        refine wa_iload_n dX10_row_48 rfl 0 rfl ?_
        refine wa_iaddN (a := 60 * r) (b := i) dX10_row_49 ?_
        refine wa_iconst (0) dX10_row_50 (by decide) ?_
        refine wa_iastN (e := 60 * r + i) dX10_row_51 (rfl) (by omega) (by decide) ?_
        refine wa_eqm (M' := wIa (wI M 98 r (nI n)) 99 (wFill (M.1 99) (60 * r) (60 * r + (i + 1)) 0)) ((wI_wIa.trans (congrArg (wIa _ 99) (wFill_s (f := M.1 99) (a := 60 * r) (i := 60 * r + i) (v := 0) (by omega))))) ?_
        refine wa_iinc ((nI (i + 1))) [(3, .int (nI (i + 1))), (0, wm_r G (96)), (1, .int (nI (r))), (2, .int (nI (n)))] dX10_row_52 0 rfl (nI_inc _) (by decide) rfl ?_
        refine wa_goto 34 dX10_row_55 (by decide) ?_
        exact ih_34 (i + 1) (by omega) (by omega)
  refine wa_eqm (M' := wIa (wI M 98 r (nI n)) 99 (wFill (M.1 99) (60 * r) (60 * r + (0)) 0)) (fill_start (wI_c (by decide))) ?_
  exact L_34 _ 0 (Nat.lt_succ_self _) (Nat.zero_le _)

theorem x_text_bad {G : wm_G} {M : wm_M} (r : Int32) (hr : wIn r 4 = false) (n : Int32) : MD G t_X10_text [wm_r G (96), .int (r), .int (n)] (M) (some (.int (-1))) (M) := by
  refine wm_met (by decide) (Nat.le_of_ble_eq_true rfl) ?_
  show WA G t_X10_text (fun v_ N_ => v_ = some (.int (-1)) ∧ N_ = M) 0 [(0, wm_r G (96)), (1, .int (r)), (2, .int (n))] [] (M)
  refine wa_iload_n dX10_text_0 rfl 1 rfl ?_
  refine wa_cSi (x_isText r) vX10_isText iX10_text_1 rfl rfl (Nat.le_of_ble_eq_true rfl) ⟨by decide, by decide⟩ ?_
  refine wa_eqi (y := (0)) (by rw [hr]; rfl) ?_
  refine wa_if_eq 13 dX10_text_4 (by decide) (fun c_4 => ?_) (fun c_4 => absurd c_4 (by decide))
  refine wa_iconst (-1) dX10_text_13 (by decide) ?_
  exact wa_iret dX10_text_14 rfl ⟨congrArg (fun z => some (Value.int z)) (rfl), rfl⟩

theorem x_text_big {G : wm_G} {M : wm_M} (r : Nat) (hr : r < 4) (n : Int32) (hn : ¬ n ≤ nI 80) : MD G t_X10_text [wm_r G (96), .int (nI (r)), .int (n)] (M) (some (.int (-1))) (M) := by
  refine wm_met (by decide) (Nat.le_of_ble_eq_true rfl) ?_
  show WA G t_X10_text (fun v_ N_ => v_ = some (.int (-1)) ∧ N_ = M) 0 [(0, wm_r G (96)), (1, .int (nI (r))), (2, .int (n))] [] (M)
  refine wa_iload_n dX10_text_0 rfl 1 rfl ?_
  refine wa_cSi (x_isText (nI r)) vX10_isText iX10_text_1 rfl rfl (Nat.le_of_ble_eq_true rfl) ⟨by decide, by decide⟩ ?_
  refine wa_eqi (y := (1)) (by rw [wIn_nI (by omega), decide_eq_true (by omega)]; rfl) ?_
  refine wa_if_eq 13 dX10_text_4 (by decide) (fun c_4 => absurd c_4 (by decide)) (fun c_4 => ?_)
  refine wa_iload_n dX10_text_7 rfl 2 rfl ?_
  refine wa_bipush (80) dX10_text_8 (by decide) ?_
  refine wa_icmp_le 15 dX10_text_10 (by decide) (fun c_10 => absurd c_10 hn) (fun c_10 => ?_)
  refine wa_iconst (-1) dX10_text_13 (by decide) ?_
  exact wa_iret dX10_text_14 rfl ⟨congrArg (fun z => some (Value.int z)) (rfl), rfl⟩

theorem x_text_neg {G : wm_G} {M : wm_M} (r : Nat) (hr : r < 4) (n : Int32) (hn : n < 0) : MD G t_X10_text [wm_r G (96), .int (nI (r)), .int (n)] (M) (some (.int (-3))) (xNote M 5) := by
  refine wm_met (by decide) (Nat.le_of_ble_eq_true rfl) ?_
  show WA G t_X10_text (fun v_ N_ => v_ = some (.int (-3)) ∧ N_ = xNote M 5) 0 [(0, wm_r G (96)), (1, .int (nI (r))), (2, .int (n))] [] (M)
  refine wa_iload_n dX10_text_0 rfl 1 rfl ?_
  refine wa_cSi (x_isText (nI r)) vX10_isText iX10_text_1 rfl rfl (Nat.le_of_ble_eq_true rfl) ⟨by decide, by decide⟩ ?_
  refine wa_eqi (y := (1)) (by rw [wIn_nI (by omega), decide_eq_true (by omega)]; rfl) ?_
  refine wa_if_eq 13 dX10_text_4 (by decide) (fun c_4 => absurd c_4 (by decide)) (fun c_4 => ?_)
  refine wa_iload_n dX10_text_7 rfl 2 rfl ?_
  refine wa_bipush (80) dX10_text_8 (by decide) ?_
  refine wa_icmp_le 15 dX10_text_10 (by decide) (fun c_10 => ?_) (fun c_10 => absurd (neg_le (m := 80) (by decide) hn) c_10)
  refine wa_iload_n dX10_text_15 rfl 2 rfl ?_
  refine wa_if_ge 25 dX10_text_16 (by decide) (fun c_16 => absurd hn (Int32.not_lt.mpr c_16)) (fun c_16 => ?_)
  refine wa_aload_n dX10_text_19 rfl 0 rfl ?_
  refine wa_iconst (5) dX10_text_20 (by decide) ?_
  refine wa_cVi (x_meets 5 (by decide) (by decide)) vX10_meets iX10_text_21 (rfl) rfl rfl rfl (Nat.le_of_ble_eq_true rfl) ⟨by decide, by decide⟩ ?_
  exact wa_iret dX10_text_24 rfl ⟨congrArg (fun z => some (Value.int z)) (rfl), rfl⟩

theorem x_text_ok {G : wm_G} {M : wm_M} (r : Nat) (hr : r < 4) (n : Nat) (hn : n ≤ 80) : MD G t_X10_text [wm_r G (96), .int (nI (r)), .int (nI (n))] (M) (some (.int (nI (n)))) (wIa (wI M 101 r (nI n)) 102 (wFill (M.1 102) (80 * r) (80 * r + (80)) 32)) := by
  refine wm_met (by decide) (Nat.le_of_ble_eq_true rfl) ?_
  show WA G t_X10_text (fun v_ N_ => v_ = some (.int (nI (n))) ∧ N_ = wIa (wI M 101 r (nI n)) 102 (wFill (M.1 102) (80 * r) (80 * r + (80)) 32)) 0 [(0, wm_r G (96)), (1, .int (nI (r))), (2, .int (nI (n)))] [] (M)
  refine wa_iload_n dX10_text_0 rfl 1 rfl ?_
  refine wa_cSi (x_isText (nI r)) vX10_isText iX10_text_1 rfl rfl (Nat.le_of_ble_eq_true rfl) ⟨by decide, by decide⟩ ?_
  refine wa_eqi (y := (1)) (by rw [wIn_nI (by omega), decide_eq_true (by omega)]; rfl) ?_
  refine wa_if_eq 13 dX10_text_4 (by decide) (fun c_4 => absurd c_4 (by decide)) (fun c_4 => ?_)
  refine wa_iload_n dX10_text_7 rfl 2 rfl ?_
  refine wa_bipush (80) dX10_text_8 (by decide) ?_
  refine wa_icmp_leN (a := n) (b := 80) 15 dX10_text_10 (by decide) (by omega) (by omega) (fun c_10 => ?_) (fun c_10 => absurd c_10 (by omega))
  refine wa_iload_n dX10_text_15 rfl 2 rfl ?_
  refine wa_if_geN (a := n) 25 dX10_text_16 (by decide) (by omega) (fun c_16 => ?_) (fun c_16 => absurd c_16 (by omega))
  refine wa_aload_n dX10_text_25 rfl 0 rfl ?_
  refine wa_getr gX10_text_26 (rfl) rfl ?_
  refine wa_iload_n dX10_text_29 rfl 1 rfl ?_
  refine wa_iload_n dX10_text_30 rfl 2 rfl ?_
  refine wa_iastN (e := r) dX10_text_31 (rfl) (by omega) (by decide) ?_
  refine wa_iconst (0) dX10_text_32 (by decide) ?_
  refine wa_istore_n [(3, .int (0)), (0, wm_r G (96)), (1, .int (nI (r))), (2, .int (nI (n)))] dX10_text_33 rfl (by decide) rfl ?_
  have L_34 : ∀ (n_ : Nat) (i : Nat), (80 - i) < n_ → (i ≤ 80) → WA G t_X10_text (fun v_ N_ => v_ = some (.int (nI (n))) ∧ N_ = wIa (wI M 101 r (nI n)) 102 (wFill (M.1 102) (80 * r) (80 * r + (80)) 32)) 34 [(3, .int (nI (i))), (0, wm_r G (96)), (1, .int (nI (r))), (2, .int (nI (n)))] [] (wIa (wI M 101 r (nI n)) 102 (wFill (M.1 102) (80 * r) (80 * r + (i)) 32)) := by
    intro n_
    induction n_ with
    | zero => intro i h_; exact absurd h_ (Nat.not_lt_zero _)
    | succ n_ ih_34 =>
      intro i h_ hi
      refine wa_iload_n dX10_text_34 rfl 0 rfl ?_
      refine wa_bipush (80) dX10_text_35 (by decide) ?_
      refine wa_icmp_geN (a := i) (b := 80) 59 dX10_text_37 (by decide) (by omega) (by omega) (fun c_37 => ?_) (fun c_37 => ?_)
      · refine wa_iload_n dX10_text_59 rfl 3 rfl ?_
        exact wa_iret dX10_text_60 rfl ⟨congrArg (fun z => some (Value.int z)) (rfl), by rw [show i = 80 by omega]⟩
      · refine wa_aload_n dX10_text_40 rfl 1 rfl ?_
        refine wa_getr gX10_text_41 (rfl) rfl ?_
        refine wa_bipush (80) dX10_text_44 (by decide) ?_
        refine wa_iload_n dX10_text_46 rfl 2 rfl ?_
        refine wa_imulN (a := 80) (b := r) dX10_text_47 ?_
        refine wa_iload_n dX10_text_48 rfl 0 rfl ?_
        refine wa_iaddN (a := 80 * r) (b := i) dX10_text_49 ?_
        refine wa_bipush (32) dX10_text_50 (by decide) ?_
        refine wa_bastN (e := 80 * r + i) dX10_text_52 (rfl) (by omega) (by decide) ?_
        refine wa_eqm (M' := wIa (wI M 101 r (nI n)) 102 (wFill (M.1 102) (80 * r) (80 * r + (i + 1)) 32)) ((wI_wIa.trans (congrArg (wIa _ 102) (wFill_s (f := M.1 102) (a := 80 * r) (i := 80 * r + i) (v := 32) (by omega))))) ?_
        refine wa_iinc ((nI (i + 1))) [(3, .int (nI (i + 1))), (0, wm_r G (96)), (1, .int (nI (r))), (2, .int (nI (n)))] dX10_text_53 0 rfl (nI_inc _) (by decide) rfl ?_
        refine wa_goto 34 dX10_text_56 (by decide) ?_
        exact ih_34 (i + 1) (by omega) (by omega)
  refine wa_eqm (M' := wIa (wI M 101 r (nI n)) 102 (wFill (M.1 102) (80 * r) (80 * r + (0)) 32)) (fill_start (wI_c (by decide))) ?_
  exact L_34 _ 0 (Nat.lt_succ_self _) (Nat.zero_le _)

theorem x_lay_bad {G : wm_G} {M : wm_M} (r : Int32) (hr : wIn r 6 = false) (i : Int32) (v : Int32) : MD G t_X10_lay [wm_r G (96), .int (r), .int (i), .int (v)] (M) (some (.int (-1))) (M) := by
  refine wm_met (by decide) (Nat.le_of_ble_eq_true rfl) ?_
  show WA G t_X10_lay (fun v_ N_ => v_ = some (.int (-1)) ∧ N_ = M) 0 [(0, wm_r G (96)), (1, .int (r)), (2, .int (i)), (3, .int (v))] [] (M)
  refine wa_iload_n dX10_lay_0 rfl 1 rfl ?_
  refine wa_cSi (x_isRow r) vX10_isRow iX10_lay_1 rfl rfl (Nat.le_of_ble_eq_true rfl) ⟨by decide, by decide⟩ ?_
  refine wa_eqi (y := (0)) (by rw [hr]; rfl) ?_
  refine wa_if_ne 9 dX10_lay_4 (by decide) (fun c_4 => absurd c_4 (by decide)) (fun c_4 => ?_)
  refine wa_iconst (-1) dX10_lay_7 (by decide) ?_
  exact wa_iret dX10_lay_8 rfl ⟨congrArg (fun z => some (Value.int z)) (rfl), rfl⟩

theorem x_lay_no {G : wm_G} {M : wm_M} (r : Nat) (hr : r < 6) (hz : M.1 98 r = -1) (i : Int32) (v : Int32) : MD G t_X10_lay [wm_r G (96), .int (nI (r)), .int (i), .int (v)] (M) (some (.int (-3))) (xNote M 1) := by
  refine wm_met (by decide) (Nat.le_of_ble_eq_true rfl) ?_
  show WA G t_X10_lay (fun v_ N_ => v_ = some (.int (-3)) ∧ N_ = xNote M 1) 0 [(0, wm_r G (96)), (1, .int (nI (r))), (2, .int (i)), (3, .int (v))] [] (M)
  refine wa_iload_n dX10_lay_0 rfl 1 rfl ?_
  refine wa_cSi (x_isRow (nI r)) vX10_isRow iX10_lay_1 rfl rfl (Nat.le_of_ble_eq_true rfl) ⟨by decide, by decide⟩ ?_
  refine wa_eqi (y := (1)) (by rw [wIn_nI (by omega), decide_eq_true (by omega)]; rfl) ?_
  refine wa_if_ne 9 dX10_lay_4 (by decide) (fun c_4 => ?_) (fun c_4 => absurd c_4 (by decide))
  refine wa_aload_n dX10_lay_9 rfl 0 rfl ?_
  refine wa_getr gX10_lay_10 (rfl) rfl ?_
  refine wa_iload_n dX10_lay_13 rfl 1 rfl ?_
  refine wa_ialdN (e := r) dX10_lay_14 (rfl) (by omega) (by decide) ?_
  refine wa_eqi (y := (-1)) (hz) ?_
  refine wa_if_ge 24 dX10_lay_15 (by decide) (fun c_15 => absurd c_15 (by decide)) (fun c_15 => ?_)
  refine wa_aload_n dX10_lay_18 rfl 0 rfl ?_
  refine wa_iconst (1) dX10_lay_19 (by decide) ?_
  refine wa_cVi (x_meets 1 (by decide) (by decide)) vX10_meets iX10_lay_20 (rfl) rfl rfl rfl (Nat.le_of_ble_eq_true rfl) ⟨by decide, by decide⟩ ?_
  exact wa_iret dX10_lay_23 rfl ⟨congrArg (fun z => some (Value.int z)) (rfl), rfl⟩

theorem x_lay_out {G : wm_G} {M : wm_M} (r : Nat) (hr : r < 6) (z : Nat) (hz1 : M.1 98 r = nI z) (hz9 : z ≤ 60) (i : Int32) (hi : wIn i z = false) (v : Int32) : MD G t_X10_lay [wm_r G (96), .int (nI (r)), .int (i), .int (v)] (M) (some (.int (-3))) (xNote M 2) := by
  refine wm_met (by decide) (Nat.le_of_ble_eq_true rfl) ?_
  show WA G t_X10_lay (fun v_ N_ => v_ = some (.int (-3)) ∧ N_ = xNote M 2) 0 [(0, wm_r G (96)), (1, .int (nI (r))), (2, .int (i)), (3, .int (v))] [] (M)
  refine wa_iload_n dX10_lay_0 rfl 1 rfl ?_
  refine wa_cSi (x_isRow (nI r)) vX10_isRow iX10_lay_1 rfl rfl (Nat.le_of_ble_eq_true rfl) ⟨by decide, by decide⟩ ?_
  refine wa_eqi (y := (1)) (by rw [wIn_nI (by omega), decide_eq_true (by omega)]; rfl) ?_
  refine wa_if_ne 9 dX10_lay_4 (by decide) (fun c_4 => ?_) (fun c_4 => absurd c_4 (by decide))
  refine wa_aload_n dX10_lay_9 rfl 0 rfl ?_
  refine wa_getr gX10_lay_10 (rfl) rfl ?_
  refine wa_iload_n dX10_lay_13 rfl 1 rfl ?_
  refine wa_ialdN (e := r) dX10_lay_14 (rfl) (by omega) (by decide) ?_
  refine wa_eqi (y := (nI (z))) (hz1) ?_
  refine wa_if_geN (a := z) 24 dX10_lay_15 (by decide) (by omega) (fun c_15 => ?_) (fun c_15 => absurd c_15 (by omega))
  refine wa_iload_n dX10_lay_24 rfl 2 rfl ?_
  refine wa_iconst (0) dX10_lay_25 (by decide) ?_
  refine wa_aload_n dX10_lay_26 rfl 0 rfl ?_
  refine wa_getr gX10_lay_27 (rfl) rfl ?_
  refine wa_iload_n dX10_lay_30 rfl 1 rfl ?_
  refine wa_ialdN (e := r) dX10_lay_31 (rfl) (by omega) (by decide) ?_
  refine wa_eqi (y := (nI (z))) (hz1) ?_
  refine wa_iconst (1) dX10_lay_32 (by decide) ?_
  refine wa_isub dX10_lay_33 ?_
  refine wa_cSi (x_in i 0 (nI z - 1)) vX10_in iX10_lay_34 rfl rfl (Nat.le_of_ble_eq_true rfl) ⟨by decide, by decide⟩ ?_
  refine wa_eqi (y := (0)) (by rw [inC_z (by omega), hi]; rfl) ?_
  refine wa_if_ne 46 dX10_lay_37 (by decide) (fun c_37 => absurd c_37 (by decide)) (fun c_37 => ?_)
  refine wa_aload_n dX10_lay_40 rfl 0 rfl ?_
  refine wa_iconst (2) dX10_lay_41 (by decide) ?_
  refine wa_cVi (x_meets 2 (by decide) (by decide)) vX10_meets iX10_lay_42 (rfl) rfl rfl rfl (Nat.le_of_ble_eq_true rfl) ⟨by decide, by decide⟩ ?_
  exact wa_iret dX10_lay_45 rfl ⟨congrArg (fun z => some (Value.int z)) (rfl), rfl⟩

theorem x_lay_ok {G : wm_G} {M : wm_M} (r : Nat) (hr : r < 6) (z : Nat) (hz1 : M.1 98 r = nI z) (hz9 : z ≤ 60) (i : Nat) (hi : i < z) (v : Int32) : MD G t_X10_lay [wm_r G (96), .int (nI (r)), .int (nI (i)), .int (v)] (M) (some (.int (1))) (xTell (wI M 99 (60 * r + i) v) (M.1 99 (60 * r + i))) := by
  refine wm_met (by decide) (Nat.le_of_ble_eq_true rfl) ?_
  show WA G t_X10_lay (fun v_ N_ => v_ = some (.int (1)) ∧ N_ = xTell (wI M 99 (60 * r + i) v) (M.1 99 (60 * r + i))) 0 [(0, wm_r G (96)), (1, .int (nI (r))), (2, .int (nI (i))), (3, .int (v))] [] (M)
  refine wa_iload_n dX10_lay_0 rfl 1 rfl ?_
  refine wa_cSi (x_isRow (nI r)) vX10_isRow iX10_lay_1 rfl rfl (Nat.le_of_ble_eq_true rfl) ⟨by decide, by decide⟩ ?_
  refine wa_eqi (y := (1)) (by rw [wIn_nI (by omega), decide_eq_true (by omega)]; rfl) ?_
  refine wa_if_ne 9 dX10_lay_4 (by decide) (fun c_4 => ?_) (fun c_4 => absurd c_4 (by decide))
  refine wa_aload_n dX10_lay_9 rfl 0 rfl ?_
  refine wa_getr gX10_lay_10 (rfl) rfl ?_
  refine wa_iload_n dX10_lay_13 rfl 1 rfl ?_
  refine wa_ialdN (e := r) dX10_lay_14 (rfl) (by omega) (by decide) ?_
  refine wa_eqi (y := (nI (z))) (hz1) ?_
  refine wa_if_geN (a := z) 24 dX10_lay_15 (by decide) (by omega) (fun c_15 => ?_) (fun c_15 => absurd c_15 (by omega))
  refine wa_iload_n dX10_lay_24 rfl 2 rfl ?_
  refine wa_iconst (0) dX10_lay_25 (by decide) ?_
  refine wa_aload_n dX10_lay_26 rfl 0 rfl ?_
  refine wa_getr gX10_lay_27 (rfl) rfl ?_
  refine wa_iload_n dX10_lay_30 rfl 1 rfl ?_
  refine wa_ialdN (e := r) dX10_lay_31 (rfl) (by omega) (by decide) ?_
  refine wa_eqi (y := (nI (z))) (hz1) ?_
  refine wa_iconst (1) dX10_lay_32 (by decide) ?_
  refine wa_isub dX10_lay_33 ?_
  refine wa_cSi (x_in (nI i) 0 (nI z - 1)) vX10_in iX10_lay_34 rfl rfl (Nat.le_of_ble_eq_true rfl) ⟨by decide, by decide⟩ ?_
  refine wa_eqi (y := (1)) (by rw [inC_z (by omega), wIn_nI (by omega), decide_eq_true hi]; rfl) ?_
  refine wa_if_ne 46 dX10_lay_37 (by decide) (fun c_37 => ?_) (fun c_37 => absurd c_37 (by decide))
  refine wa_aload_n dX10_lay_46 rfl 0 rfl ?_
  refine wa_iload_n dX10_lay_47 rfl 1 rfl ?_
  refine wa_iload_n dX10_lay_48 rfl 2 rfl ?_
  refine wa_cVi (x_rowAt r i hr (by omega)) vX10_rowAt iX10_lay_49 (rfl) rfl rfl rfl (Nat.le_of_ble_eq_true rfl) ⟨by decide, by decide⟩ ?_
  refine wa_istore [(4, .int (M.1 99 (60 * r + i))), (0, wm_r G (96)), (1, .int (nI (r))), (2, .int (nI (i))), (3, .int (v))] dX10_lay_52 (by decide) rfl ?_
  refine wa_aload_n dX10_lay_54 rfl 1 rfl ?_
  refine wa_getr gX10_lay_55 (rfl) rfl ?_
  refine wa_bipush (60) dX10_lay_58 (by decide) ?_
  refine wa_iload_n dX10_lay_60 rfl 2 rfl ?_
  refine wa_imulN (a := 60) (b := r) dX10_lay_61 ?_
  refine wa_iload_n dX10_lay_62 rfl 3 rfl ?_
  refine wa_iaddN (a := 60 * r) (b := i) dX10_lay_63 ?_
  refine wa_iload_n dX10_lay_64 rfl 4 rfl ?_
  refine wa_iastN (e := 60 * r + i) dX10_lay_65 (rfl) (by omega) (by decide) ?_
  refine wa_aload_n dX10_lay_66 rfl 1 rfl ?_
  refine wa_iload dX10_lay_67 0 rfl ?_
  refine wa_iconst (1) dX10_lay_69 (by decide) ?_
  refine wa_cVi (x_tells (M.1 99 (60 * r + i)) (1)) vX10_tells iX10_lay_70 (rfl) rfl rfl rfl (Nat.le_of_ble_eq_true rfl) ⟨by decide, by decide⟩ ?_
  exact wa_iret dX10_lay_73 rfl ⟨congrArg (fun z => some (Value.int z)) (rfl), rfl⟩

theorem x_at_bad {G : wm_G} {M : wm_M} (r : Int32) (hr : wIn r 6 = false) (i : Int32) : MD G t_X10_at [wm_r G (96), .int (r), .int (i)] (M) (some (.int (-1))) (M) := by
  refine wm_met (by decide) (Nat.le_of_ble_eq_true rfl) ?_
  show WA G t_X10_at (fun v_ N_ => v_ = some (.int (-1)) ∧ N_ = M) 0 [(0, wm_r G (96)), (1, .int (r)), (2, .int (i))] [] (M)
  refine wa_iload_n dX10_at_0 rfl 1 rfl ?_
  refine wa_cSi (x_isRow r) vX10_isRow iX10_at_1 rfl rfl (Nat.le_of_ble_eq_true rfl) ⟨by decide, by decide⟩ ?_
  refine wa_eqi (y := (0)) (by rw [hr]; rfl) ?_
  refine wa_if_ne 9 dX10_at_4 (by decide) (fun c_4 => absurd c_4 (by decide)) (fun c_4 => ?_)
  refine wa_iconst (-1) dX10_at_7 (by decide) ?_
  exact wa_iret dX10_at_8 rfl ⟨congrArg (fun z => some (Value.int z)) (rfl), rfl⟩

theorem x_at_no {G : wm_G} {M : wm_M} (r : Nat) (hr : r < 6) (hz : M.1 98 r = -1) (i : Int32) : MD G t_X10_at [wm_r G (96), .int (nI (r)), .int (i)] (M) (some (.int (-3))) (xNote M 1) := by
  refine wm_met (by decide) (Nat.le_of_ble_eq_true rfl) ?_
  show WA G t_X10_at (fun v_ N_ => v_ = some (.int (-3)) ∧ N_ = xNote M 1) 0 [(0, wm_r G (96)), (1, .int (nI (r))), (2, .int (i))] [] (M)
  refine wa_iload_n dX10_at_0 rfl 1 rfl ?_
  refine wa_cSi (x_isRow (nI r)) vX10_isRow iX10_at_1 rfl rfl (Nat.le_of_ble_eq_true rfl) ⟨by decide, by decide⟩ ?_
  refine wa_eqi (y := (1)) (by rw [wIn_nI (by omega), decide_eq_true (by omega)]; rfl) ?_
  refine wa_if_ne 9 dX10_at_4 (by decide) (fun c_4 => ?_) (fun c_4 => absurd c_4 (by decide))
  refine wa_aload_n dX10_at_9 rfl 0 rfl ?_
  refine wa_getr gX10_at_10 (rfl) rfl ?_
  refine wa_iload_n dX10_at_13 rfl 1 rfl ?_
  refine wa_ialdN (e := r) dX10_at_14 (rfl) (by omega) (by decide) ?_
  refine wa_eqi (y := (-1)) (hz) ?_
  refine wa_if_ge 24 dX10_at_15 (by decide) (fun c_15 => absurd c_15 (by decide)) (fun c_15 => ?_)
  refine wa_aload_n dX10_at_18 rfl 0 rfl ?_
  refine wa_iconst (1) dX10_at_19 (by decide) ?_
  refine wa_cVi (x_meets 1 (by decide) (by decide)) vX10_meets iX10_at_20 (rfl) rfl rfl rfl (Nat.le_of_ble_eq_true rfl) ⟨by decide, by decide⟩ ?_
  exact wa_iret dX10_at_23 rfl ⟨congrArg (fun z => some (Value.int z)) (rfl), rfl⟩

theorem x_at_out {G : wm_G} {M : wm_M} (r : Nat) (hr : r < 6) (z : Nat) (hz1 : M.1 98 r = nI z) (hz9 : z ≤ 60) (i : Int32) (hi : wIn i z = false) : MD G t_X10_at [wm_r G (96), .int (nI (r)), .int (i)] (M) (some (.int (-3))) (xNote M 2) := by
  refine wm_met (by decide) (Nat.le_of_ble_eq_true rfl) ?_
  show WA G t_X10_at (fun v_ N_ => v_ = some (.int (-3)) ∧ N_ = xNote M 2) 0 [(0, wm_r G (96)), (1, .int (nI (r))), (2, .int (i))] [] (M)
  refine wa_iload_n dX10_at_0 rfl 1 rfl ?_
  refine wa_cSi (x_isRow (nI r)) vX10_isRow iX10_at_1 rfl rfl (Nat.le_of_ble_eq_true rfl) ⟨by decide, by decide⟩ ?_
  refine wa_eqi (y := (1)) (by rw [wIn_nI (by omega), decide_eq_true (by omega)]; rfl) ?_
  refine wa_if_ne 9 dX10_at_4 (by decide) (fun c_4 => ?_) (fun c_4 => absurd c_4 (by decide))
  refine wa_aload_n dX10_at_9 rfl 0 rfl ?_
  refine wa_getr gX10_at_10 (rfl) rfl ?_
  refine wa_iload_n dX10_at_13 rfl 1 rfl ?_
  refine wa_ialdN (e := r) dX10_at_14 (rfl) (by omega) (by decide) ?_
  refine wa_eqi (y := (nI (z))) (hz1) ?_
  refine wa_if_geN (a := z) 24 dX10_at_15 (by decide) (by omega) (fun c_15 => ?_) (fun c_15 => absurd c_15 (by omega))
  refine wa_iload_n dX10_at_24 rfl 2 rfl ?_
  refine wa_iconst (0) dX10_at_25 (by decide) ?_
  refine wa_aload_n dX10_at_26 rfl 0 rfl ?_
  refine wa_getr gX10_at_27 (rfl) rfl ?_
  refine wa_iload_n dX10_at_30 rfl 1 rfl ?_
  refine wa_ialdN (e := r) dX10_at_31 (rfl) (by omega) (by decide) ?_
  refine wa_eqi (y := (nI (z))) (hz1) ?_
  refine wa_iconst (1) dX10_at_32 (by decide) ?_
  refine wa_isub dX10_at_33 ?_
  refine wa_cSi (x_in i 0 (nI z - 1)) vX10_in iX10_at_34 rfl rfl (Nat.le_of_ble_eq_true rfl) ⟨by decide, by decide⟩ ?_
  refine wa_eqi (y := (0)) (by rw [inC_z (by omega), hi]; rfl) ?_
  refine wa_if_eq 54 dX10_at_37 (by decide) (fun c_37 => ?_) (fun c_37 => absurd c_37 (by decide))
  refine wa_aload_n dX10_at_54 rfl 0 rfl ?_
  refine wa_iconst (2) dX10_at_55 (by decide) ?_
  refine wa_cVi (x_meets 2 (by decide) (by decide)) vX10_meets iX10_at_56 (rfl) rfl rfl rfl (Nat.le_of_ble_eq_true rfl) ⟨by decide, by decide⟩ ?_
  exact wa_iret dX10_at_59 rfl ⟨congrArg (fun z => some (Value.int z)) (rfl), rfl⟩

theorem x_at_ok {G : wm_G} {M : wm_M} (r : Nat) (hr : r < 6) (z : Nat) (hz1 : M.1 98 r = nI z) (hz9 : z ≤ 60) (i : Nat) (hi : i < z) : MD G t_X10_at [wm_r G (96), .int (nI (r)), .int (nI (i))] (M) (some (.int (1))) (xTell M (M.1 99 (60 * r + i))) := by
  refine wm_met (by decide) (Nat.le_of_ble_eq_true rfl) ?_
  show WA G t_X10_at (fun v_ N_ => v_ = some (.int (1)) ∧ N_ = xTell M (M.1 99 (60 * r + i))) 0 [(0, wm_r G (96)), (1, .int (nI (r))), (2, .int (nI (i)))] [] (M)
  refine wa_iload_n dX10_at_0 rfl 1 rfl ?_
  refine wa_cSi (x_isRow (nI r)) vX10_isRow iX10_at_1 rfl rfl (Nat.le_of_ble_eq_true rfl) ⟨by decide, by decide⟩ ?_
  refine wa_eqi (y := (1)) (by rw [wIn_nI (by omega), decide_eq_true (by omega)]; rfl) ?_
  refine wa_if_ne 9 dX10_at_4 (by decide) (fun c_4 => ?_) (fun c_4 => absurd c_4 (by decide))
  refine wa_aload_n dX10_at_9 rfl 0 rfl ?_
  refine wa_getr gX10_at_10 (rfl) rfl ?_
  refine wa_iload_n dX10_at_13 rfl 1 rfl ?_
  refine wa_ialdN (e := r) dX10_at_14 (rfl) (by omega) (by decide) ?_
  refine wa_eqi (y := (nI (z))) (hz1) ?_
  refine wa_if_geN (a := z) 24 dX10_at_15 (by decide) (by omega) (fun c_15 => ?_) (fun c_15 => absurd c_15 (by omega))
  refine wa_iload_n dX10_at_24 rfl 2 rfl ?_
  refine wa_iconst (0) dX10_at_25 (by decide) ?_
  refine wa_aload_n dX10_at_26 rfl 0 rfl ?_
  refine wa_getr gX10_at_27 (rfl) rfl ?_
  refine wa_iload_n dX10_at_30 rfl 1 rfl ?_
  refine wa_ialdN (e := r) dX10_at_31 (rfl) (by omega) (by decide) ?_
  refine wa_eqi (y := (nI (z))) (hz1) ?_
  refine wa_iconst (1) dX10_at_32 (by decide) ?_
  refine wa_isub dX10_at_33 ?_
  refine wa_cSi (x_in (nI i) 0 (nI z - 1)) vX10_in iX10_at_34 rfl rfl (Nat.le_of_ble_eq_true rfl) ⟨by decide, by decide⟩ ?_
  refine wa_eqi (y := (1)) (by rw [inC_z (by omega), wIn_nI (by omega), decide_eq_true hi]; rfl) ?_
  refine wa_if_eq 54 dX10_at_37 (by decide) (fun c_37 => absurd c_37 (by decide)) (fun c_37 => ?_)
  refine wa_aload_n dX10_at_40 rfl 0 rfl ?_
  refine wa_aload_n dX10_at_41 rfl 0 rfl ?_
  refine wa_iload_n dX10_at_42 rfl 1 rfl ?_
  refine wa_iload_n dX10_at_43 rfl 2 rfl ?_
  refine wa_cVi (x_rowAt r i hr (by omega)) vX10_rowAt iX10_at_44 (rfl) rfl rfl rfl (Nat.le_of_ble_eq_true rfl) ⟨by decide, by decide⟩ ?_
  refine wa_iconst (1) dX10_at_47 (by decide) ?_
  refine wa_cVi (x_tells (M.1 99 (60 * r + i)) (1)) vX10_tells iX10_at_48 (rfl) rfl rfl rfl (Nat.le_of_ble_eq_true rfl) ⟨by decide, by decide⟩ ?_
  refine wa_goto 59 dX10_at_51 (by decide) ?_
  exact wa_iret dX10_at_59 rfl ⟨congrArg (fun z => some (Value.int z)) (rfl), rfl⟩

theorem x_tear_bad {G : wm_G} {M : wm_M} (r : Int32) (hr : wIn r 6 = false) : MD G t_X10_tear [wm_r G (96), .int (r)] (M) (some (.int (-1))) (M) := by
  refine wm_met (by decide) (Nat.le_of_ble_eq_true rfl) ?_
  show WA G t_X10_tear (fun v_ N_ => v_ = some (.int (-1)) ∧ N_ = M) 0 [(0, wm_r G (96)), (1, .int (r))] [] (M)
  refine wa_iload_n dX10_tear_0 rfl 1 rfl ?_
  refine wa_cSi (x_isRow r) vX10_isRow iX10_tear_1 rfl rfl (Nat.le_of_ble_eq_true rfl) ⟨by decide, by decide⟩ ?_
  refine wa_eqi (y := (0)) (by rw [hr]; rfl) ?_
  refine wa_if_ne 9 dX10_tear_4 (by decide) (fun c_4 => absurd c_4 (by decide)) (fun c_4 => ?_)
  refine wa_iconst (-1) dX10_tear_7 (by decide) ?_
  exact wa_iret dX10_tear_8 rfl ⟨congrArg (fun z => some (Value.int z)) (rfl), rfl⟩

theorem x_tear_no {G : wm_G} {M : wm_M} (r : Nat) (hr : r < 6) (hz : M.1 98 r = -1) : MD G t_X10_tear [wm_r G (96), .int (nI (r))] (M) (some (.int (-3))) (xNote M 1) := by
  refine wm_met (by decide) (Nat.le_of_ble_eq_true rfl) ?_
  show WA G t_X10_tear (fun v_ N_ => v_ = some (.int (-3)) ∧ N_ = xNote M 1) 0 [(0, wm_r G (96)), (1, .int (nI (r)))] [] (M)
  refine wa_iload_n dX10_tear_0 rfl 1 rfl ?_
  refine wa_cSi (x_isRow (nI r)) vX10_isRow iX10_tear_1 rfl rfl (Nat.le_of_ble_eq_true rfl) ⟨by decide, by decide⟩ ?_
  refine wa_eqi (y := (1)) (by rw [wIn_nI (by omega), decide_eq_true (by omega)]; rfl) ?_
  refine wa_if_ne 9 dX10_tear_4 (by decide) (fun c_4 => ?_) (fun c_4 => absurd c_4 (by decide))
  refine wa_aload_n dX10_tear_9 rfl 0 rfl ?_
  refine wa_getr gX10_tear_10 (rfl) rfl ?_
  refine wa_iload_n dX10_tear_13 rfl 1 rfl ?_
  refine wa_ialdN (e := r) dX10_tear_14 (rfl) (by omega) (by decide) ?_
  refine wa_eqi (y := (-1)) (hz) ?_
  refine wa_if_ge 24 dX10_tear_15 (by decide) (fun c_15 => absurd c_15 (by decide)) (fun c_15 => ?_)
  refine wa_aload_n dX10_tear_18 rfl 0 rfl ?_
  refine wa_iconst (1) dX10_tear_19 (by decide) ?_
  refine wa_cVi (x_meets 1 (by decide) (by decide)) vX10_meets iX10_tear_20 (rfl) rfl rfl rfl (Nat.le_of_ble_eq_true rfl) ⟨by decide, by decide⟩ ?_
  exact wa_iret dX10_tear_23 rfl ⟨congrArg (fun z => some (Value.int z)) (rfl), rfl⟩

theorem x_tear_ok {G : wm_G} {M : wm_M} (r : Nat) (hr : r < 6) (z : Nat) (hz1 : M.1 98 r = nI z) (hz9 : z ≤ 60) : MD G t_X10_tear [wm_r G (96), .int (nI (r))] (M) (some (.int (1))) (wI M 98 r (-1)) := by
  refine wm_met (by decide) (Nat.le_of_ble_eq_true rfl) ?_
  show WA G t_X10_tear (fun v_ N_ => v_ = some (.int (1)) ∧ N_ = wI M 98 r (-1)) 0 [(0, wm_r G (96)), (1, .int (nI (r)))] [] (M)
  refine wa_iload_n dX10_tear_0 rfl 1 rfl ?_
  refine wa_cSi (x_isRow (nI r)) vX10_isRow iX10_tear_1 rfl rfl (Nat.le_of_ble_eq_true rfl) ⟨by decide, by decide⟩ ?_
  refine wa_eqi (y := (1)) (by rw [wIn_nI (by omega), decide_eq_true (by omega)]; rfl) ?_
  refine wa_if_ne 9 dX10_tear_4 (by decide) (fun c_4 => ?_) (fun c_4 => absurd c_4 (by decide))
  refine wa_aload_n dX10_tear_9 rfl 0 rfl ?_
  refine wa_getr gX10_tear_10 (rfl) rfl ?_
  refine wa_iload_n dX10_tear_13 rfl 1 rfl ?_
  refine wa_ialdN (e := r) dX10_tear_14 (rfl) (by omega) (by decide) ?_
  refine wa_eqi (y := (nI (z))) (hz1) ?_
  refine wa_if_geN (a := z) 24 dX10_tear_15 (by decide) (by omega) (fun c_15 => ?_) (fun c_15 => absurd c_15 (by omega))
  refine wa_aload_n dX10_tear_24 rfl 0 rfl ?_
  refine wa_getr gX10_tear_25 (rfl) rfl ?_
  refine wa_iload_n dX10_tear_28 rfl 1 rfl ?_
  refine wa_iconst (-1) dX10_tear_29 (by decide) ?_
  refine wa_iastN (e := r) dX10_tear_30 (rfl) (by omega) (by decide) ?_
  refine wa_iconst (1) dX10_tear_31 (by decide) ?_
  exact wa_iret dX10_tear_32 rfl ⟨congrArg (fun z => some (Value.int z)) (rfl), rfl⟩

theorem x_put_bad {G : wm_G} {M : wm_M} (r : Int32) (hr : wIn r 4 = false) (i v : Int32) : MD G t_X10_put [wm_r G (96), .int (r), .int (i), .int (v)] (M) (some (.int (-1))) (M) := by
  refine wm_met (by decide) (Nat.le_of_ble_eq_true rfl) ?_
  show WA G t_X10_put (fun v_ N_ => v_ = some (.int (-1)) ∧ N_ = M) 0 [(0, wm_r G (96)), (1, .int (r)), (2, .int (i)), (3, .int (v))] [] (M)
  refine wa_iload_n dX10_put_0 rfl 1 rfl ?_
  refine wa_cSi (x_isText r) vX10_isText iX10_put_1 rfl rfl (Nat.le_of_ble_eq_true rfl) ⟨by decide, by decide⟩ ?_
  refine wa_eqi (y := (0)) (by rw [hr]; rfl) ?_
  refine wa_if_ne 9 dX10_put_4 (by decide) (fun c_4 => absurd c_4 (by decide)) (fun c_4 => ?_)
  refine wa_iconst (-1) dX10_put_7 (by decide) ?_
  exact wa_iret dX10_put_8 rfl ⟨congrArg (fun z => some (Value.int z)) (rfl), rfl⟩

theorem x_put_no {G : wm_G} {M : wm_M} (r : Nat) (hr : r < 4) (hz : M.1 101 r = -1) (i v : Int32) : MD G t_X10_put [wm_r G (96), .int (nI (r)), .int (i), .int (v)] (M) (some (.int (-3))) (xNote M 1) := by
  refine wm_met (by decide) (Nat.le_of_ble_eq_true rfl) ?_
  show WA G t_X10_put (fun v_ N_ => v_ = some (.int (-3)) ∧ N_ = xNote M 1) 0 [(0, wm_r G (96)), (1, .int (nI (r))), (2, .int (i)), (3, .int (v))] [] (M)
  refine wa_iload_n dX10_put_0 rfl 1 rfl ?_
  refine wa_cSi (x_isText (nI r)) vX10_isText iX10_put_1 rfl rfl (Nat.le_of_ble_eq_true rfl) ⟨by decide, by decide⟩ ?_
  refine wa_eqi (y := (1)) (by rw [wIn_nI (by omega), decide_eq_true (by omega)]; rfl) ?_
  refine wa_if_ne 9 dX10_put_4 (by decide) (fun c_4 => ?_) (fun c_4 => absurd c_4 (by decide))
  refine wa_aload_n dX10_put_9 rfl 0 rfl ?_
  refine wa_getr gX10_put_10 (rfl) rfl ?_
  refine wa_iload_n dX10_put_13 rfl 1 rfl ?_
  refine wa_ialdN (e := r) dX10_put_14 (rfl) (by omega) (by decide) ?_
  refine wa_eqi (y := (-1)) (hz) ?_
  refine wa_if_ge 24 dX10_put_15 (by decide) (fun c_15 => absurd c_15 (by decide)) (fun c_15 => ?_)
  refine wa_aload_n dX10_put_18 rfl 0 rfl ?_
  refine wa_iconst (1) dX10_put_19 (by decide) ?_
  refine wa_cVi (x_meets 1 (by decide) (by decide)) vX10_meets iX10_put_20 (rfl) rfl rfl rfl (Nat.le_of_ble_eq_true rfl) ⟨by decide, by decide⟩ ?_
  exact wa_iret dX10_put_23 rfl ⟨congrArg (fun z => some (Value.int z)) (rfl), rfl⟩

theorem x_put_out {G : wm_G} {M : wm_M} (r : Nat) (hr : r < 4) (z : Nat) (hz1 : M.1 101 r = nI z) (hz9 : z ≤ 80) (i : Int32) (hi : wIn i z = false) (v : Int32) : MD G t_X10_put [wm_r G (96), .int (nI (r)), .int (i), .int (v)] (M) (some (.int (-3))) (xNote M 2) := by
  refine wm_met (by decide) (Nat.le_of_ble_eq_true rfl) ?_
  show WA G t_X10_put (fun v_ N_ => v_ = some (.int (-3)) ∧ N_ = xNote M 2) 0 [(0, wm_r G (96)), (1, .int (nI (r))), (2, .int (i)), (3, .int (v))] [] (M)
  refine wa_iload_n dX10_put_0 rfl 1 rfl ?_
  refine wa_cSi (x_isText (nI r)) vX10_isText iX10_put_1 rfl rfl (Nat.le_of_ble_eq_true rfl) ⟨by decide, by decide⟩ ?_
  refine wa_eqi (y := (1)) (by rw [wIn_nI (by omega), decide_eq_true (by omega)]; rfl) ?_
  refine wa_if_ne 9 dX10_put_4 (by decide) (fun c_4 => ?_) (fun c_4 => absurd c_4 (by decide))
  refine wa_aload_n dX10_put_9 rfl 0 rfl ?_
  refine wa_getr gX10_put_10 (rfl) rfl ?_
  refine wa_iload_n dX10_put_13 rfl 1 rfl ?_
  refine wa_ialdN (e := r) dX10_put_14 (rfl) (by omega) (by decide) ?_
  refine wa_eqi (y := (nI (z))) (hz1) ?_
  refine wa_if_geN (a := z) 24 dX10_put_15 (by decide) (by omega) (fun c_15 => ?_) (fun c_15 => absurd c_15 (by omega))
  refine wa_iload_n dX10_put_24 rfl 2 rfl ?_
  refine wa_iconst (0) dX10_put_25 (by decide) ?_
  refine wa_aload_n dX10_put_26 rfl 0 rfl ?_
  refine wa_getr gX10_put_27 (rfl) rfl ?_
  refine wa_iload_n dX10_put_30 rfl 1 rfl ?_
  refine wa_ialdN (e := r) dX10_put_31 (rfl) (by omega) (by decide) ?_
  refine wa_eqi (y := (nI (z))) (hz1) ?_
  refine wa_iconst (1) dX10_put_32 (by decide) ?_
  refine wa_isub dX10_put_33 ?_
  refine wa_cSi (x_in i 0 (nI z - 1)) vX10_in iX10_put_34 rfl rfl (Nat.le_of_ble_eq_true rfl) ⟨by decide, by decide⟩ ?_
  refine wa_eqi (y := (0)) (by rw [inC_z (by omega), hi]; rfl) ?_
  refine wa_if_ne 46 dX10_put_37 (by decide) (fun c_37 => absurd c_37 (by decide)) (fun c_37 => ?_)
  refine wa_aload_n dX10_put_40 rfl 0 rfl ?_
  refine wa_iconst (2) dX10_put_41 (by decide) ?_
  refine wa_cVi (x_meets 2 (by decide) (by decide)) vX10_meets iX10_put_42 (rfl) rfl rfl rfl (Nat.le_of_ble_eq_true rfl) ⟨by decide, by decide⟩ ?_
  exact wa_iret dX10_put_45 rfl ⟨congrArg (fun z => some (Value.int z)) (rfl), rfl⟩

theorem x_put_ok {G : wm_G} {M : wm_M} (r : Nat) (hr : r < 4) (z : Nat) (hz1 : M.1 101 r = nI z) (hz9 : z ≤ 80) (i : Nat) (hi : i < z) (v : Int32) : MD G t_X10_put [wm_r G (96), .int (nI (r)), .int (nI (i)), .int (v)] (M) (some (.int (1000 + M.1 102 (80 * r + i)))) (wI M 102 (80 * r + i) v.toInt8.toInt32) := by
  refine wm_met (by decide) (Nat.le_of_ble_eq_true rfl) ?_
  show WA G t_X10_put (fun v_ N_ => v_ = some (.int (1000 + M.1 102 (80 * r + i))) ∧ N_ = wI M 102 (80 * r + i) v.toInt8.toInt32) 0 [(0, wm_r G (96)), (1, .int (nI (r))), (2, .int (nI (i))), (3, .int (v))] [] (M)
  refine wa_iload_n dX10_put_0 rfl 1 rfl ?_
  refine wa_cSi (x_isText (nI r)) vX10_isText iX10_put_1 rfl rfl (Nat.le_of_ble_eq_true rfl) ⟨by decide, by decide⟩ ?_
  refine wa_eqi (y := (1)) (by rw [wIn_nI (by omega), decide_eq_true (by omega)]; rfl) ?_
  refine wa_if_ne 9 dX10_put_4 (by decide) (fun c_4 => ?_) (fun c_4 => absurd c_4 (by decide))
  refine wa_aload_n dX10_put_9 rfl 0 rfl ?_
  refine wa_getr gX10_put_10 (rfl) rfl ?_
  refine wa_iload_n dX10_put_13 rfl 1 rfl ?_
  refine wa_ialdN (e := r) dX10_put_14 (rfl) (by omega) (by decide) ?_
  refine wa_eqi (y := (nI (z))) (hz1) ?_
  refine wa_if_geN (a := z) 24 dX10_put_15 (by decide) (by omega) (fun c_15 => ?_) (fun c_15 => absurd c_15 (by omega))
  refine wa_iload_n dX10_put_24 rfl 2 rfl ?_
  refine wa_iconst (0) dX10_put_25 (by decide) ?_
  refine wa_aload_n dX10_put_26 rfl 0 rfl ?_
  refine wa_getr gX10_put_27 (rfl) rfl ?_
  refine wa_iload_n dX10_put_30 rfl 1 rfl ?_
  refine wa_ialdN (e := r) dX10_put_31 (rfl) (by omega) (by decide) ?_
  refine wa_eqi (y := (nI (z))) (hz1) ?_
  refine wa_iconst (1) dX10_put_32 (by decide) ?_
  refine wa_isub dX10_put_33 ?_
  refine wa_cSi (x_in (nI i) 0 (nI z - 1)) vX10_in iX10_put_34 rfl rfl (Nat.le_of_ble_eq_true rfl) ⟨by decide, by decide⟩ ?_
  refine wa_eqi (y := (1)) (by rw [inC_z (by omega), wIn_nI (by omega), decide_eq_true hi]; rfl) ?_
  refine wa_if_ne 46 dX10_put_37 (by decide) (fun c_37 => ?_) (fun c_37 => absurd c_37 (by decide))
  refine wa_aload_n dX10_put_46 rfl 0 rfl ?_
  refine wa_getr gX10_put_47 (rfl) rfl ?_
  refine wa_bipush (80) dX10_put_50 (by decide) ?_
  refine wa_iload_n dX10_put_52 rfl 1 rfl ?_
  refine wa_imulN (a := 80) (b := r) dX10_put_53 ?_
  refine wa_iload_n dX10_put_54 rfl 2 rfl ?_
  refine wa_iaddN (a := 80 * r) (b := i) dX10_put_55 ?_
  refine wa_baldN (e := 80 * r + i) dX10_put_56 (rfl) (by omega) (by decide) ?_
  refine wa_istore [(4, .int ((M).1 (102) (80 * r + i))), (0, wm_r G (96)), (1, .int (nI (r))), (2, .int (nI (i))), (3, .int (v))] dX10_put_57 (by decide) rfl ?_
  refine wa_aload_n dX10_put_59 rfl 1 rfl ?_
  refine wa_getr gX10_put_60 (rfl) rfl ?_
  refine wa_bipush (80) dX10_put_63 (by decide) ?_
  refine wa_iload_n dX10_put_65 rfl 2 rfl ?_
  refine wa_imulN (a := 80) (b := r) dX10_put_66 ?_
  refine wa_iload_n dX10_put_67 rfl 3 rfl ?_
  refine wa_iaddN (a := 80 * r) (b := i) dX10_put_68 ?_
  refine wa_iload_n dX10_put_69 rfl 4 rfl ?_
  refine wa_i2b dX10_put_70 ?_
  refine wa_bastN (e := 80 * r + i) dX10_put_71 (rfl) (by omega) (by decide) ?_
  refine wa_eqm (M' := wI M 102 (80 * r + i) v.toInt8.toInt32) (by rw [nar_b]) ?_
  refine wa_sipush (1000) dX10_put_72 (by decide) ?_
  refine wa_iload dX10_put_75 0 rfl ?_
  refine wa_iadd dX10_put_77 ?_
  exact wa_iret dX10_put_78 rfl ⟨congrArg (fun z => some (Value.int z)) (rfl), rfl⟩

theorem x_byteAt {G : wm_G} {M : wm_M} (r : Nat) (hr : r < 4) (z : Nat) (hz1 : M.1 101 r = nI z) (hz9 : z ≤ 80) (i : Nat) (hi : i < 2 ^ 30) : MD G t_X10_byteAt [wm_r G (96), .int (nI (r)), .int (nI (i))] (M) (some (.int (if i < z then M.1 102 (80 * r + i) else 0))) (M) := by
  refine wm_met (by decide) (Nat.le_of_ble_eq_true rfl) ?_
  show WA G t_X10_byteAt (fun v_ N_ => v_ = some (.int (if i < z then M.1 102 (80 * r + i) else 0)) ∧ N_ = M) 0 [(0, wm_r G (96)), (1, .int (nI (r))), (2, .int (nI (i)))] [] (M)
  refine wa_iload_n dX10_byteAt_0 rfl 2 rfl ?_
  refine wa_aload_n dX10_byteAt_1 rfl 0 rfl ?_
  refine wa_getr gX10_byteAt_2 (rfl) rfl ?_
  refine wa_iload_n dX10_byteAt_5 rfl 1 rfl ?_
  refine wa_ialdN (e := r) dX10_byteAt_6 (rfl) (by omega) (by decide) ?_
  refine wa_eqi (y := (nI (z))) (hz1) ?_
  refine wa_icmp_geN (a := i) (b := z) 24 dX10_byteAt_7 (by decide) (by omega) (by omega) (fun c_7 => ?_) (fun c_7 => ?_)
  · refine wa_iconst (0) dX10_byteAt_24 (by decide) ?_
    exact wa_iret dX10_byteAt_25 rfl ⟨congrArg (fun z => some (Value.int z)) (by first | (rw [if_neg (by omega)]; done) | (rw [if_pos (by omega)]; done)), rfl⟩
  · refine wa_aload_n dX10_byteAt_10 rfl 0 rfl ?_
    refine wa_getr gX10_byteAt_11 (rfl) rfl ?_
    refine wa_bipush (80) dX10_byteAt_14 (by decide) ?_
    refine wa_iload_n dX10_byteAt_16 rfl 1 rfl ?_
    refine wa_imulN (a := 80) (b := r) dX10_byteAt_17 ?_
    refine wa_iload_n dX10_byteAt_18 rfl 2 rfl ?_
    refine wa_iaddN (a := 80 * r) (b := i) dX10_byteAt_19 ?_
    refine wa_baldN (e := 80 * r + i) dX10_byteAt_20 (rfl) (by omega) (by decide) ?_
    refine wa_goto 25 dX10_byteAt_21 (by decide) ?_
    exact wa_iret dX10_byteAt_25 rfl ⟨congrArg (fun z => some (Value.int z)) (by first | (rw [if_neg (by omega)]; done) | (rw [if_pos (by omega)]; done)), rfl⟩

theorem x_mean_bad {G : wm_G} {M : wm_M} (r : Int32) (hr : wIn r 6 = false) : MD G t_X10_mean [wm_r G (96), .int (r)] (M) (some (.int (-1))) (M) := by
  refine wm_met (by decide) (Nat.le_of_ble_eq_true rfl) ?_
  show WA G t_X10_mean (fun v_ N_ => v_ = some (.int (-1)) ∧ N_ = M) 0 [(0, wm_r G (96)), (1, .int (r))] [] (M)
  refine wa_iload_n dX10_mean_0 rfl 1 rfl ?_
  refine wa_cSi (x_isRow r) vX10_isRow iX10_mean_1 rfl rfl (Nat.le_of_ble_eq_true rfl) ⟨by decide, by decide⟩ ?_
  refine wa_eqi (y := (0)) (by rw [hr]; rfl) ?_
  refine wa_if_ne 9 dX10_mean_4 (by decide) (fun c_4 => absurd c_4 (by decide)) (fun c_4 => ?_)
  refine wa_iconst (-1) dX10_mean_7 (by decide) ?_
  exact wa_iret dX10_mean_8 rfl ⟨congrArg (fun z => some (Value.int z)) (rfl), rfl⟩

theorem x_mean_no {G : wm_G} {M : wm_M} (r : Nat) (hr : r < 6) (hz : M.1 98 r = -1) : MD G t_X10_mean [wm_r G (96), .int (nI (r))] (M) (some (.int (-3))) (xNote M 1) := by
  refine wm_met (by decide) (Nat.le_of_ble_eq_true rfl) ?_
  show WA G t_X10_mean (fun v_ N_ => v_ = some (.int (-3)) ∧ N_ = xNote M 1) 0 [(0, wm_r G (96)), (1, .int (nI (r)))] [] (M)
  refine wa_iload_n dX10_mean_0 rfl 1 rfl ?_
  refine wa_cSi (x_isRow (nI r)) vX10_isRow iX10_mean_1 rfl rfl (Nat.le_of_ble_eq_true rfl) ⟨by decide, by decide⟩ ?_
  refine wa_eqi (y := (1)) (by rw [wIn_nI (by omega), decide_eq_true (by omega)]; rfl) ?_
  refine wa_if_ne 9 dX10_mean_4 (by decide) (fun c_4 => ?_) (fun c_4 => absurd c_4 (by decide))
  refine wa_aload_n dX10_mean_9 rfl 0 rfl ?_
  refine wa_getr gX10_mean_10 (rfl) rfl ?_
  refine wa_iload_n dX10_mean_13 rfl 1 rfl ?_
  refine wa_ialdN (e := r) dX10_mean_14 (rfl) (by omega) (by decide) ?_
  refine wa_eqi (y := (-1)) (hz) ?_
  refine wa_if_ge 24 dX10_mean_15 (by decide) (fun c_15 => absurd c_15 (by decide)) (fun c_15 => ?_)
  refine wa_aload_n dX10_mean_18 rfl 0 rfl ?_
  refine wa_iconst (1) dX10_mean_19 (by decide) ?_
  refine wa_cVi (x_meets 1 (by decide) (by decide)) vX10_meets iX10_mean_20 (rfl) rfl rfl rfl (Nat.le_of_ble_eq_true rfl) ⟨by decide, by decide⟩ ?_
  exact wa_iret dX10_mean_23 rfl ⟨congrArg (fun z => some (Value.int z)) (rfl), rfl⟩

theorem x_mean_0 {G : wm_G} {M : wm_M} (r : Nat) (hr : r < 6) (hz1 : M.1 98 r = nI 0) : MD G t_X10_mean [wm_r G (96), .int (nI (r))] (M) (some (.int (-3))) (xNote M 4) := by
  refine wm_met (by decide) (Nat.le_of_ble_eq_true rfl) ?_
  show WA G t_X10_mean (fun v_ N_ => v_ = some (.int (-3)) ∧ N_ = xNote M 4) 0 [(0, wm_r G (96)), (1, .int (nI (r)))] [] (M)
  refine wa_iload_n dX10_mean_0 rfl 1 rfl ?_
  refine wa_cSi (x_isRow (nI r)) vX10_isRow iX10_mean_1 rfl rfl (Nat.le_of_ble_eq_true rfl) ⟨by decide, by decide⟩ ?_
  refine wa_eqi (y := (1)) (by rw [wIn_nI (by omega), decide_eq_true (by omega)]; rfl) ?_
  refine wa_if_ne 9 dX10_mean_4 (by decide) (fun c_4 => ?_) (fun c_4 => absurd c_4 (by decide))
  refine wa_aload_n dX10_mean_9 rfl 0 rfl ?_
  refine wa_getr gX10_mean_10 (rfl) rfl ?_
  refine wa_iload_n dX10_mean_13 rfl 1 rfl ?_
  refine wa_ialdN (e := r) dX10_mean_14 (rfl) (by omega) (by decide) ?_
  refine wa_eqi (y := (0)) (hz1) ?_
  refine wa_if_ge 24 dX10_mean_15 (by decide) (fun c_15 => ?_) (fun c_15 => absurd c_15 (by decide))
  refine wa_aload_n dX10_mean_24 rfl 0 rfl ?_
  refine wa_getr gX10_mean_25 (rfl) rfl ?_
  refine wa_iload_n dX10_mean_28 rfl 1 rfl ?_
  refine wa_ialdN (e := r) dX10_mean_29 (rfl) (by omega) (by decide) ?_
  refine wa_eqi (y := (0)) (hz1) ?_
  refine wa_if_ne 39 dX10_mean_30 (by decide) (fun c_30 => absurd c_30 (by decide)) (fun c_30 => ?_)
  refine wa_aload_n dX10_mean_33 rfl 0 rfl ?_
  refine wa_iconst (4) dX10_mean_34 (by decide) ?_
  refine wa_cVi (x_meets 4 (by decide) (by decide)) vX10_meets iX10_mean_35 (rfl) rfl rfl rfl (Nat.le_of_ble_eq_true rfl) ⟨by decide, by decide⟩ ?_
  exact wa_iret dX10_mean_38 rfl ⟨congrArg (fun z => some (Value.int z)) (rfl), rfl⟩

theorem x_mean_ok {G : wm_G} {M : wm_M} (r : Nat) (hr : r < 6) (z : Nat) (hz1 : M.1 98 r = nI z) (hz9 : z ≤ 60) (hz0 : 0 < z) : MD G t_X10_mean [wm_r G (96), .int (nI (r))] (M) (some (.int (1))) (xTell M (mSum (fun i => M.1 99 (60 * r + i)) z / (nI z).toInt64).toInt32) := by
  refine wm_met (by decide) (Nat.le_of_ble_eq_true rfl) ?_
  show WA G t_X10_mean (fun v_ N_ => v_ = some (.int (1)) ∧ N_ = xTell M (mSum (fun i => M.1 99 (60 * r + i)) z / (nI z).toInt64).toInt32) 0 [(0, wm_r G (96)), (1, .int (nI (r)))] [] (M)
  refine wa_iload_n dX10_mean_0 rfl 1 rfl ?_
  refine wa_cSi (x_isRow (nI r)) vX10_isRow iX10_mean_1 rfl rfl (Nat.le_of_ble_eq_true rfl) ⟨by decide, by decide⟩ ?_
  refine wa_eqi (y := (1)) (by rw [wIn_nI (by omega), decide_eq_true (by omega)]; rfl) ?_
  refine wa_if_ne 9 dX10_mean_4 (by decide) (fun c_4 => ?_) (fun c_4 => absurd c_4 (by decide))
  refine wa_aload_n dX10_mean_9 rfl 0 rfl ?_
  refine wa_getr gX10_mean_10 (rfl) rfl ?_
  refine wa_iload_n dX10_mean_13 rfl 1 rfl ?_
  refine wa_ialdN (e := r) dX10_mean_14 (rfl) (by omega) (by decide) ?_
  refine wa_eqi (y := (nI (z))) (hz1) ?_
  refine wa_if_geN (a := z) 24 dX10_mean_15 (by decide) (by omega) (fun c_15 => ?_) (fun c_15 => absurd c_15 (by omega))
  refine wa_aload_n dX10_mean_24 rfl 0 rfl ?_
  refine wa_getr gX10_mean_25 (rfl) rfl ?_
  refine wa_iload_n dX10_mean_28 rfl 1 rfl ?_
  refine wa_ialdN (e := r) dX10_mean_29 (rfl) (by omega) (by decide) ?_
  refine wa_eqi (y := (nI (z))) (hz1) ?_
  refine wa_if_neN (a := z) 39 dX10_mean_30 (by decide) (by omega) (fun c_30 => ?_) (fun c_30 => absurd c_30 (by omega))
  refine wa_lconst (0) dX10_mean_39 (by decide) ?_
  refine wa_eql (y := mSum (fun i => M.1 99 (60 * r + i)) 0) (rfl) ?_
  refine wa_lstore_n [(2, .long (mSum (fun i => M.1 99 (60 * r + i)) 0)), (0, wm_r G (96)), (1, .int (nI (r)))] dX10_mean_40 rfl (by decide) rfl ?_
  refine wa_iconst (0) dX10_mean_41 (by decide) ?_
  refine wa_istore [(4, .int (0)), (2, .long (mSum (fun i => M.1 99 (60 * r + i)) 0)), (0, wm_r G (96)), (1, .int (nI (r)))] dX10_mean_42 (by decide) rfl ?_
  have L_44 : ∀ (n_ : Nat) (i : Nat), (z - i) < n_ → (i ≤ z) → WA G t_X10_mean (fun v_ N_ => v_ = some (.int (1)) ∧ N_ = xTell M (mSum (fun i => M.1 99 (60 * r + i)) z / (nI z).toInt64).toInt32) 44 [(4, .int (nI (i))), (2, .long (mSum (fun i => M.1 99 (60 * r + i)) i)), (0, wm_r G (96)), (1, .int (nI (r)))] [] (M) := by
    intro n_
    induction n_ with
    | zero => intro i h_; exact absurd h_ (Nat.not_lt_zero _)
    | succ n_ ih_44 =>
      intro i h_ hi
      refine wa_iload dX10_mean_44 0 rfl ?_
      refine wa_aload_n dX10_mean_46 rfl 2 rfl ?_
      refine wa_getr gX10_mean_47 (rfl) rfl ?_
      refine wa_iload_n dX10_mean_50 rfl 3 rfl ?_
      refine wa_ialdN (e := r) dX10_mean_51 (rfl) (by omega) (by decide) ?_
      refine wa_eqi (y := (nI (z))) (hz1) ?_
      refine wa_icmp_geN (a := i) (b := z) 72 dX10_mean_52 (by decide) (by omega) (by omega) (fun c_52 => ?_) (fun c_52 => ?_)
      · refine wa_aload_n dX10_mean_72 rfl 2 rfl ?_
        refine wa_lload_n dX10_mean_73 rfl 1 rfl ?_
        refine wa_aload_n dX10_mean_74 rfl 2 rfl ?_
        refine wa_getr gX10_mean_75 (rfl) rfl ?_
        refine wa_iload_n dX10_mean_78 rfl 3 rfl ?_
        refine wa_ialdN (e := r) dX10_mean_79 (rfl) (by omega) (by decide) ?_
        refine wa_eqi (y := (nI (z))) (hz1) ?_
        refine wa_i2l dX10_mean_80 ?_
        refine wa_ldiv dX10_mean_81 (nIL_ne hz0 (by omega)) ?_
        refine wa_l2i dX10_mean_82 ?_
        refine wa_eqi (y := ((mSum (fun i => M.1 99 (60 * r + i)) z / (nI z).toInt64).toInt32)) (by rw [show i = z by omega]) ?_
        refine wa_iconst (1) dX10_mean_83 (by decide) ?_
        refine wa_cVi (x_tells ((mSum (fun i => M.1 99 (60 * r + i)) z / (nI z).toInt64).toInt32) (1)) vX10_tells iX10_mean_84 (rfl) rfl rfl rfl (Nat.le_of_ble_eq_true rfl) ⟨by decide, by decide⟩ ?_
        exact wa_iret dX10_mean_87 rfl ⟨congrArg (fun z => some (Value.int z)) (rfl), rfl⟩
      · refine wa_lload_n dX10_mean_55 rfl 1 rfl ?_
        refine wa_aload_n dX10_mean_56 rfl 2 rfl ?_
        refine wa_iload_n dX10_mean_57 rfl 3 rfl ?_
        refine wa_iload dX10_mean_58 0 rfl ?_
        refine wa_cVi (x_rowAt r i hr (by omega)) vX10_rowAt iX10_mean_60 (rfl) rfl rfl rfl (Nat.le_of_ble_eq_true rfl) ⟨by decide, by decide⟩ ?_
        refine wa_i2l dX10_mean_63 ?_
        refine wa_ladd dX10_mean_64 ?_
        refine wa_eql (y := mSum (fun i => M.1 99 (60 * r + i)) (i + 1)) (rfl) ?_
        refine wa_lstore_n [(2, .long (mSum (fun i => M.1 99 (60 * r + i)) (i + 1))), (4, .int (nI (i))), (0, wm_r G (96)), (1, .int (nI (r)))] dX10_mean_65 rfl (by decide) rfl ?_
        refine wa_iinc ((nI (i + 1))) [(4, .int (nI (i + 1))), (2, .long (mSum (fun i => M.1 99 (60 * r + i)) (i + 1))), (0, wm_r G (96)), (1, .int (nI (r)))] dX10_mean_66 1 rfl (nI_inc _) (by decide) rfl ?_
        refine wa_goto 44 dX10_mean_69 (by decide) ?_
        exact ih_44 (i + 1) (by omega) (by omega)
  exact L_44 _ 0 (Nat.lt_succ_self _) (Nat.zero_le _)

theorem x_copy_bad1 {G : wm_G} {M : wm_M} (r : Int32) (hr : wIn r 6 = false) (to i j n : Int32) : MD G t_X10_copy [wm_r G (96), .int (r), .int (i), .int (to), .int (j), .int (n)] (M) (some (.int (-1))) (M) := by
  refine wm_met (by decide) (Nat.le_of_ble_eq_true rfl) ?_
  show WA G t_X10_copy (fun v_ N_ => v_ = some (.int (-1)) ∧ N_ = M) 0 [(0, wm_r G (96)), (1, .int (r)), (2, .int (i)), (3, .int (to)), (4, .int (j)), (5, .int (n))] [] (M)
  refine wa_iload_n dX10_copy_0 rfl 1 rfl ?_
  refine wa_cSi (x_isRow r) vX10_isRow iX10_copy_1 rfl rfl (Nat.le_of_ble_eq_true rfl) ⟨by decide, by decide⟩ ?_
  refine wa_eqi (y := (0)) (by rw [hr]; rfl) ?_
  refine wa_if_eq 14 dX10_copy_4 (by decide) (fun c_4 => ?_) (fun c_4 => absurd c_4 (by decide))
  refine wa_iconst (-1) dX10_copy_14 (by decide) ?_
  exact wa_iret dX10_copy_15 rfl ⟨congrArg (fun z => some (Value.int z)) (rfl), rfl⟩

theorem x_copy_bad2 {G : wm_G} {M : wm_M} (r : Nat) (hr2 : r < 6) (to : Int32) (hr : wIn to 6 = false) (i j n : Int32) : MD G t_X10_copy [wm_r G (96), .int (nI (r)), .int (i), .int (to), .int (j), .int (n)] (M) (some (.int (-1))) (M) := by
  refine wm_met (by decide) (Nat.le_of_ble_eq_true rfl) ?_
  show WA G t_X10_copy (fun v_ N_ => v_ = some (.int (-1)) ∧ N_ = M) 0 [(0, wm_r G (96)), (1, .int (nI (r))), (2, .int (i)), (3, .int (to)), (4, .int (j)), (5, .int (n))] [] (M)
  refine wa_iload_n dX10_copy_0 rfl 1 rfl ?_
  refine wa_cSi (x_isRow (nI r)) vX10_isRow iX10_copy_1 rfl rfl (Nat.le_of_ble_eq_true rfl) ⟨by decide, by decide⟩ ?_
  refine wa_eqi (y := (1)) (by rw [wIn_nI (by omega), decide_eq_true (by omega)]; rfl) ?_
  refine wa_if_eq 14 dX10_copy_4 (by decide) (fun c_4 => absurd c_4 (by decide)) (fun c_4 => ?_)
  refine wa_iload_n dX10_copy_7 rfl 3 rfl ?_
  refine wa_cSi (x_isRow to) vX10_isRow iX10_copy_8 rfl rfl (Nat.le_of_ble_eq_true rfl) ⟨by decide, by decide⟩ ?_
  refine wa_eqi (y := (0)) (by rw [hr]; rfl) ?_
  refine wa_if_ne 16 dX10_copy_11 (by decide) (fun c_11 => absurd c_11 (by decide)) (fun c_11 => ?_)
  refine wa_iconst (-1) dX10_copy_14 (by decide) ?_
  exact wa_iret dX10_copy_15 rfl ⟨congrArg (fun z => some (Value.int z)) (rfl), rfl⟩

theorem x_copy_neg {G : wm_G} {M : wm_M} (r to : Nat) (hr : r < 6) (ht : to < 6) (i j n : Int32) (hn : n < 0) : MD G t_X10_copy [wm_r G (96), .int (nI (r)), .int (i), .int (nI (to)), .int (j), .int (n)] (M) (some (.int (-3))) (xNote M 5) := by
  refine wm_met (by decide) (Nat.le_of_ble_eq_true rfl) ?_
  show WA G t_X10_copy (fun v_ N_ => v_ = some (.int (-3)) ∧ N_ = xNote M 5) 0 [(0, wm_r G (96)), (1, .int (nI (r))), (2, .int (i)), (3, .int (nI (to))), (4, .int (j)), (5, .int (n))] [] (M)
  refine wa_iload_n dX10_copy_0 rfl 1 rfl ?_
  refine wa_cSi (x_isRow (nI r)) vX10_isRow iX10_copy_1 rfl rfl (Nat.le_of_ble_eq_true rfl) ⟨by decide, by decide⟩ ?_
  refine wa_eqi (y := (1)) (by rw [wIn_nI (by omega), decide_eq_true (by omega)]; rfl) ?_
  refine wa_if_eq 14 dX10_copy_4 (by decide) (fun c_4 => absurd c_4 (by decide)) (fun c_4 => ?_)
  refine wa_iload_n dX10_copy_7 rfl 3 rfl ?_
  refine wa_cSi (x_isRow (nI to)) vX10_isRow iX10_copy_8 rfl rfl (Nat.le_of_ble_eq_true rfl) ⟨by decide, by decide⟩ ?_
  refine wa_eqi (y := (1)) (by rw [wIn_nI (by omega), decide_eq_true (by omega)]; rfl) ?_
  refine wa_if_ne 16 dX10_copy_11 (by decide) (fun c_11 => ?_) (fun c_11 => absurd c_11 (by decide))
  refine wa_iload dX10_copy_16 5 rfl ?_
  refine wa_if_ge 27 dX10_copy_18 (by decide) (fun c_18 => absurd hn (Int32.not_lt.mpr c_18)) (fun c_18 => ?_)
  refine wa_aload_n dX10_copy_21 rfl 0 rfl ?_
  refine wa_iconst (5) dX10_copy_22 (by decide) ?_
  refine wa_cVi (x_meets 5 (by decide) (by decide)) vX10_meets iX10_copy_23 (rfl) rfl rfl rfl (Nat.le_of_ble_eq_true rfl) ⟨by decide, by decide⟩ ?_
  exact wa_iret dX10_copy_26 rfl ⟨congrArg (fun z => some (Value.int z)) (rfl), rfl⟩

theorem x_copy_no1 {G : wm_G} {M : wm_M} (r to : Nat) (hr : r < 6) (ht : to < 6) (i j n : Int32) (hn : ¬ n < 0) (hz : M.1 98 r = -1) : MD G t_X10_copy [wm_r G (96), .int (nI (r)), .int (i), .int (nI (to)), .int (j), .int (n)] (M) (some (.int (-3))) (xNote M 1) := by
  refine wm_met (by decide) (Nat.le_of_ble_eq_true rfl) ?_
  show WA G t_X10_copy (fun v_ N_ => v_ = some (.int (-3)) ∧ N_ = xNote M 1) 0 [(0, wm_r G (96)), (1, .int (nI (r))), (2, .int (i)), (3, .int (nI (to))), (4, .int (j)), (5, .int (n))] [] (M)
  refine wa_iload_n dX10_copy_0 rfl 1 rfl ?_
  refine wa_cSi (x_isRow (nI r)) vX10_isRow iX10_copy_1 rfl rfl (Nat.le_of_ble_eq_true rfl) ⟨by decide, by decide⟩ ?_
  refine wa_eqi (y := (1)) (by rw [wIn_nI (by omega), decide_eq_true (by omega)]; rfl) ?_
  refine wa_if_eq 14 dX10_copy_4 (by decide) (fun c_4 => absurd c_4 (by decide)) (fun c_4 => ?_)
  refine wa_iload_n dX10_copy_7 rfl 3 rfl ?_
  refine wa_cSi (x_isRow (nI to)) vX10_isRow iX10_copy_8 rfl rfl (Nat.le_of_ble_eq_true rfl) ⟨by decide, by decide⟩ ?_
  refine wa_eqi (y := (1)) (by rw [wIn_nI (by omega), decide_eq_true (by omega)]; rfl) ?_
  refine wa_if_ne 16 dX10_copy_11 (by decide) (fun c_11 => ?_) (fun c_11 => absurd c_11 (by decide))
  refine wa_iload dX10_copy_16 5 rfl ?_
  refine wa_if_ge 27 dX10_copy_18 (by decide) (fun c_18 => ?_) (fun c_18 => absurd (Int32.not_lt.mp hn) c_18)
  refine wa_aload_n dX10_copy_27 rfl 0 rfl ?_
  refine wa_getr gX10_copy_28 (rfl) rfl ?_
  refine wa_iload_n dX10_copy_31 rfl 1 rfl ?_
  refine wa_ialdN (e := r) dX10_copy_32 (rfl) (by omega) (by decide) ?_
  refine wa_eqi (y := (-1)) (hz) ?_
  refine wa_if_lt 45 dX10_copy_33 (by decide) (fun c_33 => ?_) (fun c_33 => absurd c_33 (by decide))
  refine wa_aload_n dX10_copy_45 rfl 0 rfl ?_
  refine wa_iconst (1) dX10_copy_46 (by decide) ?_
  refine wa_cVi (x_meets 1 (by decide) (by decide)) vX10_meets iX10_copy_47 (rfl) rfl rfl rfl (Nat.le_of_ble_eq_true rfl) ⟨by decide, by decide⟩ ?_
  exact wa_iret dX10_copy_50 rfl ⟨congrArg (fun z => some (Value.int z)) (rfl), rfl⟩

theorem x_copy_no2 {G : wm_G} {M : wm_M} (r to : Nat) (hr : r < 6) (ht : to < 6) (i j n : Int32) (hn : ¬ n < 0) (z : Nat) (hz1 : M.1 98 r = nI z) (hz9 : z ≤ 60) (hz : M.1 98 to = -1) : MD G t_X10_copy [wm_r G (96), .int (nI (r)), .int (i), .int (nI (to)), .int (j), .int (n)] (M) (some (.int (-3))) (xNote M 1) := by
  refine wm_met (by decide) (Nat.le_of_ble_eq_true rfl) ?_
  show WA G t_X10_copy (fun v_ N_ => v_ = some (.int (-3)) ∧ N_ = xNote M 1) 0 [(0, wm_r G (96)), (1, .int (nI (r))), (2, .int (i)), (3, .int (nI (to))), (4, .int (j)), (5, .int (n))] [] (M)
  refine wa_iload_n dX10_copy_0 rfl 1 rfl ?_
  refine wa_cSi (x_isRow (nI r)) vX10_isRow iX10_copy_1 rfl rfl (Nat.le_of_ble_eq_true rfl) ⟨by decide, by decide⟩ ?_
  refine wa_eqi (y := (1)) (by rw [wIn_nI (by omega), decide_eq_true (by omega)]; rfl) ?_
  refine wa_if_eq 14 dX10_copy_4 (by decide) (fun c_4 => absurd c_4 (by decide)) (fun c_4 => ?_)
  refine wa_iload_n dX10_copy_7 rfl 3 rfl ?_
  refine wa_cSi (x_isRow (nI to)) vX10_isRow iX10_copy_8 rfl rfl (Nat.le_of_ble_eq_true rfl) ⟨by decide, by decide⟩ ?_
  refine wa_eqi (y := (1)) (by rw [wIn_nI (by omega), decide_eq_true (by omega)]; rfl) ?_
  refine wa_if_ne 16 dX10_copy_11 (by decide) (fun c_11 => ?_) (fun c_11 => absurd c_11 (by decide))
  refine wa_iload dX10_copy_16 5 rfl ?_
  refine wa_if_ge 27 dX10_copy_18 (by decide) (fun c_18 => ?_) (fun c_18 => absurd (Int32.not_lt.mp hn) c_18)
  refine wa_aload_n dX10_copy_27 rfl 0 rfl ?_
  refine wa_getr gX10_copy_28 (rfl) rfl ?_
  refine wa_iload_n dX10_copy_31 rfl 1 rfl ?_
  refine wa_ialdN (e := r) dX10_copy_32 (rfl) (by omega) (by decide) ?_
  refine wa_eqi (y := (nI (z))) (hz1) ?_
  refine wa_if_ltN (a := z) 45 dX10_copy_33 (by decide) (by omega) (fun c_33 => absurd c_33 (by omega)) (fun c_33 => ?_)
  refine wa_aload_n dX10_copy_36 rfl 0 rfl ?_
  refine wa_getr gX10_copy_37 (rfl) rfl ?_
  refine wa_iload_n dX10_copy_40 rfl 3 rfl ?_
  refine wa_ialdN (e := to) dX10_copy_41 (rfl) (by omega) (by decide) ?_
  refine wa_eqi (y := (-1)) (hz) ?_
  refine wa_if_ge 51 dX10_copy_42 (by decide) (fun c_42 => absurd c_42 (by decide)) (fun c_42 => ?_)
  refine wa_aload_n dX10_copy_45 rfl 0 rfl ?_
  refine wa_iconst (1) dX10_copy_46 (by decide) ?_
  refine wa_cVi (x_meets 1 (by decide) (by decide)) vX10_meets iX10_copy_47 (rfl) rfl rfl rfl (Nat.le_of_ble_eq_true rfl) ⟨by decide, by decide⟩ ?_
  exact wa_iret dX10_copy_50 rfl ⟨congrArg (fun z => some (Value.int z)) (rfl), rfl⟩

theorem x_copy_out {G : wm_G} {M : wm_M} (r to : Nat) (hr : r < 6) (ht : to < 6) (i j n : Int32) (hn : ¬ n < 0) (z z2 : Nat) (hz1 : M.1 98 r = nI z) (hz2 : M.1 98 to = nI z2) (hz9 : z ≤ 60) (hz29 : z2 ≤ 60) (hh : hldB i n z = false ∨ hldB j n z2 = false) : MD G t_X10_copy [wm_r G (96), .int (nI (r)), .int (i), .int (nI (to)), .int (j), .int (n)] (M) (some (.int (-3))) (xNote M 2) := by
  refine wm_met (by decide) (Nat.le_of_ble_eq_true rfl) ?_
  show WA G t_X10_copy (fun v_ N_ => v_ = some (.int (-3)) ∧ N_ = xNote M 2) 0 [(0, wm_r G (96)), (1, .int (nI (r))), (2, .int (i)), (3, .int (nI (to))), (4, .int (j)), (5, .int (n))] [] (M)
  refine wa_iload_n dX10_copy_0 rfl 1 rfl ?_
  refine wa_cSi (x_isRow (nI r)) vX10_isRow iX10_copy_1 rfl rfl (Nat.le_of_ble_eq_true rfl) ⟨by decide, by decide⟩ ?_
  refine wa_eqi (y := (1)) (by rw [wIn_nI (by omega), decide_eq_true (by omega)]; rfl) ?_
  refine wa_if_eq 14 dX10_copy_4 (by decide) (fun c_4 => absurd c_4 (by decide)) (fun c_4 => ?_)
  refine wa_iload_n dX10_copy_7 rfl 3 rfl ?_
  refine wa_cSi (x_isRow (nI to)) vX10_isRow iX10_copy_8 rfl rfl (Nat.le_of_ble_eq_true rfl) ⟨by decide, by decide⟩ ?_
  refine wa_eqi (y := (1)) (by rw [wIn_nI (by omega), decide_eq_true (by omega)]; rfl) ?_
  refine wa_if_ne 16 dX10_copy_11 (by decide) (fun c_11 => ?_) (fun c_11 => absurd c_11 (by decide))
  refine wa_iload dX10_copy_16 5 rfl ?_
  refine wa_if_ge 27 dX10_copy_18 (by decide) (fun c_18 => ?_) (fun c_18 => absurd (Int32.not_lt.mp hn) c_18)
  refine wa_aload_n dX10_copy_27 rfl 0 rfl ?_
  refine wa_getr gX10_copy_28 (rfl) rfl ?_
  refine wa_iload_n dX10_copy_31 rfl 1 rfl ?_
  refine wa_ialdN (e := r) dX10_copy_32 (rfl) (by omega) (by decide) ?_
  refine wa_eqi (y := (nI (z))) (hz1) ?_
  refine wa_if_ltN (a := z) 45 dX10_copy_33 (by decide) (by omega) (fun c_33 => absurd c_33 (by omega)) (fun c_33 => ?_)
  refine wa_aload_n dX10_copy_36 rfl 0 rfl ?_
  refine wa_getr gX10_copy_37 (rfl) rfl ?_
  refine wa_iload_n dX10_copy_40 rfl 3 rfl ?_
  refine wa_ialdN (e := to) dX10_copy_41 (rfl) (by omega) (by decide) ?_
  refine wa_eqi (y := (nI (z2))) (hz2) ?_
  refine wa_if_geN (a := z2) 51 dX10_copy_42 (by decide) (by omega) (fun c_42 => ?_) (fun c_42 => absurd c_42 (by omega))
  refine wa_iload_n dX10_copy_51 rfl 2 rfl ?_
  refine wa_if_lt 95 dX10_copy_52 (by decide) (fun c_52 => ?_) (fun c_52 => ?_)
  · refine wa_aload_n dX10_copy_95 rfl 0 rfl ?_
    refine wa_iconst (2) dX10_copy_96 (by decide) ?_
    refine wa_cVi (x_meets 2 (by decide) (by decide)) vX10_meets iX10_copy_97 (rfl) rfl rfl rfl (Nat.le_of_ble_eq_true rfl) ⟨by decide, by decide⟩ ?_
    exact wa_iret dX10_copy_100 rfl ⟨congrArg (fun z => some (Value.int z)) (rfl), rfl⟩
  · refine wa_iload dX10_copy_55 4 rfl ?_
    refine wa_if_lt 95 dX10_copy_57 (by decide) (fun c_57 => ?_) (fun c_57 => ?_)
    · refine wa_aload_n dX10_copy_95 rfl 0 rfl ?_
      refine wa_iconst (2) dX10_copy_96 (by decide) ?_
      refine wa_cVi (x_meets 2 (by decide) (by decide)) vX10_meets iX10_copy_97 (rfl) rfl rfl rfl (Nat.le_of_ble_eq_true rfl) ⟨by decide, by decide⟩ ?_
      exact wa_iret dX10_copy_100 rfl ⟨congrArg (fun z => some (Value.int z)) (rfl), rfl⟩
    · refine wa_iload_n dX10_copy_60 rfl 2 rfl ?_
      refine wa_i2l dX10_copy_61 ?_
      refine wa_iload dX10_copy_62 5 rfl ?_
      refine wa_i2l dX10_copy_64 ?_
      refine wa_ladd dX10_copy_65 ?_
      refine wa_aload_n dX10_copy_66 rfl 0 rfl ?_
      refine wa_getr gX10_copy_67 (rfl) rfl ?_
      refine wa_iload_n dX10_copy_70 rfl 1 rfl ?_
      refine wa_ialdN (e := r) dX10_copy_71 (rfl) (by omega) (by decide) ?_
      refine wa_eqi (y := (nI (z))) (hz1) ?_
      refine wa_i2l dX10_copy_72 ?_
      refine wa_lcmp dX10_copy_73 ?_
      refine wa_if_gt 95 dX10_copy_74 (by decide) (fun c_74 => ?_) (fun c_74 => ?_)
      · refine wa_aload_n dX10_copy_95 rfl 0 rfl ?_
        refine wa_iconst (2) dX10_copy_96 (by decide) ?_
        refine wa_cVi (x_meets 2 (by decide) (by decide)) vX10_meets iX10_copy_97 (rfl) rfl rfl rfl (Nat.le_of_ble_eq_true rfl) ⟨by decide, by decide⟩ ?_
        exact wa_iret dX10_copy_100 rfl ⟨congrArg (fun z => some (Value.int z)) (rfl), rfl⟩
      · refine wa_iload dX10_copy_77 4 rfl ?_
        refine wa_i2l dX10_copy_79 ?_
        refine wa_iload dX10_copy_80 5 rfl ?_
        refine wa_i2l dX10_copy_82 ?_
        refine wa_ladd dX10_copy_83 ?_
        refine wa_aload_n dX10_copy_84 rfl 0 rfl ?_
        refine wa_getr gX10_copy_85 (rfl) rfl ?_
        refine wa_iload_n dX10_copy_88 rfl 3 rfl ?_
        refine wa_ialdN (e := to) dX10_copy_89 (rfl) (by omega) (by decide) ?_
        refine wa_eqi (y := (nI (z2))) (hz2) ?_
        refine wa_i2l dX10_copy_90 ?_
        refine wa_lcmp dX10_copy_91 ?_
        refine wa_if_le 101 dX10_copy_92 (by decide) (fun c_92 => absurd hh (fun q => q.elim (fun q => by rw [cp_hld hz9 c_52 hn, decide_eq_false (fun e => absurd e (Int32.not_lt.mpr (Int32.not_lt.mp c_74)))] at q; exact absurd q (by decide)) (fun q => by rw [cp_hld hz29 c_57 hn, decide_eq_false (Int32.not_lt.mpr c_92)] at q; exact absurd q (by decide)))) (fun c_92 => ?_)
        refine wa_aload_n dX10_copy_95 rfl 0 rfl ?_
        refine wa_iconst (2) dX10_copy_96 (by decide) ?_
        refine wa_cVi (x_meets 2 (by decide) (by decide)) vX10_meets iX10_copy_97 (rfl) rfl rfl rfl (Nat.le_of_ble_eq_true rfl) ⟨by decide, by decide⟩ ?_
        exact wa_iret dX10_copy_100 rfl ⟨congrArg (fun z => some (Value.int z)) (rfl), rfl⟩

theorem x_copy_ok {G : wm_G} {M : wm_M} (r to : Nat) (hr : r < 6) (ht : to < 6) (i j n : Nat) (z z2 : Nat) (hz1 : M.1 98 r = nI z) (hz2 : M.1 98 to = nI z2) (hz9 : z ≤ 60) (hz29 : z2 ≤ 60) (hi : i + n ≤ z) (hj : j + n ≤ z2) : MD G t_X10_copy [wm_r G (96), .int (nI (r)), .int (nI (i)), .int (nI (to)), .int (nI (j)), .int (nI (n))] (M) (some (.int (1))) (wIa (wIa M 100 (wTo (fun k => M.1 99 (60 * r + (i + k))) (M.1 100) (n))) 99 (cpF (M.1 99) (60 * r + i) (60 * to + j) (n))) := by
  refine wm_met (by decide) (Nat.le_of_ble_eq_true rfl) ?_
  show WA G t_X10_copy (fun v_ N_ => v_ = some (.int (1)) ∧ N_ = wIa (wIa M 100 (wTo (fun k => M.1 99 (60 * r + (i + k))) (M.1 100) (n))) 99 (cpF (M.1 99) (60 * r + i) (60 * to + j) (n))) 0 [(0, wm_r G (96)), (1, .int (nI (r))), (2, .int (nI (i))), (3, .int (nI (to))), (4, .int (nI (j))), (5, .int (nI (n)))] [] (M)
  refine wa_iload_n dX10_copy_0 rfl 1 rfl ?_
  refine wa_cSi (x_isRow (nI r)) vX10_isRow iX10_copy_1 rfl rfl (Nat.le_of_ble_eq_true rfl) ⟨by decide, by decide⟩ ?_
  refine wa_eqi (y := (1)) (by rw [wIn_nI (by omega), decide_eq_true (by omega)]; rfl) ?_
  refine wa_if_eq 14 dX10_copy_4 (by decide) (fun c_4 => absurd c_4 (by decide)) (fun c_4 => ?_)
  refine wa_iload_n dX10_copy_7 rfl 3 rfl ?_
  refine wa_cSi (x_isRow (nI to)) vX10_isRow iX10_copy_8 rfl rfl (Nat.le_of_ble_eq_true rfl) ⟨by decide, by decide⟩ ?_
  refine wa_eqi (y := (1)) (by rw [wIn_nI (by omega), decide_eq_true (by omega)]; rfl) ?_
  refine wa_if_ne 16 dX10_copy_11 (by decide) (fun c_11 => ?_) (fun c_11 => absurd c_11 (by decide))
  refine wa_iload dX10_copy_16 5 rfl ?_
  refine wa_if_geN (a := n) 27 dX10_copy_18 (by decide) (by omega) (fun c_18 => ?_) (fun c_18 => absurd c_18 (by omega))
  refine wa_aload_n dX10_copy_27 rfl 0 rfl ?_
  refine wa_getr gX10_copy_28 (rfl) rfl ?_
  refine wa_iload_n dX10_copy_31 rfl 1 rfl ?_
  refine wa_ialdN (e := r) dX10_copy_32 (rfl) (by omega) (by decide) ?_
  refine wa_eqi (y := (nI (z))) (hz1) ?_
  refine wa_if_ltN (a := z) 45 dX10_copy_33 (by decide) (by omega) (fun c_33 => absurd c_33 (by omega)) (fun c_33 => ?_)
  refine wa_aload_n dX10_copy_36 rfl 0 rfl ?_
  refine wa_getr gX10_copy_37 (rfl) rfl ?_
  refine wa_iload_n dX10_copy_40 rfl 3 rfl ?_
  refine wa_ialdN (e := to) dX10_copy_41 (rfl) (by omega) (by decide) ?_
  refine wa_eqi (y := (nI (z2))) (hz2) ?_
  refine wa_if_geN (a := z2) 51 dX10_copy_42 (by decide) (by omega) (fun c_42 => ?_) (fun c_42 => absurd c_42 (by omega))
  refine wa_iload_n dX10_copy_51 rfl 2 rfl ?_
  refine wa_if_ltN (a := i) 95 dX10_copy_52 (by decide) (by omega) (fun c_52 => absurd c_52 (by omega)) (fun c_52 => ?_)
  refine wa_iload dX10_copy_55 4 rfl ?_
  refine wa_if_ltN (a := j) 95 dX10_copy_57 (by decide) (by omega) (fun c_57 => absurd c_57 (by omega)) (fun c_57 => ?_)
  refine wa_iload_n dX10_copy_60 rfl 2 rfl ?_
  refine wa_i2l dX10_copy_61 ?_
  refine wa_eql (y := lN i) (nI_l (by omega)) ?_
  refine wa_iload dX10_copy_62 5 rfl ?_
  refine wa_i2l dX10_copy_64 ?_
  refine wa_eql (y := lN n) (nI_l (by omega)) ?_
  refine wa_ladd dX10_copy_65 ?_
  refine wa_eql (y := lN (i + n)) (lN_add _ _) ?_
  refine wa_aload_n dX10_copy_66 rfl 0 rfl ?_
  refine wa_getr gX10_copy_67 (rfl) rfl ?_
  refine wa_iload_n dX10_copy_70 rfl 1 rfl ?_
  refine wa_ialdN (e := r) dX10_copy_71 (rfl) (by omega) (by decide) ?_
  refine wa_eqi (y := (nI (z))) (hz1) ?_
  refine wa_i2l dX10_copy_72 ?_
  refine wa_eql (y := lN z) (nI_l (by omega)) ?_
  refine wa_lcmp dX10_copy_73 ?_
  refine wa_if_gt 95 dX10_copy_74 (by decide) (fun c_74 => absurd ((lg_le (by omega) (by omega)).mp c_74) (by omega)) (fun c_74 => ?_)
  refine wa_iload dX10_copy_77 4 rfl ?_
  refine wa_i2l dX10_copy_79 ?_
  refine wa_eql (y := lN j) (nI_l (by omega)) ?_
  refine wa_iload dX10_copy_80 5 rfl ?_
  refine wa_i2l dX10_copy_82 ?_
  refine wa_eql (y := lN n) (nI_l (by omega)) ?_
  refine wa_ladd dX10_copy_83 ?_
  refine wa_eql (y := lN (j + n)) (lN_add _ _) ?_
  refine wa_aload_n dX10_copy_84 rfl 0 rfl ?_
  refine wa_getr gX10_copy_85 (rfl) rfl ?_
  refine wa_iload_n dX10_copy_88 rfl 3 rfl ?_
  refine wa_ialdN (e := to) dX10_copy_89 (rfl) (by omega) (by decide) ?_
  refine wa_eqi (y := (nI (z2))) (hz2) ?_
  refine wa_i2l dX10_copy_90 ?_
  refine wa_eql (y := lN z2) (nI_l (by omega)) ?_
  refine wa_lcmp dX10_copy_91 ?_
  refine wa_if_le 101 dX10_copy_92 (by decide) (fun c_92 => ?_) (fun c_92 => absurd ((lg_le (a := j + n) (b := z2) (by omega) (by omega)).mp (Int32.not_le.mp c_92)) (by omega))
  refine wa_iconst (0) dX10_copy_101 (by decide) ?_
  refine wa_istore [(6, .int (0)), (0, wm_r G (96)), (1, .int (nI (r))), (2, .int (nI (i))), (3, .int (nI (to))), (4, .int (nI (j))), (5, .int (nI (n)))] dX10_copy_102 (by decide) rfl ?_
  have L_104 : ∀ (n_ : Nat) (k : Nat), (n - k) < n_ → (k ≤ n) → WA G t_X10_copy (fun v_ N_ => v_ = some (.int (1)) ∧ N_ = wIa (wIa M 100 (wTo (fun k => M.1 99 (60 * r + (i + k))) (M.1 100) (n))) 99 (cpF (M.1 99) (60 * r + i) (60 * to + j) (n))) 104 [(6, .int (nI (k))), (0, wm_r G (96)), (1, .int (nI (r))), (2, .int (nI (i))), (3, .int (nI (to))), (4, .int (nI (j))), (5, .int (nI (n)))] [] (wIa M 100 (wTo (fun k => M.1 99 (60 * r + (i + k))) (M.1 100) (k))) := by
    intro n_
    induction n_ with
    | zero => intro k h_; exact absurd h_ (Nat.not_lt_zero _)
    | succ n_ ih_104 =>
      intro k h_ hk
      refine wa_iload dX10_copy_104 0 rfl ?_
      refine wa_iload dX10_copy_106 6 rfl ?_
      refine wa_icmp_geN (a := k) (b := n) 133 dX10_copy_108 (by decide) (by omega) (by omega) (fun c_108 => ?_) (fun c_108 => ?_)
      · refine wa_iconst (0) dX10_copy_133 (by decide) ?_
        refine wa_istore [(6, .int (0)), (0, wm_r G (96)), (1, .int (nI (r))), (2, .int (nI (i))), (3, .int (nI (to))), (4, .int (nI (j))), (5, .int (nI (n)))] dX10_copy_134 (by decide) rfl ?_
        have L_136 : ∀ (n_ : Nat) (k : Nat), (n - k) < n_ → (k ≤ n) → WA G t_X10_copy (fun v_ N_ => v_ = some (.int (1)) ∧ N_ = wIa (wIa M 100 (wTo (fun k => M.1 99 (60 * r + (i + k))) (M.1 100) (n))) 99 (cpF (M.1 99) (60 * r + i) (60 * to + j) (n))) 136 [(6, .int (nI (k))), (0, wm_r G (96)), (1, .int (nI (r))), (2, .int (nI (i))), (3, .int (nI (to))), (4, .int (nI (j))), (5, .int (nI (n)))] [] (wIa (wIa M 100 (wTo (fun k => M.1 99 (60 * r + (i + k))) (M.1 100) (n))) 99 (cpF (M.1 99) (60 * r + i) (60 * to + j) (k))) := by
          intro n_
          induction n_ with
          | zero => intro k h_; exact absurd h_ (Nat.not_lt_zero _)
          | succ n_ ih_136 =>
            intro k h_ hk
            refine wa_iload dX10_copy_136 0 rfl ?_
            refine wa_iload dX10_copy_138 6 rfl ?_
            refine wa_icmp_geN (a := k) (b := n) 171 dX10_copy_140 (by decide) (by omega) (by omega) (fun c_140 => ?_) (fun c_140 => ?_)
            · refine wa_iconst (1) dX10_copy_171 (by decide) ?_
              exact wa_iret dX10_copy_172 rfl ⟨congrArg (fun z => some (Value.int z)) (rfl), by rw [show k = n by omega]⟩
            · refine wa_aload_n dX10_copy_143 rfl 1 rfl ?_
              refine wa_getr gX10_copy_144 (rfl) rfl ?_
              refine wa_bipush (60) dX10_copy_147 (by decide) ?_
              refine wa_iload_n dX10_copy_149 rfl 4 rfl ?_
              refine wa_imulN (a := 60) (b := to) dX10_copy_150 ?_
              refine wa_iload dX10_copy_151 5 rfl ?_
              refine wa_iaddN (a := 60 * to) (b := j) dX10_copy_153 ?_
              refine wa_iload dX10_copy_154 0 rfl ?_
              refine wa_iaddN (a := 60 * to + j) (b := k) dX10_copy_156 ?_
              refine wa_aload_n dX10_copy_157 rfl 1 rfl ?_
              refine wa_getr gX10_copy_158 (rfl) rfl ?_
              refine wa_iload dX10_copy_161 0 rfl ?_
              refine wa_ialdN (e := k) dX10_copy_163 (rfl) (by omega) (by decide) ?_
              refine wa_eqi (y := (M.1 99 (60 * r + (i + k)))) (by rw [wIa_n (by decide), wIa_s, wTo_in (by omega)]) ?_
              refine wa_iastN (e := 60 * to + j + k) dX10_copy_164 (rfl) (by omega) (by decide) ?_
              refine wa_eqm (M' := wIa (wIa M 100 (wTo (fun k => M.1 99 (60 * r + (i + k))) (M.1 100) (n))) 99 (cpF (M.1 99) (60 * r + i) (60 * to + j) (k + 1))) (wI_wIa.trans (congrArg (wIa _ 99) (cpF_s (f := M.1 99) (src := 60 * r + i) (dst := 60 * to + j) (n := k) (by rw [Nat.add_assoc])))) ?_
              refine wa_iinc ((nI (k + 1))) [(6, .int (nI (k + 1))), (0, wm_r G (96)), (1, .int (nI (r))), (2, .int (nI (i))), (3, .int (nI (to))), (4, .int (nI (j))), (5, .int (nI (n)))] dX10_copy_165 0 rfl (nI_inc _) (by decide) rfl ?_
              refine wa_goto 136 dX10_copy_168 (by decide) ?_
              exact ih_136 (k + 1) (by omega) (by omega)
        refine wa_eqm (M' := wIa (wIa M 100 (wTo (fun k => M.1 99 (60 * r + (i + k))) (M.1 100) (n))) 99 (cpF (M.1 99) (60 * r + i) (60 * to + j) (0))) (by rw [show k = n by omega, cpF_0]; exact id_start (wIa_n (by decide))) ?_
        exact L_136 _ 0 (Nat.lt_succ_self _) (Nat.zero_le _)
      · refine wa_aload_n dX10_copy_111 rfl 1 rfl ?_
        refine wa_getr gX10_copy_112 (rfl) rfl ?_
        refine wa_iload dX10_copy_115 0 rfl ?_
        refine wa_aload_n dX10_copy_117 rfl 1 rfl ?_
        refine wa_iload_n dX10_copy_118 rfl 2 rfl ?_
        refine wa_iload_n dX10_copy_119 rfl 3 rfl ?_
        refine wa_iload dX10_copy_120 0 rfl ?_
        refine wa_iaddN (a := i) (b := k) dX10_copy_122 ?_
        refine wa_cVi (x_rowAt (M := wIa M 100 (wTo (fun k => M.1 99 (60 * r + (i + k))) (M.1 100) (k))) r (i + k) hr (by omega)) vX10_rowAt iX10_copy_123 (rfl) rfl rfl rfl (Nat.le_of_ble_eq_true rfl) ⟨by decide, by decide⟩ ?_
        refine wa_eqi (y := (M.1 99 (60 * r + (i + k)))) (by rw [wIa_n (by decide)]) ?_
        refine wa_iastN (e := k) dX10_copy_126 (rfl) (by omega) (by decide) ?_
        refine wa_eqm (M' := wIa M 100 (wTo (fun k => M.1 99 (60 * r + (i + k))) (M.1 100) (k + 1))) (wI_wIa.trans (congrArg (wIa M 100) (wTo_s (f := (fun k => M.1 99 (60 * r + (i + k)))) rfl))) ?_
        refine wa_iinc ((nI (k + 1))) [(6, .int (nI (k + 1))), (0, wm_r G (96)), (1, .int (nI (r))), (2, .int (nI (i))), (3, .int (nI (to))), (4, .int (nI (j))), (5, .int (nI (n)))] dX10_copy_127 0 rfl (nI_inc _) (by decide) rfl ?_
        refine wa_goto 104 dX10_copy_130 (by decide) ?_
        exact ih_104 (k + 1) (by omega) (by omega)
  refine wa_eqm (M' := wIa M 100 (wTo (fun k => M.1 99 (60 * r + (i + k))) (M.1 100) (0))) (wTo_start rfl) ?_
  exact L_104 _ 0 (Nat.lt_succ_self _) (Nat.zero_le _)
