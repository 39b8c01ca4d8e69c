theorem m_readSign1 {G : wm_G} {M : wm_M} (tx sz p : Nat) (hR : RdAt M tx sz p) (a b : Int32) (hc : inC (chF M tx sz p) a b = true) : MD G t_X7_readSign [wm_r G (27), .int (a), .int (b)] (M) (some (.int (1))) (wI (wI M 27 4 (chF M tx sz p - a)) 27 3 (nI (p + 1))) := by
  obtain ⟨htx, ht, hp, hs, hsz, hp2⟩ := hR
  refine wm_met (by decide) (Nat.le_of_ble_eq_true rfl) ?_
  show WA G t_X7_readSign (fun v_ N_ => v_ = some (.int (1)) ∧ N_ = wI (wI M 27 4 (chF M tx sz p - a)) 27 3 (nI (p + 1))) 0 [(0, wm_r G (27)), (1, .int (a)), (2, .int (b))] [] (M)
  refine wa_aload_n dX7_readSign_0 rfl 0 rfl ?_
  refine wa_getr gX7_readSign_1 (rfl) rfl ?_
  refine wa_aload_n dX7_readSign_4 rfl 0 rfl ?_
  refine wa_geti gX7_readSign_5 (rfl) rfl ?_
  refine wa_eqi (y := (nI (tx))) (ht) ?_
  refine wa_aload_n dX7_readSign_8 rfl 0 rfl ?_
  refine wa_geti gX7_readSign_9 (rfl) rfl ?_
  refine wa_eqi (y := (nI (p))) (hp) ?_
  refine wa_cVi (m_getN 10 4 80 TB_texts tx p sz htx (by omega) hs hsz) vX5_get iX7_readSign_12 (rfl) rfl rfl rfl (Nat.le_of_ble_eq_true rfl) ⟨by decide, by decide⟩ ?_
  refine wa_eqi (y := (chF M tx sz p)) (rfl) ?_
  refine wa_topi (fun c e_c => ?_)
  refine wa_istore_n [(3, .int (c)), (0, wm_r G (27)), (1, .int (a)), (2, .int (b))] dX7_readSign_15 rfl (by decide) rfl ?_
  refine wa_iload_n dX7_readSign_16 rfl 0 rfl ?_
  refine wa_iload_n dX7_readSign_17 rfl 2 rfl ?_
  refine wa_icmp_lt 26 dX7_readSign_18 (by decide) (fun c_18 => absurd (inC_lt (b := b) c_18) (by rw [e_c, hc]; decide)) (fun c_18 => ?_)
  refine wa_iload_n dX7_readSign_21 rfl 0 rfl ?_
  refine wa_iload_n dX7_readSign_22 rfl 3 rfl ?_
  refine wa_icmp_le 28 dX7_readSign_23 (by decide) (fun c_23 => ?_) (fun c_23 => absurd (inC_gt (a := a) c_23) (by rw [e_c, hc]; decide))
  refine wa_aload_n dX7_readSign_28 rfl 1 rfl ?_
  refine wa_iload_n dX7_readSign_29 rfl 0 rfl ?_
  refine wa_iload_n dX7_readSign_30 rfl 2 rfl ?_
  refine wa_isub dX7_readSign_31 ?_
  refine wa_puti gX7_readSign_32 (rfl) rfl ?_
  refine wa_aload_n dX7_readSign_35 rfl 1 rfl ?_
  refine wa_dup dX7_readSign_36 rfl ?_
  refine wa_geti gX7_readSign_37 (rfl) rfl ?_
  refine wa_eqi (y := (nI (p))) (hp) ?_
  refine wa_iconst (1) dX7_readSign_40 (by decide) ?_
  refine wa_iaddN (a := p) (b := 1) dX7_readSign_41 ?_
  refine wa_puti gX7_readSign_42 (rfl) rfl ?_
  refine wa_iconst (1) dX7_readSign_45 (by decide) ?_
  exact wa_zret dX7_readSign_46 rfl (by decide) ⟨congrArg (fun z => some (Value.int z)) (rfl), by rw [e_c]⟩

theorem m_readSign0 {G : wm_G} {M : wm_M} (tx sz p : Nat) (hR : RdAt M tx sz p) (a b : Int32) (hc : inC (chF M tx sz p) a b = false) : MD G t_X7_readSign [wm_r G (27), .int (a), .int (b)] (M) (some (.int (0))) (M) := by
  obtain ⟨htx, ht, hp, hs, hsz, hp2⟩ := hR
  refine wm_met (by decide) (Nat.le_of_ble_eq_true rfl) ?_
  show WA G t_X7_readSign (fun v_ N_ => v_ = some (.int (0)) ∧ N_ = M) 0 [(0, wm_r G (27)), (1, .int (a)), (2, .int (b))] [] (M)
  refine wa_aload_n dX7_readSign_0 rfl 0 rfl ?_
  refine wa_getr gX7_readSign_1 (rfl) rfl ?_
  refine wa_aload_n dX7_readSign_4 rfl 0 rfl ?_
  refine wa_geti gX7_readSign_5 (rfl) rfl ?_
  refine wa_eqi (y := (nI (tx))) (ht) ?_
  refine wa_aload_n dX7_readSign_8 rfl 0 rfl ?_
  refine wa_geti gX7_readSign_9 (rfl) rfl ?_
  refine wa_eqi (y := (nI (p))) (hp) ?_
  refine wa_cVi (m_getN 10 4 80 TB_texts tx p sz htx (by omega) hs hsz) vX5_get iX7_readSign_12 (rfl) rfl rfl rfl (Nat.le_of_ble_eq_true rfl) ⟨by decide, by decide⟩ ?_
  refine wa_eqi (y := (chF M tx sz p)) (rfl) ?_
  refine wa_topi (fun c e_c => ?_)
  refine wa_istore_n [(3, .int (c)), (0, wm_r G (27)), (1, .int (a)), (2, .int (b))] dX7_readSign_15 rfl (by decide) rfl ?_
  refine wa_iload_n dX7_readSign_16 rfl 0 rfl ?_
  refine wa_iload_n dX7_readSign_17 rfl 2 rfl ?_
  refine wa_icmp_lt 26 dX7_readSign_18 (by decide) (fun c_18 => ?_) (fun c_18 => ?_)
  · refine wa_iconst (0) dX7_readSign_26 (by decide) ?_
    exact wa_zret dX7_readSign_27 rfl (by decide) ⟨congrArg (fun z => some (Value.int z)) (rfl), rfl⟩
  · refine wa_iload_n dX7_readSign_21 rfl 0 rfl ?_
    refine wa_iload_n dX7_readSign_22 rfl 3 rfl ?_
    refine wa_icmp_le 28 dX7_readSign_23 (by decide) (fun c_23 => absurd (inC_t c_18 c_23) (by rw [e_c, hc]; decide)) (fun c_23 => ?_)
    refine wa_iconst (0) dX7_readSign_26 (by decide) ?_
    exact wa_zret dX7_readSign_27 rfl (by decide) ⟨congrArg (fun z => some (Value.int z)) (rfl), rfl⟩

theorem m_skipBlanks {G : wm_G} {M : wm_M} (tx sz p : Nat) (hR : RdAt M tx sz p) : MD G t_X7_skipBlanks [wm_r G (27)] (M) (none) (wI M 27 3 (nI (skp (chF M tx sz) sz p))) := by
  obtain ⟨htx, ht, hp, hs, hsz, hp2⟩ := hR
  refine wm_met (by decide) (Nat.le_of_ble_eq_true rfl) ?_
  show WA G t_X7_skipBlanks (fun v_ N_ => v_ = none ∧ N_ = wI M 27 3 (nI (skp (chF M tx sz) sz p))) 0 [(0, wm_r G (27))] [] (M)
  have L_0 : ∀ (n_ : Nat) (q : Nat), (sz - q) < n_ → (q < 200) → (skp (chF M tx sz) sz p = skp (chF M tx sz) sz q) → WA G t_X7_skipBlanks (fun v_ N_ => v_ = none ∧ N_ = wI M 27 3 (nI (skp (chF M tx sz) sz p))) 0 [(0, wm_r G (27))] [] (wI M 27 3 (nI q)) := by
    intro n_
    induction n_ with
    | zero => intro q h_; exact absurd h_ (Nat.not_lt_zero _)
    | succ n_ ih_0 =>
      intro q h_ hq hq2
      have hQ : (wI M 27 3 (nI q)).1 27 3 = nI q := by unfold wI; rw [wIa_s, upd_s]
      have hT2 : (wI M 27 3 (nI q)).1 27 2 = nI tx := by unfold wI; rw [wIa_s, upd_n (by decide)]; exact ht
      refine wa_aload_n dX7_skipBlanks_0 rfl 0 rfl ?_
      refine wa_geti gX7_skipBlanks_1 (rfl) rfl ?_
      refine wa_eqi (y := (nI (q))) (hQ) ?_
      refine wa_aload_n dX7_skipBlanks_4 rfl 0 rfl ?_
      refine wa_getr gX7_skipBlanks_5 (rfl) rfl ?_
      refine wa_aload_n dX7_skipBlanks_8 rfl 0 rfl ?_
      refine wa_geti gX7_skipBlanks_9 (rfl) rfl ?_
      refine wa_eqi (y := (nI (tx))) (hT2) ?_
      refine wa_cVi (m_sizeN 10 4 80 TB_texts tx htx) vX5_size iX7_skipBlanks_12 (rfl) rfl rfl rfl (Nat.le_of_ble_eq_true rfl) ⟨by decide, by decide⟩ ?_
      refine wa_eqi (y := (nI (sz))) (by rw [show (wI M 27 3 (nI q)).1 (10 + 2 + 4) tx = nI sz from hs, nI_clamp (by omega)]) ?_
      refine wa_icmp_geN (a := q) (b := sz) 51 dX7_skipBlanks_15 (by decide) (by omega) (by omega) (fun c_15 => ?_) (fun c_15 => ?_)
      · have hk : skp (chF M tx sz) sz p = q := by rw [hq2, skp_end c_15]
        exact wa_vret dX7_skipBlanks_51 rfl ⟨rfl, by rw [hk]⟩
      · refine wa_aload_n dX7_skipBlanks_18 rfl 0 rfl ?_
        refine wa_getr gX7_skipBlanks_19 (rfl) rfl ?_
        refine wa_aload_n dX7_skipBlanks_22 rfl 0 rfl ?_
        refine wa_geti gX7_skipBlanks_23 (rfl) rfl ?_
        refine wa_eqi (y := (nI (tx))) (hT2) ?_
        refine wa_aload_n dX7_skipBlanks_26 rfl 0 rfl ?_
        refine wa_geti gX7_skipBlanks_27 (rfl) rfl ?_
        refine wa_eqi (y := (nI (q))) (hQ) ?_
        refine wa_cVi (m_getN 10 4 80 TB_texts tx q sz htx (by omega) hs hsz) vX5_get iX7_skipBlanks_30 (rfl) rfl rfl rfl (Nat.le_of_ble_eq_true rfl) ⟨by decide, by decide⟩ ?_
        refine wa_eqi (y := (chF M tx sz q)) (by unfold chF; rw [show (wI M 27 3 (nI q)).1 (10 + 2 + tx) = M.1 (12 + tx) from wIa_n (by omega)]) ?_
        refine wa_bipush (32) dX7_skipBlanks_33 (by decide) ?_
        refine wa_icmp_ne 51 dX7_skipBlanks_35 (by decide) (fun c_35 => ?_) (fun c_35 => ?_)
        · have hk : skp (chF M tx sz) sz p = q := by rw [hq2, skp_n c_35]
          exact wa_vret dX7_skipBlanks_51 rfl ⟨rfl, by rw [hk]⟩
        · refine wa_aload_n dX7_skipBlanks_38 rfl 0 rfl ?_
          refine wa_dup dX7_skipBlanks_39 rfl ?_
          refine wa_geti gX7_skipBlanks_40 (rfl) rfl ?_
          refine wa_eqi (y := (nI (q))) (hQ) ?_
          refine wa_iconst (1) dX7_skipBlanks_43 (by decide) ?_
          refine wa_iaddN (a := q) (b := 1) dX7_skipBlanks_44 ?_
          refine wa_puti gX7_skipBlanks_45 (rfl) rfl ?_
          refine wa_eqm (M' := wI M 27 3 (nI (q + 1))) (wI_2 (j2 := 0)) ?_
          refine wa_goto 0 dX7_skipBlanks_48 (by decide) ?_
          exact ih_0 (q + 1) (by omega) (by omega) (by rw [hq2, skp_b c_15 c_35])
  refine wa_eqm (M' := wI M 27 3 (nI p)) (wI_self hp).symm ?_
  exact L_0 _ p (Nat.lt_succ_self _) hp2 rfl

theorem m_kindOf {G : wm_G} {M : wm_M} (c : Int32) : MD G t_X7_kindOf [.int (c)] (M) (some (.int (kindC c))) (M) := by
  refine wm_met (by decide) (Nat.le_of_ble_eq_true rfl) ?_
  show WA G t_X7_kindOf (fun v_ N_ => v_ = some (.int (kindC c)) ∧ N_ = M) 0 [(0, .int (c))] [] (M)
  refine wa_iload_n dX7_kindOf_0 rfl 0 rfl ?_
  by_cases s_1_99 : ((c)) = (99)
  · rw [s_1_99]
    refine wa_lookup (off := 67) 68 dX7_kindOf_1 (by decide) (by decide) (by decide) ?_
    refine wa_iconst (4) dX7_kindOf_68 (by decide) ?_
    exact wa_iret dX7_kindOf_69 rfl ⟨congrArg (fun z => some (Value.int z)) (by first | (simp [kindC, *]; done) | (subst_vars; rfl) | rfl), rfl⟩
  by_cases s_1_102 : ((c)) = (102)
  · rw [s_1_102]
    refine wa_lookup (off := 63) 64 dX7_kindOf_1 (by decide) (by decide) (by decide) ?_
    refine wa_iconst (2) dX7_kindOf_64 (by decide) ?_
    exact wa_iret dX7_kindOf_65 rfl ⟨congrArg (fun z => some (Value.int z)) (by first | (simp [kindC, *]; done) | (subst_vars; rfl) | rfl), rfl⟩
  by_cases s_1_104 : ((c)) = (104)
  · rw [s_1_104]
    refine wa_lookup (off := 65) 66 dX7_kindOf_1 (by decide) (by decide) (by decide) ?_
    refine wa_iconst (3) dX7_kindOf_66 (by decide) ?_
    exact wa_iret dX7_kindOf_67 rfl ⟨congrArg (fun z => some (Value.int z)) (by first | (simp [kindC, *]; done) | (subst_vars; rfl) | rfl), rfl⟩
  by_cases s_1_115 : ((c)) = (115)
  · rw [s_1_115]
    refine wa_lookup (off := 59) 60 dX7_kindOf_1 (by decide) (by decide) (by decide) ?_
    refine wa_iconst (0) dX7_kindOf_60 (by decide) ?_
    exact wa_iret dX7_kindOf_61 rfl ⟨congrArg (fun z => some (Value.int z)) (by first | (simp [kindC, *]; done) | (subst_vars; rfl) | rfl), rfl⟩
  by_cases s_1_117 : ((c)) = (117)
  · rw [s_1_117]
    refine wa_lookup (off := 69) 70 dX7_kindOf_1 (by decide) (by decide) (by decide) ?_
    refine wa_iconst (5) dX7_kindOf_70 (by decide) ?_
    exact wa_iret dX7_kindOf_71 rfl ⟨congrArg (fun z => some (Value.int z)) (by first | (simp [kindC, *]; done) | (subst_vars; rfl) | rfl), rfl⟩
  by_cases s_1_120 : ((c)) = (120)
  · rw [s_1_120]
    refine wa_lookup (off := 61) 62 dX7_kindOf_1 (by decide) (by decide) (by decide) ?_
    refine wa_iconst (1) dX7_kindOf_62 (by decide) ?_
    exact wa_iret dX7_kindOf_63 rfl ⟨congrArg (fun z => some (Value.int z)) (by first | (simp [kindC, *]; done) | (subst_vars; rfl) | rfl), rfl⟩
  refine wa_lookup (off := 71) 72 dX7_kindOf_1 (by decide) (by show Op.lookupswitch.offset [((99 : Int), (67 : Int)), ((102 : Int), (63 : Int)), ((104 : Int), (65 : Int)), ((115 : Int), (59 : Int)), ((117 : Int), (69 : Int)), ((120 : Int), (61 : Int))] 71 ((c)).toInt = 71; rw [lv_osw (a := 99) s_1_99 (by decide), lv_osw (a := 102) s_1_102 (by decide), lv_osw (a := 104) s_1_104 (by decide), lv_osw (a := 115) s_1_115 (by decide), lv_osw (a := 117) s_1_117 (by decide), lv_osw (a := 120) s_1_120 (by decide)]; rfl) (by decide) ?_
  refine wa_bipush (-9) dX7_kindOf_72 (by decide) ?_
  exact wa_iret dX7_kindOf_74 rfl ⟨congrArg (fun z => some (Value.int z)) (by first | (simp [kindC, *]; done) | (subst_vars; rfl) | rfl), rfl⟩
