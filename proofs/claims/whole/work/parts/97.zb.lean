theorem x_kindOf {G : wm_G} {M : wm_M} (c : Int32) : MD G t_X10_kindOf [.int (c)] (M) (some (.int (kindC c))) (M) := by
  refine wm_met (by decide) (Nat.le_of_ble_eq_true rfl) ?_
  show WA G t_X10_kindOf (fun v_ N_ => v_ = some (.int (kindC c)) ∧ N_ = M) 0 [(0, .int (c))] [] (M)
  refine wa_iload_n dX10_kindOf_0 rfl 0 rfl ?_
  by_cases s_1_99 : ((c)) = (99)
  · rw [s_1_99]
    refine wa_lookup (off := 67) 68 dX10_kindOf_1 (by decide) (by decide) (by decide) ?_
    refine wa_iconst (4) dX10_kindOf_68 (by decide) ?_
    exact wa_iret dX10_kindOf_69 rfl ⟨congrArg (fun z => some (Value.int z)) (by unfold kindC; simp_all), rfl⟩
  by_cases s_1_102 : ((c)) = (102)
  · rw [s_1_102]
    refine wa_lookup (off := 63) 64 dX10_kindOf_1 (by decide) (by decide) (by decide) ?_
    refine wa_iconst (2) dX10_kindOf_64 (by decide) ?_
    exact wa_iret dX10_kindOf_65 rfl ⟨congrArg (fun z => some (Value.int z)) (by unfold kindC; simp_all), rfl⟩
  by_cases s_1_104 : ((c)) = (104)
  · rw [s_1_104]
    refine wa_lookup (off := 65) 66 dX10_kindOf_1 (by decide) (by decide) (by decide) ?_
    refine wa_iconst (3) dX10_kindOf_66 (by decide) ?_
    exact wa_iret dX10_kindOf_67 rfl ⟨congrArg (fun z => some (Value.int z)) (by unfold kindC; simp_all), rfl⟩
  by_cases s_1_115 : ((c)) = (115)
  · rw [s_1_115]
    refine wa_lookup (off := 59) 60 dX10_kindOf_1 (by decide) (by decide) (by decide) ?_
    refine wa_iconst (0) dX10_kindOf_60 (by decide) ?_
    exact wa_iret dX10_kindOf_61 rfl ⟨congrArg (fun z => some (Value.int z)) (by unfold kindC; simp_all), rfl⟩
  by_cases s_1_117 : ((c)) = (117)
  · rw [s_1_117]
    refine wa_lookup (off := 69) 70 dX10_kindOf_1 (by decide) (by decide) (by decide) ?_
    refine wa_iconst (5) dX10_kindOf_70 (by decide) ?_
    exact wa_iret dX10_kindOf_71 rfl ⟨congrArg (fun z => some (Value.int z)) (by unfold kindC; simp_all), rfl⟩
  by_cases s_1_120 : ((c)) = (120)
  · rw [s_1_120]
    refine wa_lookup (off := 61) 62 dX10_kindOf_1 (by decide) (by decide) (by decide) ?_
    refine wa_iconst (1) dX10_kindOf_62 (by decide) ?_
    exact wa_iret dX10_kindOf_63 rfl ⟨congrArg (fun z => some (Value.int z)) (by unfold kindC; simp_all), rfl⟩
  refine wa_lookup (off := 71) 72 dX10_kindOf_1 (by decide) (by show Op.lookupswitch.offset [((99 : Int), (67 : Int)), ((102 : Int), (63 : Int)), ((104 : Int), (65 : Int)), ((115 : Int), (59 : Int)), ((117 : Int), (69 : Int)), ((120 : Int), (61 : Int))] 71 ((c)).toInt = 71; rw [lv_osw (a := 99) s_1_99 (by decide), lv_osw (a := 102) s_1_102 (by decide), lv_osw (a := 104) s_1_104 (by decide), lv_osw (a := 115) s_1_115 (by decide), lv_osw (a := 117) s_1_117 (by decide), lv_osw (a := 120) s_1_120 (by decide)]; rfl) (by decide) ?_
  refine wa_bipush (-9) dX10_kindOf_72 (by decide) ?_
  exact wa_iret dX10_kindOf_74 rfl ⟨congrArg (fun z => some (Value.int z)) (by unfold kindC; simp_all), rfl⟩

theorem x_sign {G : wm_G} {M : wm_M} (r sz : Nat) (ch : Nat → Int32) (hR : RX M r sz ch) (p : Nat) (hp : p < 200) (h19 : M.1 96 19 = nI p) (lo hi : Int32) : MD G t_X10_sign [wm_r G (96), .int (nI (r)), .int (lo), .int (hi)] (M) (some (.int (wB (inC (ch p) lo hi)))) (sgnM M p (ch p) lo hi) := by
  obtain ⟨hr, h101, hsz, hch, hz0⟩ := id hR
  refine wm_met (by decide) (Nat.le_of_ble_eq_true rfl) ?_
  show WA G t_X10_sign (fun v_ N_ => v_ = some (.int (wB (inC (ch p) lo hi))) ∧ N_ = sgnM M p (ch p) lo hi) 0 [(0, wm_r G (96)), (1, .int (nI (r))), (2, .int (lo)), (3, .int (hi))] [] (M)
  refine wa_aload_n dX10_sign_0 rfl 0 rfl ?_
  refine wa_iload_n dX10_sign_1 rfl 1 rfl ?_
  refine wa_aload_n dX10_sign_2 rfl 0 rfl ?_
  refine wa_geti gX10_sign_3 (rfl) rfl ?_
  refine wa_eqi (y := (nI (p))) (h19) ?_
  refine wa_cVi (x_byteAt r hr sz h101 hsz p (by omega)) vX10_byteAt iX10_sign_6 (rfl) rfl rfl rfl (Nat.le_of_ble_eq_true rfl) ⟨by decide, by decide⟩ ?_
  refine wa_eqi (y := (ch p)) (hch p) ?_
  refine wa_istore [(4, .int (ch p)), (0, wm_r G (96)), (1, .int (nI (r))), (2, .int (lo)), (3, .int (hi))] dX10_sign_9 (by decide) rfl ?_
  refine wa_iload dX10_sign_11 0 rfl ?_
  refine wa_iload_n dX10_sign_13 rfl 3 rfl ?_
  refine wa_iload_n dX10_sign_14 rfl 4 rfl ?_
  refine wa_cSi (x_in (ch p) lo hi) vX10_in iX10_sign_15 rfl rfl (Nat.le_of_ble_eq_true rfl) ⟨by decide, by decide⟩ ?_
  refine wa_istore [(5, .int (wB (inC (ch p) lo hi))), (4, .int (ch p)), (0, wm_r G (96)), (1, .int (nI (r))), (2, .int (lo)), (3, .int (hi))] dX10_sign_18 (by decide) rfl ?_
  refine wa_aload_n dX10_sign_20 rfl 2 rfl ?_
  refine wa_iload dX10_sign_21 1 rfl ?_
  refine wa_iload_n dX10_sign_23 rfl 4 rfl ?_
  refine wa_isub dX10_sign_24 ?_
  refine wa_puti gX10_sign_25 (rfl) rfl ?_
  refine wa_aload_n dX10_sign_28 rfl 2 rfl ?_
  refine wa_dup dX10_sign_29 rfl ?_
  refine wa_geti gX10_sign_30 (rfl) rfl ?_
  refine wa_eqi (y := (nI (p))) (by rw [wI_ne (by decide)]; exact h19) ?_
  refine wa_iload dX10_sign_33 0 rfl ?_
  refine wa_if_eqB 42 dX10_sign_35 (by decide) (fun (c_35 : (inC (ch p) lo hi) = false) => ?_) (fun (c_35 : (inC (ch p) lo hi) = true) => ?_)
  · refine wa_iconst (0) dX10_sign_42 (by decide) ?_
    refine wa_iaddN (a := p) (b := 0) dX10_sign_43 ?_
    refine wa_puti gX10_sign_44 (rfl) rfl ?_
    refine wa_eqm (M' := sgnM M p (ch p) lo hi) (by unfold sgnM; first | (rw [if_neg (by rw [c_35]; decide)]; done) | (rw [if_neg (by rw [c_35]; decide)]; rfl) | (rw [if_pos c_35]; done) | (rw [if_pos c_35]; rfl)) ?_
    refine wa_iload dX10_sign_47 0 rfl ?_
    exact wa_zretB dX10_sign_49 rfl ⟨congrArg (fun z => some (Value.int z)) (rfl), rfl⟩
  · refine wa_iconst (1) dX10_sign_38 (by decide) ?_
    refine wa_goto 43 dX10_sign_39 (by decide) ?_
    refine wa_iaddN (a := p) (b := 1) dX10_sign_43 ?_
    refine wa_puti gX10_sign_44 (rfl) rfl ?_
    refine wa_eqm (M' := sgnM M p (ch p) lo hi) (by unfold sgnM; first | (rw [if_neg (by rw [c_35]; decide)]; done) | (rw [if_neg (by rw [c_35]; decide)]; rfl) | (rw [if_pos c_35]; done) | (rw [if_pos c_35]; rfl)) ?_
    refine wa_iload dX10_sign_47 0 rfl ?_
    exact wa_zretB dX10_sign_49 rfl ⟨congrArg (fun z => some (Value.int z)) (rfl), rfl⟩

theorem x_readsGrid {G : wm_G} {M : wm_M} (r sz : Nat) (ch : Nat → Int32) (hR : RX M r sz ch) (p : Nat) (hp : p ≤ 80) (h19 : M.1 96 19 = nI p) : MA G t_X10_readsGrid [wm_r G (96), .int (nI (r))] (M) (GdQ M ch p) := by
  obtain ⟨hr, h101, hsz, hch, hz0⟩ := id hR
  refine wm_met (by decide) (Nat.le_of_ble_eq_true rfl) ?_
  show WA G t_X10_readsGrid (GdQ M ch p) 0 [(0, wm_r G (96)), (1, .int (nI (r)))] [] (M)
  refine wa_aload_n dX10_readsGrid_0 rfl 0 rfl ?_
  refine wa_iload_n dX10_readsGrid_1 rfl 1 rfl ?_
  refine wa_bipush (103) dX10_readsGrid_2 (by decide) ?_
  refine wa_bipush (103) dX10_readsGrid_4 (by decide) ?_
  refine wa_cVi (x_sign (M := M) r sz ch (hR) (p) (by omega) (h19) 103 103) vX10_sign iX10_readsGrid_6 (rfl) rfl rfl rfl (Nat.le_of_ble_eq_true rfl) ⟨by decide, by decide⟩ ?_
  refine wa_top (fun N1 e_N1 => ?_)
  have f1 : FrR M N1 := by rw [e_N1]; exact sgn_fr
  have k108 : N1.1 108 = M.1 108 := by rw [e_N1]; exact sgn_c (by decide)
  have k23 : N1.1 96 23 = M.1 96 23 := by rw [e_N1]; exact sgn_o (by decide) (by decide)
  refine wa_if_eqB 24 dX10_readsGrid_9 (by decide) (fun (c_9 : (inC (ch (p)) 103 103) = false) => ?_) (fun (c_9 : (inC (ch (p)) 103 103) = true) => ?_)
  · have g19 : N1.1 96 19 = nI p := by rw [e_N1]; exact sgn_19f c_9
    refine wa_iconst (0) dX10_readsGrid_24 (by decide) ?_
    refine wa_zret dX10_readsGrid_25 rfl (by decide) ?_
    first | exact ⟨p + 1, false, rfl, f2, m19, l108, l23, fun e => (by cases e), fun _ => Or.inr (Or.inl ⟨c_9, c_21, rfl⟩)⟩ | exact ⟨p, false, rfl, f1, g19, k108, k23, fun e => (by cases e), fun _ => Or.inl ⟨c_9, rfl⟩⟩
  · have g19 : N1.1 96 19 = nI (p + 1) := by rw [e_N1]; exact sgn_19t c_9
    refine wa_aload_n dX10_readsGrid_12 rfl 0 rfl ?_
    refine wa_iload_n dX10_readsGrid_13 rfl 1 rfl ?_
    refine wa_bipush (49) dX10_readsGrid_14 (by decide) ?_
    refine wa_bipush (51) dX10_readsGrid_16 (by decide) ?_
    refine wa_cVi (x_sign (M := N1) r sz ch (f1.rx hR) (p + 1) (by omega) (g19) 49 51) vX10_sign iX10_readsGrid_18 (rfl) rfl rfl rfl (Nat.le_of_ble_eq_true rfl) ⟨by decide, by decide⟩ ?_
    refine wa_top (fun N2 e_N2 => ?_)
    have f2 : FrR M N2 := by rw [e_N2]; exact f1.tr sgn_fr
    have l108 : N2.1 108 = M.1 108 := by rw [e_N2, sgn_c (by decide)]; exact k108
    have l23 : N2.1 96 23 = M.1 96 23 := by rw [e_N2, sgn_o (by decide) (by decide)]; exact k23
    have l20 : N2.1 96 20 = ch (p + 1) - 49 := by rw [e_N2]; exact sgn_20
    refine wa_if_neB 26 dX10_readsGrid_21 (by decide) (fun (c_21 : (inC (ch (p + 1)) 49 51) = true) => ?_) (fun (c_21 : (inC (ch (p + 1)) 49 51) = false) => ?_)
    · have m19 : N2.1 96 19 = nI (p + 1 + 1) := by rw [e_N2]; exact sgn_19t c_21
      refine wa_aload_n dX10_readsGrid_26 rfl 0 rfl ?_
      refine wa_geti gX10_readsGrid_27 (rfl) rfl ?_
      refine wa_eqi (y := (ch (p + 1) - 49)) (l20) ?_
      refine wa_iconst (1) dX10_readsGrid_30 (by decide) ?_
      refine wa_iadd dX10_readsGrid_31 ?_
      refine wa_istore_n [(2, .int ((ch (p + 1) - 49) + (1))), (0, wm_r G (96)), (1, .int (nI (r)))] dX10_readsGrid_32 rfl (by decide) rfl ?_
      refine wa_aload_n dX10_readsGrid_33 rfl 1 rfl ?_
      refine wa_iload_n dX10_readsGrid_34 rfl 2 rfl ?_
      refine wa_bipush (49) dX10_readsGrid_35 (by decide) ?_
      refine wa_bipush (50) dX10_readsGrid_37 (by decide) ?_
      refine wa_cVi (x_sign (M := N2) r sz ch (f2.rx hR) (p + 1 + 1) (by omega) (m19) 49 50) vX10_sign iX10_readsGrid_39 (rfl) rfl rfl rfl (Nat.le_of_ble_eq_true rfl) ⟨by decide, by decide⟩ ?_
      refine wa_top (fun N3 e_N3 => ?_)
      have f3 : FrR M N3 := by rw [e_N3]; exact f2.tr sgn_fr
      have o108 : N3.1 108 = M.1 108 := by rw [e_N3, sgn_c (by decide)]; exact l108
      have o23 : N3.1 96 23 = M.1 96 23 := by rw [e_N3, sgn_o (by decide) (by decide)]; exact l23
      have o20 : N3.1 96 20 = ch (p + 1 + 1) - 49 := by rw [e_N3]; exact sgn_20
      refine wa_if_neB 47 dX10_readsGrid_42 (by decide) (fun (c_42 : (inC (ch (p + 1 + 1)) 49 50) = true) => ?_) (fun (c_42 : (inC (ch (p + 1 + 1)) 49 50) = false) => ?_)
      · have o19 : N3.1 96 19 = nI (p + 1 + 1 + 1) := by rw [e_N3]; exact sgn_19t c_42
        refine wa_aload_n dX10_readsGrid_47 rfl 1 rfl ?_
        refine wa_iload_n dX10_readsGrid_48 rfl 0 rfl ?_
        refine wa_puti gX10_readsGrid_49 (rfl) rfl ?_
        refine wa_aload_n dX10_readsGrid_52 rfl 1 rfl ?_
        refine wa_aload_n dX10_readsGrid_53 rfl 1 rfl ?_
        refine wa_geti gX10_readsGrid_54 (rfl) rfl ?_
        refine wa_eqi (y := (ch (p + 1 + 1) - 49)) (by rw [wI_ne (by decide)]; exact o20) ?_
        refine wa_iconst (1) dX10_readsGrid_57 (by decide) ?_
        refine wa_iadd dX10_readsGrid_58 ?_
        refine wa_puti gX10_readsGrid_59 (rfl) rfl ?_
        refine wa_iconst (1) dX10_readsGrid_62 (by decide) ?_
        refine wa_zret dX10_readsGrid_63 rfl (by decide) ?_
        exact ⟨p + 3, true, rfl, (f3.tr (FrR.P (by decide))).tr (FrR.P (by decide)), by rw [wI_ne (by decide), wI_ne (by decide)]; exact o19, by rw [wI_c (by decide), wI_c (by decide)]; exact o108, by rw [wI_ne (by decide), wI_ne (by decide)]; exact o23, fun _ => ⟨rfl, c_9, c_21, c_42, by rw [wI_ne (by decide), wI_at], by rw [wI_at]⟩, fun e => (by cases e)⟩
      · have o19 : N3.1 96 19 = nI (p + 1 + 1) := by rw [e_N3]; exact sgn_19f c_42
        refine wa_iconst (0) dX10_readsGrid_45 (by decide) ?_
        refine wa_zret dX10_readsGrid_46 rfl (by decide) ?_
        exact ⟨p + 2, false, rfl, f3, o19, o108, o23, fun e => (by cases e), fun _ => Or.inr (Or.inr ⟨c_9, c_21, c_42, rfl⟩)⟩
    · have m19 : N2.1 96 19 = nI (p + 1) := by rw [e_N2]; exact sgn_19f c_21
      refine wa_iconst (0) dX10_readsGrid_24 (by decide) ?_
      refine wa_zret dX10_readsGrid_25 rfl (by decide) ?_
      first | exact ⟨p + 1, false, rfl, f2, m19, l108, l23, fun e => (by cases e), fun _ => Or.inr (Or.inl ⟨c_9, c_21, rfl⟩)⟩ | exact ⟨p, false, rfl, f1, g19, k108, k23, fun e => (by cases e), fun _ => Or.inl ⟨c_9, rfl⟩⟩

set_option maxHeartbeats 4000000 in
theorem x_readsStone {G : wm_G} {M : wm_M} (r sz : Nat) (ch : Nat → Int32) (hR : RX M r sz ch) (p k gw gh : Nat) (hp : p ≤ 80) (h19 : M.1 96 19 = nI p) (hk : k ≤ gw * gh) (hw : gw ≤ 3) (hh : gh ≤ 2) (h21 : M.1 96 21 = nI gw) (h22 : M.1 96 22 = nI gh) (h23 : M.1 96 23 = nI k) : MA G t_X10_readsStone [wm_r G (96), .int (nI (r))] (M) (StQ M ch k (gw * gh) p) := by
  obtain ⟨hr, h101, hsz, hch, hz0⟩ := id hR
  have hgg : gw * gh ≤ 6 := Nat.le_trans (Nat.mul_le_mul hw hh) (by decide)
  refine wm_met (by decide) (Nat.le_of_ble_eq_true rfl) ?_
  show WA G t_X10_readsStone (StQ M ch k (gw * gh) p) 0 [(0, wm_r G (96)), (1, .int (nI (r)))] [] (M)
  refine wa_aload_n dX10_readsStone_0 rfl 0 rfl ?_
  refine wa_iload_n dX10_readsStone_1 rfl 1 rfl ?_
  refine wa_aload_n dX10_readsStone_2 rfl 0 rfl ?_
  refine wa_geti gX10_readsStone_3 (rfl) rfl ?_
  refine wa_eqi (y := (nI (p))) (h19) ?_
  refine wa_cVi (x_byteAt r hr sz h101 hsz p (by omega)) vX10_byteAt iX10_readsStone_6 (rfl) rfl rfl rfl (Nat.le_of_ble_eq_true rfl) ⟨by decide, by decide⟩ ?_
  refine wa_eqi (y := (ch p)) (hch p) ?_
  refine wa_cSi (x_kindOf (ch p)) vX10_kindOf iX10_readsStone_9 rfl rfl (Nat.le_of_ble_eq_true rfl) ⟨by decide, by decide⟩ ?_
  refine wa_istore_n [(2, .int (kindC (ch p))), (0, wm_r G (96)), (1, .int (nI (r)))] dX10_readsStone_12 rfl (by decide) rfl ?_
  refine wa_iload_n dX10_readsStone_13 rfl 0 rfl ?_
  refine wa_bipush (-9) dX10_readsStone_14 (by decide) ?_
  refine wa_icmp_eq 35 dX10_readsStone_16 (by decide) (fun c_16 => ?_) (fun c_16 => ?_)
  · refine wa_iconst (0) dX10_readsStone_35 (by decide) ?_
    refine wa_zret dX10_readsStone_36 rfl (by decide) ?_
    first | exact ⟨p, false, rfl, FrR.rf M, h19, rfl, rfl, fun _ _ => rfl, fun e => (by cases e), fun _ => Or.inl ⟨c_32, rfl⟩⟩ | exact ⟨p, false, rfl, FrR.rf M, h19, rfl, rfl, fun _ _ => rfl, fun e => (by cases e), fun _ => by rcases Nat.lt_or_eq_of_le hk with q | q; (exact Or.inr ⟨q, stEnd_k c_16⟩); (exact Or.inl ⟨q, rfl⟩)⟩
  · refine wa_aload_n dX10_readsStone_19 rfl 1 rfl ?_
    refine wa_geti gX10_readsStone_20 (rfl) rfl ?_
    refine wa_eqi (y := (nI (k))) (h23) ?_
    refine wa_aload_n dX10_readsStone_23 rfl 1 rfl ?_
    refine wa_geti gX10_readsStone_24 (rfl) rfl ?_
    refine wa_eqi (y := (nI (gw))) (h21) ?_
    refine wa_aload_n dX10_readsStone_27 rfl 1 rfl ?_
    refine wa_geti gX10_readsStone_28 (rfl) rfl ?_
    refine wa_eqi (y := (nI (gh))) (h22) ?_
    refine wa_imulN (a := gw) (b := gh) dX10_readsStone_31 ?_
    refine wa_icmp_neN (a := k) (b := gw * gh) 37 dX10_readsStone_32 (by decide) (by omega) (by omega) (fun c_32 => ?_) (fun c_32 => ?_)
    · have hk6 : k < gw * gh := by omega
      refine wa_aload_n dX10_readsStone_37 rfl 1 rfl ?_
      refine wa_dup dX10_readsStone_38 rfl ?_
      refine wa_geti gX10_readsStone_39 (rfl) rfl ?_
      refine wa_eqi (y := (nI (p))) (h19) ?_
      refine wa_iconst (1) dX10_readsStone_42 (by decide) ?_
      refine wa_iaddN (a := p) (b := 1) dX10_readsStone_43 ?_
      refine wa_puti gX10_readsStone_44 (rfl) rfl ?_
      refine wa_bipush (7) dX10_readsStone_47 (by decide) ?_
      refine wa_aload_n dX10_readsStone_49 rfl 1 rfl ?_
      refine wa_geti gX10_readsStone_50 (rfl) rfl ?_
      refine wa_eqi (y := (nI (k))) (by rw [wI_ne (by decide)]; exact h23) ?_
      refine wa_imulN (a := 7) (b := k) dX10_readsStone_53 ?_
      refine wa_istore_n [(3, .int (nI (7 * k))), (2, .int (kindC (ch p))), (0, wm_r G (96)), (1, .int (nI (r)))] dX10_readsStone_54 rfl (by decide) rfl ?_
      refine wa_aload_n dX10_readsStone_55 rfl 2 rfl ?_
      refine wa_getr gX10_readsStone_56 (rfl) rfl ?_
      refine wa_iload_n dX10_readsStone_59 rfl 0 rfl ?_
      refine wa_iload_n dX10_readsStone_60 rfl 1 rfl ?_
      refine wa_iastN (e := 7 * k) dX10_readsStone_61 (rfl) (by omega) (by decide) ?_
      refine wa_top (fun N1 e_N1 => ?_)
      have f1 : FrR M N1 := by rw [e_N1]; exact (FrR.P (by decide)).tr FrR.S
      have p1 : N1.1 96 19 = nI (p + 1) := by rw [e_N1, wI_c (by decide), wI_at]
      have s1 : N1.1 96 21 = M.1 96 21 ∧ N1.1 96 22 = M.1 96 22 ∧ N1.1 96 23 = nI k := ⟨by rw [e_N1, wI_c (by decide), wI_ne (by decide)], by rw [e_N1, wI_c (by decide), wI_ne (by decide)], by rw [e_N1, wI_c (by decide), wI_ne (by decide)]; exact h23⟩
      have b1 : ∀ j, j < 7 * k → N1.1 108 j = M.1 108 j := fun j hj => by rw [e_N1, wI_ne (fun e => by omega), wI_c (by decide)]
      have a1 : N1.1 108 (7 * k) = kindC (ch p) := by rw [e_N1, wI_at]
      refine wa_iconst (0) dX10_readsStone_62 (by decide) ?_
      refine wa_istore [(4, .int (0)), (3, .int (nI (7 * k))), (2, .int (kindC (ch p))), (0, wm_r G (96)), (1, .int (nI (r)))] dX10_readsStone_63 (by decide) rfl ?_
      have L_65 : ∀ (n_ : Nat) (i : Nat) (N : wm_M), (4 - i) < n_ → (i ≤ 4) → (FrR M N) → (N.1 96 19 = nI (p + 1 + i)) → (N.1 96 21 = M.1 96 21 ∧ N.1 96 22 = M.1 96 22 ∧ N.1 96 23 = nI k) → (∀ j, j < 7 * k → N.1 108 j = M.1 108 j) → (N.1 108 (7 * k) = kindC (ch p)) → (∀ j, j < i → N.1 108 (7 * k + 1 + j) = ch (p + 1 + j) - 97) → (∀ j, j < i → inC (ch (p + 1 + j)) 97 104 = true) → WA G t_X10_readsStone (StQ M ch k (gw * gh) p) 65 [(4, .int (nI (i))), (3, .int (nI (7 * k))), (2, .int (kindC (ch p))), (0, wm_r G (96)), (1, .int (nI (r)))] [] (N) := by
        intro n_
        induction n_ with
        | zero => intro i N h_; exact absurd h_ (Nat.not_lt_zero _)
        | succ n_ ih_65 =>
          intro i N h_ hi hF h19i hs hb ha hwd hall
          refine wa_iload dX10_readsStone_65 0 rfl ?_
          refine wa_iconst (4) dX10_readsStone_67 (by decide) ?_
          refine wa_icmp_geN (a := i) (b := 4) 106 dX10_readsStone_68 (by decide) (by omega) (by omega) (fun c_68 => ?_) (fun c_68 => ?_)
          · refine wa_aload_n dX10_readsStone_106 rfl 3 rfl ?_
            refine wa_getr gX10_readsStone_107 (rfl) rfl ?_
            refine wa_iload_n dX10_readsStone_110 rfl 1 rfl ?_
            refine wa_iconst (5) dX10_readsStone_111 (by decide) ?_
            refine wa_iaddN (a := 7 * k) (b := 5) dX10_readsStone_112 ?_
            refine wa_bipush (-9) dX10_readsStone_113 (by decide) ?_
            refine wa_iastN (e := 7 * k + 5) dX10_readsStone_115 (rfl) (by omega) (by decide) ?_
            refine wa_aload_n dX10_readsStone_116 rfl 3 rfl ?_
            refine wa_getr gX10_readsStone_117 (rfl) rfl ?_
            refine wa_iload_n dX10_readsStone_120 rfl 1 rfl ?_
            refine wa_bipush (6) dX10_readsStone_121 (by decide) ?_
            refine wa_iaddN (a := 7 * k) (b := 6) dX10_readsStone_123 ?_
            refine wa_bipush (-9) dX10_readsStone_124 (by decide) ?_
            refine wa_iastN (e := 7 * k + 6) dX10_readsStone_126 (rfl) (by omega) (by decide) ?_
            refine wa_top (fun N4 e_N4 => ?_)
            have hi4 : i = 4 := by omega
            subst hi4
            have f4 : FrR M N4 := by rw [e_N4]; exact (hF.tr FrR.S).tr FrR.S
            have p4_ : N4.1 96 19 = nI (p + 5) := by rw [e_N4, wI_c (by decide), wI_c (by decide)]; exact h19i
            have s4 : N4.1 96 21 = M.1 96 21 ∧ N4.1 96 22 = M.1 96 22 ∧ N4.1 96 23 = nI k := by rw [e_N4, wI_c (by decide), wI_c (by decide)]; exact hs
            have b4 : ∀ j, j < 7 * k → N4.1 108 j = M.1 108 j := fun j hj => by rw [e_N4, wI_ne (fun e => by omega), wI_ne (fun e => by omega)]; exact hb j hj
            have a4 : N4.1 108 (7 * k) = kindC (ch p) := by rw [e_N4, wI_ne (fun e => by omega), wI_ne (fun e => by omega)]; exact ha
            have w4 : ∀ j, j < 4 → N4.1 108 (7 * k + 1 + j) = ch (p + 1 + j) - 97 := fun j hj => by rw [e_N4, wI_ne (fun e => by omega), wI_ne (fun e => by omega)]; exact hwd j hj
            have t4 : N4.1 108 (7 * k + 5) = -9 := by rw [e_N4, wI_ne (fun e => by omega), wI_at]
            have hw4 : wdN ch 4 (p + 1) = 4 := wdN_all hall
            have hse := stEnd_s c_16 hw4
            refine wa_iload_n dX10_readsStone_127 rfl 2 rfl ?_
            refine wa_iconst (1) dX10_readsStone_128 (by decide) ?_
            refine wa_icmp_eq 137 dX10_readsStone_129 (by decide) (fun c_129 => ?_) (fun c_129 => ?_)
            · have hof : isOfB (kindC (ch p)) 1 = true := isOf1.mpr (Or.inl c_129)
              refine wa_aload_n dX10_readsStone_137 rfl 3 rfl ?_
              refine wa_iload_n dX10_readsStone_138 rfl 4 rfl ?_
              refine wa_bipush (48) dX10_readsStone_139 (by decide) ?_
              refine wa_bipush (51) dX10_readsStone_141 (by decide) ?_
              refine wa_cVi (x_sign (M := N4) r sz ch (f4.rx hR) (p + 5) (by omega) (p4_) 48 51) vX10_sign iX10_readsStone_143 (rfl) rfl rfl rfl (Nat.le_of_ble_eq_true rfl) ⟨by decide, by decide⟩ ?_
              refine wa_top (fun N5 e_N5 => ?_)
              have f5 : FrR M N5 := by rw [e_N5]; exact f4.tr sgn_fr
              have c5 : N5.1 108 = N4.1 108 := by rw [e_N5]; exact sgn_c (by decide)
              have s5 : N5.1 96 21 = M.1 96 21 ∧ N5.1 96 22 = M.1 96 22 ∧ N5.1 96 23 = nI k := ⟨by rw [e_N5, sgn_o (by decide) (by decide)]; exact s4.1, by rw [e_N5, sgn_o (by decide) (by decide)]; exact s4.2.1, by rw [e_N5, sgn_o (by decide) (by decide)]; exact s4.2.2⟩
              have d5 : N5.1 96 20 = ch (p + 5) - 48 := by rw [e_N5]; exact sgn_20
              refine wa_if_neB 151 dX10_readsStone_146 (by decide) (fun (c_146 : (inC (ch (p + 5)) 48 51) = true) => ?_) (fun (c_146 : (inC (ch (p + 5)) 48 51) = false) => ?_)
              · obtain ⟨sd, hsd, esd, -⟩ := inC_of (a := 48) (b := 51) (by decide) (by decide) c_146
                have esd : ch (p + 5) - 48 = nI sd := esd
                refine wa_aload_n dX10_readsStone_151 rfl 3 rfl ?_
                refine wa_geti gX10_readsStone_152 (rfl) rfl ?_
                refine wa_eqi (y := (nI (sd))) (d5.trans esd) ?_
                refine wa_istore [(4, .int (nI (sd))), (3, .int (nI (7 * k))), (2, .int (kindC (ch p))), (0, wm_r G (96)), (1, .int (nI (r)))] dX10_readsStone_155 (by decide) rfl ?_
                refine wa_aload_n dX10_readsStone_157 rfl 3 rfl ?_
                refine wa_getr gX10_readsStone_158 (rfl) rfl ?_
                refine wa_iload_n dX10_readsStone_161 rfl 1 rfl ?_
                refine wa_iconst (5) dX10_readsStone_162 (by decide) ?_
                refine wa_iaddN (a := 7 * k) (b := 5) dX10_readsStone_163 ?_
                refine wa_iload dX10_readsStone_164 0 rfl ?_
                refine wa_iastN (e := 7 * k + 5) dX10_readsStone_166 (rfl) (by omega) (by decide) ?_
                refine wa_top (fun N6 e_N6 => ?_)
                have f6 : FrR M N6 := by rw [e_N6]; exact f5.tr FrR.S
                have p6 : N6.1 96 19 = nI (p + 6) := by rw [e_N6, wI_c (by decide), e_N5]; exact sgn_19t c_146
                have s6 : N6.1 96 21 = M.1 96 21 ∧ N6.1 96 22 = M.1 96 22 ∧ N6.1 96 23 = nI k := by rw [e_N6, wI_c (by decide)]; exact s5
                have b6 : ∀ j, j < 7 * k → N6.1 108 j = M.1 108 j := fun j hj => by rw [e_N6, wI_ne (fun e => by omega), c5]; exact b4 j hj
                have a6 : N6.1 108 (7 * k) = kindC (ch p) := by rw [e_N6, wI_ne (fun e => by omega), c5]; exact a4
                have w6 : ∀ j, j < 4 → N6.1 108 (7 * k + 1 + j) = ch (p + 1 + j) - 97 := fun j hj => by rw [e_N6, wI_ne (fun e => by omega), c5]; exact w4 j hj
                have t6 : N6.1 108 (7 * k + 5) = ch (p + 5) - 48 := by rw [e_N6, wI_at, esd]
                refine wa_iload_n dX10_readsStone_167 rfl 2 rfl ?_
                refine wa_iconst (4) dX10_readsStone_168 (by decide) ?_
                refine wa_icmp_ne 187 dX10_readsStone_169 (by decide) (fun c_169 => ?_) (fun c_169 => ?_)
                · refine wa_aload_n dX10_readsStone_187 rfl 3 rfl ?_
                  refine wa_iload_n dX10_readsStone_188 rfl 4 rfl ?_
                  refine wa_bipush (97) dX10_readsStone_189 (by decide) ?_
                  refine wa_bipush (104) dX10_readsStone_191 (by decide) ?_
                  refine wa_cVi (x_sign (M := N6) r sz ch (f6.rx hR) (p + 6) (by omega) (p6) 97 104) vX10_sign iX10_readsStone_193 (rfl) rfl rfl rfl (Nat.le_of_ble_eq_true rfl) ⟨by decide, by decide⟩ ?_
                  refine wa_top (fun N7 e_N7 => ?_)
                  have f7 : FrR M N7 := by rw [e_N7]; exact f6.tr sgn_fr
                  have c7 : N7.1 108 = N6.1 108 := by rw [e_N7]; exact sgn_c (by decide)
                  have s7 : N7.1 96 21 = M.1 96 21 ∧ N7.1 96 22 = M.1 96 22 ∧ N7.1 96 23 = nI k := ⟨by rw [e_N7, sgn_o (by decide) (by decide)]; exact s6.1, by rw [e_N7, sgn_o (by decide) (by decide)]; exact s6.2.1, by rw [e_N7, sgn_o (by decide) (by decide)]; exact s6.2.2⟩
                  have d7 : N7.1 96 20 = ch (p + 6) - 97 := by rw [e_N7]; exact sgn_20
                  refine wa_if_neB 201 dX10_readsStone_196 (by decide) (fun (c_196 : (inC (ch (p + 6)) 97 104) = true) => ?_) (fun (c_196 : (inC (ch (p + 6)) 97 104) = false) => ?_)
                  · refine wa_aload_n dX10_readsStone_201 rfl 3 rfl ?_
                    refine wa_getr gX10_readsStone_202 (rfl) rfl ?_
                    refine wa_iload_n dX10_readsStone_205 rfl 1 rfl ?_
                    refine wa_bipush (6) dX10_readsStone_206 (by decide) ?_
                    refine wa_iaddN (a := 7 * k) (b := 6) dX10_readsStone_208 ?_
                    refine wa_aload_n dX10_readsStone_209 rfl 3 rfl ?_
                    refine wa_geti gX10_readsStone_210 (rfl) rfl ?_
                    refine wa_eqi (y := (ch (p + 6) - 97)) (d7) ?_
                    refine wa_iastN (e := 7 * k + 6) dX10_readsStone_213 (rfl) (by omega) (by decide) ?_
                    refine wa_top (fun N8 e_N8 => ?_)
                    have hen : stEnd ch p = (p + 7, true) := by rw [hse]; unfold sdEnd; rw [if_neg (by rw [hof]; decide), if_neg (by rw [c_146]; decide), if_neg c_169, if_neg (by rw [c_196]; decide)]
                    have hRS : RS N8 ch k p := ⟨by rw [e_N8, wI_ne (fun e => by omega), c7]; exact a6, fun j hj => by rw [e_N8, wI_ne (fun e => by omega), c7, w6 j hj, if_neg (fun c => c_169 c.1)], by rw [e_N8, wI_ne (fun e => by omega), c7, t6, if_pos hof], fun _ => by rw [e_N8, wI_at]⟩
                    have hfin : FrR M N8 ∧ N8.1 96 19 = nI (p + 7) ∧ (N8.1 96 21 = M.1 96 21 ∧ N8.1 96 22 = M.1 96 22 ∧ N8.1 96 23 = nI k) ∧ (∀ j, j < 7 * k → N8.1 108 j = M.1 108 j) := ⟨by rw [e_N8]; exact f7.tr FrR.S, by rw [e_N8, wI_c (by decide), e_N7]; exact sgn_19t c_196, by rw [e_N8, wI_c (by decide)]; exact s7, fun j hj => by rw [e_N8, wI_ne (fun e => by omega), c7]; exact b6 j hj⟩
                    refine wa_aload_n dX10_readsStone_214 rfl 3 rfl ?_
                    refine wa_dup dX10_readsStone_215 rfl ?_
                    refine wa_geti gX10_readsStone_216 (rfl) rfl ?_
                    refine wa_eqi (y := (nI (k))) (hfin.2.2.1.2.2) ?_
                    refine wa_iconst (1) dX10_readsStone_219 (by decide) ?_
                    refine wa_iaddN (a := k) (b := 1) dX10_readsStone_220 ?_
                    refine wa_puti gX10_readsStone_221 (rfl) rfl ?_
                    refine wa_iconst (1) dX10_readsStone_224 (by decide) ?_
                    refine wa_zret dX10_readsStone_225 rfl (by decide) ?_
                    exact ⟨_, true, rfl, hfin.1.tr (FrR.P (by decide)), by rw [wI_ne (by decide)]; exact hfin.2.1, by rw [wI_ne (by decide)]; exact hfin.2.2.1.1, by rw [wI_ne (by decide)]; exact hfin.2.2.1.2.1, fun j hj => by rw [wI_c (by decide)]; exact hfin.2.2.2 j hj, fun _ => ⟨hk6, hen, by rw [wI_at], hRS.keep (fun j _ => by rw [wI_c (by decide)])⟩, fun e => (by cases e)⟩
                  · refine wa_iconst (0) dX10_readsStone_199 (by decide) ?_
                    refine wa_zret dX10_readsStone_200 rfl (by decide) ?_
                    exact ⟨p + 6, false, rfl, f7, by rw [e_N7]; exact sgn_19f c_196, s7.1, s7.2.1, fun j hj => by rw [c7]; exact b6 j hj, fun e => (by cases e), fun _ => Or.inr ⟨hk6, by rw [hse]; unfold sdEnd; rw [if_neg (by rw [hof]; decide), if_neg (by rw [c_146]; decide), if_neg c_169, if_pos c_196]⟩⟩
                · refine wa_aload_n dX10_readsStone_172 rfl 3 rfl ?_
                  refine wa_getr gX10_readsStone_173 (rfl) rfl ?_
                  refine wa_iload_n dX10_readsStone_176 rfl 1 rfl ?_
                  refine wa_iconst (1) dX10_readsStone_177 (by decide) ?_
                  refine wa_iaddN (a := 7 * k) (b := 1) dX10_readsStone_178 ?_
                  refine wa_iload dX10_readsStone_179 0 rfl ?_
                  refine wa_iaddN (a := 7 * k + 1) (b := sd) dX10_readsStone_181 ?_
                  refine wa_iconst (-1) dX10_readsStone_182 (by decide) ?_
                  refine wa_iastN (e := 7 * k + 1 + sd) dX10_readsStone_183 (rfl) (by omega) (by decide) ?_
                  refine wa_top (fun N7 e_N7 => ?_)
                  have hen : stEnd ch p = (p + 6, true) := by rw [hse]; unfold sdEnd; rw [if_neg (by rw [hof]; decide), if_neg (by rw [c_146]; decide), if_pos c_169]
                  have hRS : RS N7 ch k p := ⟨by rw [e_N7, wI_ne (fun e => by omega)]; exact a6, fun j hj => by
                    rw [e_N7]
                    by_cases q : j = sd
                    · subst q; rw [wI_at, if_pos ⟨c_169, esd⟩]
                    · rw [wI_ne (fun e => by omega), w6 j hj, if_neg (fun c => q (by have := (nI_eq (by omega) (by omega)).mp (esd.symm.trans c.2); omega))], by rw [e_N7, wI_ne (fun e => by omega), t6, if_pos hof], fun c => absurd (c.symm.trans c_169) (by decide)⟩
                  have hfin : FrR M N7 ∧ N7.1 96 19 = nI (p + 6) ∧ (N7.1 96 21 = M.1 96 21 ∧ N7.1 96 22 = M.1 96 22 ∧ N7.1 96 23 = nI k) ∧ (∀ j, j < 7 * k → N7.1 108 j = M.1 108 j) := ⟨by rw [e_N7]; exact f6.tr FrR.S, by rw [e_N7, wI_c (by decide)]; exact p6, by rw [e_N7, wI_c (by decide)]; exact s6, fun j hj => by rw [e_N7, wI_ne (fun e => by omega)]; exact b6 j hj⟩
                  refine wa_goto 214 dX10_readsStone_184 (by decide) ?_
                  refine wa_aload_n dX10_readsStone_214 rfl 3 rfl ?_
                  refine wa_dup dX10_readsStone_215 rfl ?_
                  refine wa_geti gX10_readsStone_216 (rfl) rfl ?_
                  refine wa_eqi (y := (nI (k))) (hfin.2.2.1.2.2) ?_
                  refine wa_iconst (1) dX10_readsStone_219 (by decide) ?_
                  refine wa_iaddN (a := k) (b := 1) dX10_readsStone_220 ?_
                  refine wa_puti gX10_readsStone_221 (rfl) rfl ?_
                  refine wa_iconst (1) dX10_readsStone_224 (by decide) ?_
                  refine wa_zret dX10_readsStone_225 rfl (by decide) ?_
                  exact ⟨_, true, rfl, hfin.1.tr (FrR.P (by decide)), by rw [wI_ne (by decide)]; exact hfin.2.1, by rw [wI_ne (by decide)]; exact hfin.2.2.1.1, by rw [wI_ne (by decide)]; exact hfin.2.2.1.2.1, fun j hj => by rw [wI_c (by decide)]; exact hfin.2.2.2 j hj, fun _ => ⟨hk6, hen, by rw [wI_at], hRS.keep (fun j _ => by rw [wI_c (by decide)])⟩, fun e => (by cases e)⟩
              · refine wa_iconst (0) dX10_readsStone_149 (by decide) ?_
                refine wa_zret dX10_readsStone_150 rfl (by decide) ?_
                exact ⟨p + 5, false, rfl, f5, by rw [e_N5]; exact sgn_19f c_146, s5.1, s5.2.1, fun j hj => by rw [c5]; exact b4 j hj, fun e => (by cases e), fun _ => Or.inr ⟨hk6, by rw [hse]; unfold sdEnd; rw [if_neg (by rw [hof]; decide), if_pos c_146]⟩⟩
            · refine wa_iload_n dX10_readsStone_132 rfl 2 rfl ?_
              refine wa_iconst (4) dX10_readsStone_133 (by decide) ?_
              refine wa_icmp_ne 214 dX10_readsStone_134 (by decide) (fun c_134 => ?_) (fun c_134 => ?_)
              · have hof : isOfB (kindC (ch p)) 1 = false := Bool.eq_false_iff.mpr (fun q => (isOf1.mp q).elim c_129 c_134)
                have hen : stEnd ch p = (p + 5, true) := by rw [hse]; unfold sdEnd; rw [if_pos hof]
                have hRS : RS N4 ch k p := ⟨a4, fun j hj => by rw [w4 j hj, if_neg (fun c => c_134 c.1)], by rw [t4, if_neg (by rw [hof]; decide)], fun c => absurd c c_129⟩
                have hfin : FrR M N4 ∧ N4.1 96 19 = nI (p + 5) ∧ (N4.1 96 21 = M.1 96 21 ∧ N4.1 96 22 = M.1 96 22 ∧ N4.1 96 23 = nI k) ∧ (∀ j, j < 7 * k → N4.1 108 j = M.1 108 j) := ⟨f4, p4_, s4, b4⟩
                refine wa_aload_n dX10_readsStone_214 rfl 3 rfl ?_
                refine wa_dup dX10_readsStone_215 rfl ?_
                refine wa_geti gX10_readsStone_216 (rfl) rfl ?_
                refine wa_eqi (y := (nI (k))) (hfin.2.2.1.2.2) ?_
                refine wa_iconst (1) dX10_readsStone_219 (by decide) ?_
                refine wa_iaddN (a := k) (b := 1) dX10_readsStone_220 ?_
                refine wa_puti gX10_readsStone_221 (rfl) rfl ?_
                refine wa_iconst (1) dX10_readsStone_224 (by decide) ?_
                refine wa_zret dX10_readsStone_225 rfl (by decide) ?_
                exact ⟨_, true, rfl, hfin.1.tr (FrR.P (by decide)), by rw [wI_ne (by decide)]; exact hfin.2.1, by rw [wI_ne (by decide)]; exact hfin.2.2.1.1, by rw [wI_ne (by decide)]; exact hfin.2.2.1.2.1, fun j hj => by rw [wI_c (by decide)]; exact hfin.2.2.2 j hj, fun _ => ⟨hk6, hen, by rw [wI_at], hRS.keep (fun j _ => by rw [wI_c (by decide)])⟩, fun e => (by cases e)⟩
              · have hof : isOfB (kindC (ch p)) 1 = true := isOf1.mpr (Or.inr c_134)
                refine wa_aload_n dX10_readsStone_137 rfl 3 rfl ?_
                refine wa_iload_n dX10_readsStone_138 rfl 4 rfl ?_
                refine wa_bipush (48) dX10_readsStone_139 (by decide) ?_
                refine wa_bipush (51) dX10_readsStone_141 (by decide) ?_
                refine wa_cVi (x_sign (M := N4) r sz ch (f4.rx hR) (p + 5) (by omega) (p4_) 48 51) vX10_sign iX10_readsStone_143 (rfl) rfl rfl rfl (Nat.le_of_ble_eq_true rfl) ⟨by decide, by decide⟩ ?_
                refine wa_top (fun N5 e_N5 => ?_)
                have f5 : FrR M N5 := by rw [e_N5]; exact f4.tr sgn_fr
                have c5 : N5.1 108 = N4.1 108 := by rw [e_N5]; exact sgn_c (by decide)
                have s5 : N5.1 96 21 = M.1 96 21 ∧ N5.1 96 22 = M.1 96 22 ∧ N5.1 96 23 = nI k := ⟨by rw [e_N5, sgn_o (by decide) (by decide)]; exact s4.1, by rw [e_N5, sgn_o (by decide) (by decide)]; exact s4.2.1, by rw [e_N5, sgn_o (by decide) (by decide)]; exact s4.2.2⟩
                have d5 : N5.1 96 20 = ch (p + 5) - 48 := by rw [e_N5]; exact sgn_20
                refine wa_if_neB 151 dX10_readsStone_146 (by decide) (fun (c_146 : (inC (ch (p + 5)) 48 51) = true) => ?_) (fun (c_146 : (inC (ch (p + 5)) 48 51) = false) => ?_)
                · obtain ⟨sd, hsd, esd, -⟩ := inC_of (a := 48) (b := 51) (by decide) (by decide) c_146
                  have esd : ch (p + 5) - 48 = nI sd := esd
                  refine wa_aload_n dX10_readsStone_151 rfl 3 rfl ?_
                  refine wa_geti gX10_readsStone_152 (rfl) rfl ?_
                  refine wa_eqi (y := (nI (sd))) (d5.trans esd) ?_
                  refine wa_istore [(4, .int (nI (sd))), (3, .int (nI (7 * k))), (2, .int (kindC (ch p))), (0, wm_r G (96)), (1, .int (nI (r)))] dX10_readsStone_155 (by decide) rfl ?_
                  refine wa_aload_n dX10_readsStone_157 rfl 3 rfl ?_
                  refine wa_getr gX10_readsStone_158 (rfl) rfl ?_
                  refine wa_iload_n dX10_readsStone_161 rfl 1 rfl ?_
                  refine wa_iconst (5) dX10_readsStone_162 (by decide) ?_
                  refine wa_iaddN (a := 7 * k) (b := 5) dX10_readsStone_163 ?_
                  refine wa_iload dX10_readsStone_164 0 rfl ?_
                  refine wa_iastN (e := 7 * k + 5) dX10_readsStone_166 (rfl) (by omega) (by decide) ?_
                  refine wa_top (fun N6 e_N6 => ?_)
                  have f6 : FrR M N6 := by rw [e_N6]; exact f5.tr FrR.S
                  have p6 : N6.1 96 19 = nI (p + 6) := by rw [e_N6, wI_c (by decide), e_N5]; exact sgn_19t c_146
                  have s6 : N6.1 96 21 = M.1 96 21 ∧ N6.1 96 22 = M.1 96 22 ∧ N6.1 96 23 = nI k := by rw [e_N6, wI_c (by decide)]; exact s5
                  have b6 : ∀ j, j < 7 * k → N6.1 108 j = M.1 108 j := fun j hj => by rw [e_N6, wI_ne (fun e => by omega), c5]; exact b4 j hj
                  have a6 : N6.1 108 (7 * k) = kindC (ch p) := by rw [e_N6, wI_ne (fun e => by omega), c5]; exact a4
                  have w6 : ∀ j, j < 4 → N6.1 108 (7 * k + 1 + j) = ch (p + 1 + j) - 97 := fun j hj => by rw [e_N6, wI_ne (fun e => by omega), c5]; exact w4 j hj
                  have t6 : N6.1 108 (7 * k + 5) = ch (p + 5) - 48 := by rw [e_N6, wI_at, esd]
                  refine wa_iload_n dX10_readsStone_167 rfl 2 rfl ?_
                  refine wa_iconst (4) dX10_readsStone_168 (by decide) ?_
                  refine wa_icmp_ne 187 dX10_readsStone_169 (by decide) (fun c_169 => ?_) (fun c_169 => ?_)
                  · refine wa_aload_n dX10_readsStone_187 rfl 3 rfl ?_
                    refine wa_iload_n dX10_readsStone_188 rfl 4 rfl ?_
                    refine wa_bipush (97) dX10_readsStone_189 (by decide) ?_
                    refine wa_bipush (104) dX10_readsStone_191 (by decide) ?_
                    refine wa_cVi (x_sign (M := N6) r sz ch (f6.rx hR) (p + 6) (by omega) (p6) 97 104) vX10_sign iX10_readsStone_193 (rfl) rfl rfl rfl (Nat.le_of_ble_eq_true rfl) ⟨by decide, by decide⟩ ?_
                    refine wa_top (fun N7 e_N7 => ?_)
                    have f7 : FrR M N7 := by rw [e_N7]; exact f6.tr sgn_fr
                    have c7 : N7.1 108 = N6.1 108 := by rw [e_N7]; exact sgn_c (by decide)
                    have s7 : N7.1 96 21 = M.1 96 21 ∧ N7.1 96 22 = M.1 96 22 ∧ N7.1 96 23 = nI k := ⟨by rw [e_N7, sgn_o (by decide) (by decide)]; exact s6.1, by rw [e_N7, sgn_o (by decide) (by decide)]; exact s6.2.1, by rw [e_N7, sgn_o (by decide) (by decide)]; exact s6.2.2⟩
                    have d7 : N7.1 96 20 = ch (p + 6) - 97 := by rw [e_N7]; exact sgn_20
                    refine wa_if_neB 201 dX10_readsStone_196 (by decide) (fun (c_196 : (inC (ch (p + 6)) 97 104) = true) => ?_) (fun (c_196 : (inC (ch (p + 6)) 97 104) = false) => ?_)
                    · refine wa_aload_n dX10_readsStone_201 rfl 3 rfl ?_
                      refine wa_getr gX10_readsStone_202 (rfl) rfl ?_
                      refine wa_iload_n dX10_readsStone_205 rfl 1 rfl ?_
                      refine wa_bipush (6) dX10_readsStone_206 (by decide) ?_
                      refine wa_iaddN (a := 7 * k) (b := 6) dX10_readsStone_208 ?_
                      refine wa_aload_n dX10_readsStone_209 rfl 3 rfl ?_
                      refine wa_geti gX10_readsStone_210 (rfl) rfl ?_
                      refine wa_eqi (y := (ch (p + 6) - 97)) (d7) ?_
                      refine wa_iastN (e := 7 * k + 6) dX10_readsStone_213 (rfl) (by omega) (by decide) ?_
                      refine wa_top (fun N8 e_N8 => ?_)
                      have hen : stEnd ch p = (p + 7, true) := by rw [hse]; unfold sdEnd; rw [if_neg (by rw [hof]; decide), if_neg (by rw [c_146]; decide), if_neg c_169, if_neg (by rw [c_196]; decide)]
                      have hRS : RS N8 ch k p := ⟨by rw [e_N8, wI_ne (fun e => by omega), c7]; exact a6, fun j hj => by rw [e_N8, wI_ne (fun e => by omega), c7, w6 j hj, if_neg (fun c => c_169 c.1)], by rw [e_N8, wI_ne (fun e => by omega), c7, t6, if_pos hof], fun _ => by rw [e_N8, wI_at]⟩
                      have hfin : FrR M N8 ∧ N8.1 96 19 = nI (p + 7) ∧ (N8.1 96 21 = M.1 96 21 ∧ N8.1 96 22 = M.1 96 22 ∧ N8.1 96 23 = nI k) ∧ (∀ j, j < 7 * k → N8.1 108 j = M.1 108 j) := ⟨by rw [e_N8]; exact f7.tr FrR.S, by rw [e_N8, wI_c (by decide), e_N7]; exact sgn_19t c_196, by rw [e_N8, wI_c (by decide)]; exact s7, fun j hj => by rw [e_N8, wI_ne (fun e => by omega), c7]; exact b6 j hj⟩
                      refine wa_aload_n dX10_readsStone_214 rfl 3 rfl ?_
                      refine wa_dup dX10_readsStone_215 rfl ?_
                      refine wa_geti gX10_readsStone_216 (rfl) rfl ?_
                      refine wa_eqi (y := (nI (k))) (hfin.2.2.1.2.2) ?_
                      refine wa_iconst (1) dX10_readsStone_219 (by decide) ?_
                      refine wa_iaddN (a := k) (b := 1) dX10_readsStone_220 ?_
                      refine wa_puti gX10_readsStone_221 (rfl) rfl ?_
                      refine wa_iconst (1) dX10_readsStone_224 (by decide) ?_
                      refine wa_zret dX10_readsStone_225 rfl (by decide) ?_
                      exact ⟨_, true, rfl, hfin.1.tr (FrR.P (by decide)), by rw [wI_ne (by decide)]; exact hfin.2.1, by rw [wI_ne (by decide)]; exact hfin.2.2.1.1, by rw [wI_ne (by decide)]; exact hfin.2.2.1.2.1, fun j hj => by rw [wI_c (by decide)]; exact hfin.2.2.2 j hj, fun _ => ⟨hk6, hen, by rw [wI_at], hRS.keep (fun j _ => by rw [wI_c (by decide)])⟩, fun e => (by cases e)⟩
                    · refine wa_iconst (0) dX10_readsStone_199 (by decide) ?_
                      refine wa_zret dX10_readsStone_200 rfl (by decide) ?_
                      exact ⟨p + 6, false, rfl, f7, by rw [e_N7]; exact sgn_19f c_196, s7.1, s7.2.1, fun j hj => by rw [c7]; exact b6 j hj, fun e => (by cases e), fun _ => Or.inr ⟨hk6, by rw [hse]; unfold sdEnd; rw [if_neg (by rw [hof]; decide), if_neg (by rw [c_146]; decide), if_neg c_169, if_pos c_196]⟩⟩
                  · refine wa_aload_n dX10_readsStone_172 rfl 3 rfl ?_
                    refine wa_getr gX10_readsStone_173 (rfl) rfl ?_
                    refine wa_iload_n dX10_readsStone_176 rfl 1 rfl ?_
                    refine wa_iconst (1) dX10_readsStone_177 (by decide) ?_
                    refine wa_iaddN (a := 7 * k) (b := 1) dX10_readsStone_178 ?_
                    refine wa_iload dX10_readsStone_179 0 rfl ?_
                    refine wa_iaddN (a := 7 * k + 1) (b := sd) dX10_readsStone_181 ?_
                    refine wa_iconst (-1) dX10_readsStone_182 (by decide) ?_
                    refine wa_iastN (e := 7 * k + 1 + sd) dX10_readsStone_183 (rfl) (by omega) (by decide) ?_
                    refine wa_top (fun N7 e_N7 => ?_)
                    have hen : stEnd ch p = (p + 6, true) := by rw [hse]; unfold sdEnd; rw [if_neg (by rw [hof]; decide), if_neg (by rw [c_146]; decide), if_pos c_169]
                    have hRS : RS N7 ch k p := ⟨by rw [e_N7, wI_ne (fun e => by omega)]; exact a6, fun j hj => by
                      rw [e_N7]
                      by_cases q : j = sd
                      · subst q; rw [wI_at, if_pos ⟨c_169, esd⟩]
                      · rw [wI_ne (fun e => by omega), w6 j hj, if_neg (fun c => q (by have := (nI_eq (by omega) (by omega)).mp (esd.symm.trans c.2); omega))], by rw [e_N7, wI_ne (fun e => by omega), t6, if_pos hof], fun c => absurd (c.symm.trans c_169) (by decide)⟩
                    have hfin : FrR M N7 ∧ N7.1 96 19 = nI (p + 6) ∧ (N7.1 96 21 = M.1 96 21 ∧ N7.1 96 22 = M.1 96 22 ∧ N7.1 96 23 = nI k) ∧ (∀ j, j < 7 * k → N7.1 108 j = M.1 108 j) := ⟨by rw [e_N7]; exact f6.tr FrR.S, by rw [e_N7, wI_c (by decide)]; exact p6, by rw [e_N7, wI_c (by decide)]; exact s6, fun j hj => by rw [e_N7, wI_ne (fun e => by omega)]; exact b6 j hj⟩
                    refine wa_goto 214 dX10_readsStone_184 (by decide) ?_
                    refine wa_aload_n dX10_readsStone_214 rfl 3 rfl ?_
                    refine wa_dup dX10_readsStone_215 rfl ?_
                    refine wa_geti gX10_readsStone_216 (rfl) rfl ?_
                    refine wa_eqi (y := (nI (k))) (hfin.2.2.1.2.2) ?_
                    refine wa_iconst (1) dX10_readsStone_219 (by decide) ?_
                    refine wa_iaddN (a := k) (b := 1) dX10_readsStone_220 ?_
                    refine wa_puti gX10_readsStone_221 (rfl) rfl ?_
                    refine wa_iconst (1) dX10_readsStone_224 (by decide) ?_
                    refine wa_zret dX10_readsStone_225 rfl (by decide) ?_
                    exact ⟨_, true, rfl, hfin.1.tr (FrR.P (by decide)), by rw [wI_ne (by decide)]; exact hfin.2.1, by rw [wI_ne (by decide)]; exact hfin.2.2.1.1, by rw [wI_ne (by decide)]; exact hfin.2.2.1.2.1, fun j hj => by rw [wI_c (by decide)]; exact hfin.2.2.2 j hj, fun _ => ⟨hk6, hen, by rw [wI_at], hRS.keep (fun j _ => by rw [wI_c (by decide)])⟩, fun e => (by cases e)⟩
                · refine wa_iconst (0) dX10_readsStone_149 (by decide) ?_
                  refine wa_zret dX10_readsStone_150 rfl (by decide) ?_
                  exact ⟨p + 5, false, rfl, f5, by rw [e_N5]; exact sgn_19f c_146, s5.1, s5.2.1, fun j hj => by rw [c5]; exact b4 j hj, fun e => (by cases e), fun _ => Or.inr ⟨hk6, by rw [hse]; unfold sdEnd; rw [if_neg (by rw [hof]; decide), if_pos c_146]⟩⟩
          · refine wa_aload_n dX10_readsStone_71 rfl 3 rfl ?_
            refine wa_iload_n dX10_readsStone_72 rfl 4 rfl ?_
            refine wa_bipush (97) dX10_readsStone_73 (by decide) ?_
            refine wa_bipush (104) dX10_readsStone_75 (by decide) ?_
            refine wa_cVi (x_sign (M := N) r sz ch (hF.rx hR) (p + 1 + i) (by omega) h19i 97 104) vX10_sign iX10_readsStone_77 (rfl) rfl rfl rfl (Nat.le_of_ble_eq_true rfl) ⟨by decide, by decide⟩ ?_
            refine wa_top (fun N2 e_N2 => ?_)
            have f2 : FrR M N2 := by rw [e_N2]; exact hF.tr sgn_fr
            have c108 : N2.1 108 = N.1 108 := by rw [e_N2]; exact sgn_c (by decide)
            have s2 : N2.1 96 21 = M.1 96 21 ∧ N2.1 96 22 = M.1 96 22 ∧ N2.1 96 23 = nI k := ⟨by rw [e_N2, sgn_o (by decide) (by decide)]; exact hs.1, by rw [e_N2, sgn_o (by decide) (by decide)]; exact hs.2.1, by rw [e_N2, sgn_o (by decide) (by decide)]; exact hs.2.2⟩
            have d20 : N2.1 96 20 = ch (p + 1 + i) - 97 := by rw [e_N2]; exact sgn_20
            refine wa_if_neB 85 dX10_readsStone_80 (by decide) (fun (c_80 : (inC (ch (p + 1 + i)) 97 104) = true) => ?_) (fun (c_80 : (inC (ch (p + 1 + i)) 97 104) = false) => ?_)
            · refine wa_aload_n dX10_readsStone_85 rfl 3 rfl ?_
              refine wa_getr gX10_readsStone_86 (rfl) rfl ?_
              refine wa_iload_n dX10_readsStone_89 rfl 1 rfl ?_
              refine wa_iconst (1) dX10_readsStone_90 (by decide) ?_
              refine wa_iaddN (a := 7 * k) (b := 1) dX10_readsStone_91 ?_
              refine wa_iload dX10_readsStone_92 0 rfl ?_
              refine wa_iaddN (a := 7 * k + 1) (b := i) dX10_readsStone_94 ?_
              refine wa_aload_n dX10_readsStone_95 rfl 3 rfl ?_
              refine wa_geti gX10_readsStone_96 (rfl) rfl ?_
              refine wa_eqi (y := (ch (p + 1 + i) - 97)) (d20) ?_
              refine wa_iastN (e := 7 * k + 1 + i) dX10_readsStone_99 (rfl) (by omega) (by decide) ?_
              refine wa_top (fun N3 e_N3 => ?_)
              have f3 : FrR M N3 := by rw [e_N3]; exact f2.tr FrR.S
              have q19 : N3.1 96 19 = nI (p + 1 + (i + 1)) := by rw [e_N3, wI_c (by decide), e_N2]; exact sgn_19t c_80
              have s3 : N3.1 96 21 = M.1 96 21 ∧ N3.1 96 22 = M.1 96 22 ∧ N3.1 96 23 = nI k := by rw [e_N3, wI_c (by decide)]; exact s2
              have b3 : ∀ j, j < 7 * k → N3.1 108 j = M.1 108 j := fun j hj => by rw [e_N3, wI_ne (fun e => by omega), c108]; exact hb j hj
              have a3 : N3.1 108 (7 * k) = kindC (ch p) := by rw [e_N3, wI_ne (fun e => by omega), c108]; exact ha
              have w3 : ∀ j, j < i + 1 → N3.1 108 (7 * k + 1 + j) = ch (p + 1 + j) - 97 := fun j hj => by
                rw [e_N3]
                by_cases q : j = i
                · subst q; rw [wI_at]
                · rw [wI_ne (fun e => by omega), c108]; exact hwd j (by omega)
              refine wa_iinc ((nI (i + 1))) [(4, .int (nI (i + 1))), (3, .int (nI (7 * k))), (2, .int (kindC (ch p))), (0, wm_r G (96)), (1, .int (nI (r)))] dX10_readsStone_100 0 rfl (nI_inc _) (by decide) rfl ?_
              refine wa_goto 65 dX10_readsStone_103 (by decide) ?_
              exact ih_65 (i + 1) _ (by omega) (by omega) f3 q19 s3 b3 a3 w3 (fun j hj => by rcases Nat.lt_or_eq_of_le (Nat.le_of_lt_succ hj) with q | q; (exact hall j q); (subst q; exact c_80))
            · refine wa_iconst (0) dX10_readsStone_83 (by decide) ?_
              refine wa_zret dX10_readsStone_84 rfl (by decide) ?_
              exact ⟨p + 1 + i, false, rfl, f2, by rw [e_N2]; exact sgn_19f c_80, s2.1, s2.2.1, fun j hj => by rw [c108]; exact hb j hj, fun e => (by cases e), fun _ => Or.inr ⟨hk6, by
                have e := wdN_stop (n := 4) (show i < 4 by omega) hall c_80
                rw [stEnd_w c_16 (by rw [e]; omega), e]⟩⟩
      exact L_65 _ 0 N1 (Nat.lt_succ_self _) (Nat.zero_le _) f1 p1 s1 b1 a1 (fun j hj => absurd hj (Nat.not_lt_zero _)) (fun j hj => absurd hj (Nat.not_lt_zero _))
    · refine wa_iconst (0) dX10_readsStone_35 (by decide) ?_
      refine wa_zret dX10_readsStone_36 rfl (by decide) ?_
      first | exact ⟨p, false, rfl, FrR.rf M, h19, rfl, rfl, fun _ _ => rfl, fun e => (by cases e), fun _ => Or.inl ⟨c_32, rfl⟩⟩ | exact ⟨p, false, rfl, FrR.rf M, h19, rfl, rfl, fun _ _ => rfl, fun e => (by cases e), fun _ => by rcases Nat.lt_or_eq_of_le hk with q | q; (exact Or.inr ⟨q, stEnd_k c_16⟩); (exact Or.inl ⟨q, rfl⟩)⟩

set_option maxHeartbeats 4000000 in
theorem x_faultOf {G : wm_G} {M : wm_M} (r sz : Nat) (ch : Nat → Int32) (hR : RX M r sz ch) : MA G t_X10_faultOf [wm_r G (96), .int (nI (r))] (M) (XtP M ch sz) := by
  obtain ⟨hr, h101, hsz, hch, hz0⟩ := id hR
  refine wm_met (by decide) (Nat.le_of_ble_eq_true rfl) ?_
  show WA G t_X10_faultOf (XtP M ch sz) 0 [(0, wm_r G (96)), (1, .int (nI (r)))] [] (M)
  refine wa_aload_n dX10_faultOf_0 rfl 0 rfl ?_
  refine wa_iconst (0) dX10_faultOf_1 (by decide) ?_
  refine wa_puti gX10_faultOf_2 (rfl) rfl ?_
  refine wa_aload_n dX10_faultOf_5 rfl 0 rfl ?_
  refine wa_iconst (0) dX10_faultOf_6 (by decide) ?_
  refine wa_puti gX10_faultOf_7 (rfl) rfl ?_
  refine wa_aload_n dX10_faultOf_10 rfl 0 rfl ?_
  refine wa_iconst (0) dX10_faultOf_11 (by decide) ?_
  refine wa_puti gX10_faultOf_12 (rfl) rfl ?_
  refine wa_aload_n dX10_faultOf_15 rfl 0 rfl ?_
  refine wa_iconst (0) dX10_faultOf_16 (by decide) ?_
  refine wa_puti gX10_faultOf_17 (rfl) rfl ?_
  refine wa_top (fun N0 e_N0 => ?_)
  have f0 : FrR M N0 := by rw [e_N0]; exact (((FrR.P (by decide)).tr (FrR.P (by decide))).tr (FrR.P (by decide))).tr (FrR.P (by decide))
  have g0 : N0.1 96 19 = nI 0 := by rw [e_N0, wI_ne (by decide), wI_ne (by decide), wI_ne (by decide), wI_at]; rfl
  have hst0 : FSt N0 ch sz 0 := Or.inl ⟨by rw [e_N0, wI_ne (by decide), wI_ne (by decide), wI_at], by rw [e_N0, wI_ne (by decide), wI_at], by rw [e_N0, wI_at], rfl⟩
  have L_20 : ∀ (n_ : Nat) (p : Nat) (N : wm_M), (sz - p) < n_ → (p ≤ sz) → (FrR M N) → (N.1 96 19 = nI p) → (FSt N ch sz p) → WA G t_X10_faultOf (XtP M ch sz) 20 [(0, wm_r G (96)), (1, .int (nI (r)))] [] (N) := by
    intro n_
    induction n_ with
    | zero => intro p N h_; exact absurd h_ (Nat.not_lt_zero _)
    | succ n_ ih_20 =>
      intro p N h_ hp hF h19 hst
      refine wa_aload_n dX10_faultOf_20 rfl 0 rfl ?_
      refine wa_geti gX10_faultOf_21 (rfl) rfl ?_
      refine wa_eqi (y := (nI (p))) (h19) ?_
      refine wa_aload_n dX10_faultOf_24 rfl 0 rfl ?_
      refine wa_getr gX10_faultOf_25 (rfl) rfl ?_
      refine wa_iload_n dX10_faultOf_28 rfl 1 rfl ?_
      refine wa_ialdN (e := r) dX10_faultOf_29 (rfl) (by omega) (by decide) ?_
      refine wa_eqi (y := (nI (sz))) (by rw [hF.1 101 (by decide) (by decide)]; exact h101) ?_
      refine wa_icmp_geN (a := p) (b := sz) 91 dX10_faultOf_30 (by decide) (by omega) (by omega) (fun c_30 => ?_) (fun c_30 => ?_)
      · refine wa_aload_n dX10_faultOf_91 rfl 0 rfl ?_
        refine wa_geti gX10_faultOf_92 (rfl) rfl ?_
        refine wa_eqi (y := (N.1 96 21)) (rfl) ?_
        refine wa_if_eq 114 dX10_faultOf_95 (by decide) (fun c_95 => ?_) (fun c_95 => ?_)
        · have hs0 : skp ch sz 0 = skp ch sz p := hst.elim (fun q => q.2.2.2) (fun q => absurd (q.2.1.symm.trans c_95) (gW_ne q.1))
          have hend : nI sz = tFault ch sz := fault_0 (by rw [hs0, show p = sz by omega]) (hz0 sz (Nat.le_refl _))
          refine wa_aload_n dX10_faultOf_114 rfl 0 rfl ?_
          refine wa_getr gX10_faultOf_115 (rfl) rfl ?_
          refine wa_iload_n dX10_faultOf_118 rfl 1 rfl ?_
          refine wa_ialdN (e := r) dX10_faultOf_119 (rfl) (by omega) (by decide) ?_
          refine wa_eqi (y := (nI (sz))) (by rw [hF.1 101 (by decide) (by decide)]; exact h101) ?_
          refine wa_goto 125 dX10_faultOf_120 (by decide) ?_
          refine wa_iret dX10_faultOf_125 rfl ?_
          first | exact ⟨by rw [← hend9], hF, fun _ => ⟨hg, w21, w22, by rw [w23, hkk], fun i hi => hrs i (by omega)⟩⟩ | exact ⟨by rw [← hend], hF, fun e => absurd (hend.trans e) (nI_ne9 (by omega))⟩
        · obtain ⟨hg, w21, w22, k, hk, w23, hft, hsa, hrs⟩ := hst.resolve_left (fun q => c_95 q.1)
          have hgb := g_bd hg
          have hgg : gW ch sz * gH ch sz ≤ 6 := Nat.le_trans (Nat.mul_le_mul hgb.2.1 hgb.2.2.2) (by decide)
          have hpz : p = sz := by omega
          refine wa_aload_n dX10_faultOf_98 rfl 0 rfl ?_
          refine wa_geti gX10_faultOf_99 (rfl) rfl ?_
          refine wa_eqi (y := (nI (k))) (w23) ?_
          refine wa_aload_n dX10_faultOf_102 rfl 0 rfl ?_
          refine wa_geti gX10_faultOf_103 (rfl) rfl ?_
          refine wa_eqi (y := (nI (gW ch sz))) (w21) ?_
          refine wa_aload_n dX10_faultOf_106 rfl 0 rfl ?_
          refine wa_geti gX10_faultOf_107 (rfl) rfl ?_
          refine wa_eqi (y := (nI (gH ch sz))) (w22) ?_
          refine wa_imulN (a := gW ch sz) (b := gH ch sz) dX10_faultOf_110 ?_
          refine wa_icmp_geN (a := k) (b := (gW ch sz) * (gH ch sz)) 123 dX10_faultOf_111 (by decide) (by omega) (by omega) (fun c_111 => ?_) (fun c_111 => ?_)
          · have hkk : k = gW ch sz * gH ch sz := by omega
            have hend9 : (-9 : Int32) = tFault ch sz := by rw [hft, hkk, Nat.sub_self, hpz, prest_00]
            refine wa_bipush (-9) dX10_faultOf_123 (by decide) ?_
            refine wa_iret dX10_faultOf_125 rfl ?_
            first | exact ⟨by rw [← hend9], hF, fun _ => ⟨hg, w21, w22, by rw [w23, hkk], fun i hi => hrs i (by omega)⟩⟩ | exact ⟨by rw [← hend], hF, fun e => absurd (hend.trans e) (nI_ne9 (by omega))⟩
          · have hend : nI sz = tFault ch sz := by rw [hft, hpz, prest_end (hz0 sz (Nat.le_refl _)) (by omega)]
            refine wa_aload_n dX10_faultOf_114 rfl 0 rfl ?_
            refine wa_getr gX10_faultOf_115 (rfl) rfl ?_
            refine wa_iload_n dX10_faultOf_118 rfl 1 rfl ?_
            refine wa_ialdN (e := r) dX10_faultOf_119 (rfl) (by omega) (by decide) ?_
            refine wa_eqi (y := (nI (sz))) (by rw [hF.1 101 (by decide) (by decide)]; exact h101) ?_
            refine wa_goto 125 dX10_faultOf_120 (by decide) ?_
            refine wa_iret dX10_faultOf_125 rfl ?_
            first | exact ⟨by rw [← hend9], hF, fun _ => ⟨hg, w21, w22, by rw [w23, hkk], fun i hi => hrs i (by omega)⟩⟩ | exact ⟨by rw [← hend], hF, fun e => absurd (hend.trans e) (nI_ne9 (by omega))⟩
      · refine wa_aload_n dX10_faultOf_33 rfl 0 rfl ?_
        refine wa_iload_n dX10_faultOf_34 rfl 1 rfl ?_
        refine wa_aload_n dX10_faultOf_35 rfl 0 rfl ?_
        refine wa_geti gX10_faultOf_36 (rfl) rfl ?_
        refine wa_eqi (y := (nI (p))) (h19) ?_
        refine wa_cVi (x_byteAt (M := N) r hr sz (by rw [hF.1 101 (by decide) (by decide)]; exact h101) hsz p (by omega)) vX10_byteAt iX10_faultOf_39 (rfl) rfl rfl rfl (Nat.le_of_ble_eq_true rfl) ⟨by decide, by decide⟩ ?_
        refine wa_eqi (y := (ch p)) (by rw [hF.1 102 (by decide) (by decide)]; exact hch p) ?_
        refine wa_bipush (32) dX10_faultOf_42 (by decide) ?_
        refine wa_icmp_ne 60 dX10_faultOf_44 (by decide) (fun c_44 => ?_) (fun c_44 => ?_)
        · refine wa_aload_n dX10_faultOf_60 rfl 0 rfl ?_
          refine wa_geti gX10_faultOf_61 (rfl) rfl ?_
          refine wa_eqi (y := (N.1 96 21)) (rfl) ?_
          refine wa_if_ne 78 dX10_faultOf_64 (by decide) (fun c_64 => ?_) (fun c_64 => ?_)
          · obtain ⟨hg, w21, w22, k, hk, w23, hft, hsa, hrs⟩ := hst.resolve_left (fun q => c_64 q.1)
            have hgb := g_bd hg
            have hgg : gW ch sz * gH ch sz ≤ 6 := Nat.le_trans (Nat.mul_le_mul hgb.2.1 hgb.2.2.2) (by decide)
            refine wa_aload_n dX10_faultOf_78 rfl 0 rfl ?_
            refine wa_iload_n dX10_faultOf_79 rfl 1 rfl ?_
            refine wa_callV (x_readsStone (M := N) r sz ch (hF.rx hR) p k (gW ch sz) (gH ch sz) (by omega) h19 hk hgb.2.1 hgb.2.2.2 w21 w22 w23) vX10_readsStone iX10_faultOf_80 (rfl) rfl rfl rfl (Nat.le_of_ble_eq_true rfl) ⟨by decide, by decide⟩ (fun v_ N1 h_ => ?_)
            obtain ⟨q, ok, rfl, hFg, g19, g21, g22, g108, hgt, hgf⟩ := h_
            show WA G t_X10_faultOf (XtP M ch sz) 83 [(0, wm_r G (96)), (1, .int (nI (r)))] [.int (wB (ok))] (N1)
            refine wa_if_neB 20 dX10_faultOf_83 (by decide) (fun (c_83 : (ok) = true) => ?_) (fun (c_83 : (ok) = false) => ?_)
            · obtain ⟨e1, e2, e3, e4⟩ := hgt c_83
              have hqb := stEnd_b (hF.rx hR) (show p < sz by omega) e2
              have hF1 := hF.tr hFg
              have hpp : stAt ch sz k (skp ch sz 0 + 3) = p := by have := hsa 0; rw [Nat.add_zero] at this; rw [this]; exact skp_n c_44
              have hnx : FSt N1 ch sz q := Or.inr ⟨hg, g21.trans w21, g22.trans w22, k + 1, by omega, e3, by rw [hft, prest_t (by omega) (by rw [skp_n c_44, e2]), skp_n c_44, e2]; congr 1, fun i => by rw [show k + 1 + i = k + (i + 1) by omega, hsa (i + 1), stAt_s, skp_n c_44, e2], fun i hi => by
                by_cases qi : i = k
                · subst qi; rw [hpp]; exact e4
                · exact (hrs i (by omega)).keep (fun j hj => g108 j (by omega))⟩
              exact ih_20 q _ (by omega) hqb.2 hF1 g19 hnx
            · have hq19 := g19
              have qlt : q < 200 := by
                rcases hgf c_83 with ⟨-, h⟩ | ⟨-, h⟩
                · omega
                · have h7 := stEnd_7 ch p; rw [h] at h7; have h7 : q ≤ p + 7 := h7; omega
              have hqf : nI q = tFault ch sz := by
                rw [hft]
                rcases hgf c_83 with ⟨e1, e2⟩ | ⟨e1, e2⟩
                · rw [e1, Nat.sub_self, prest_0 (by omega) c_44, e2]
                · rw [prest_f (by omega) (by rw [skp_n c_44, e2]), skp_n c_44, e2]
              refine wa_aload_n dX10_faultOf_86 rfl 0 rfl ?_
              refine wa_geti gX10_faultOf_87 (rfl) rfl ?_
              refine wa_eqi (y := (nI (q))) (hq19) ?_
              refine wa_iret dX10_faultOf_90 rfl ?_
              exact ⟨by rw [hqf], hF.tr hFg, fun e => absurd (hqf.trans e) (nI_ne9 (by have : q < 200 := qlt; omega))⟩
          · have hs0 : skp ch sz 0 = skp ch sz p ∧ N.1 96 23 = 0 := hst.elim (fun q => ⟨q.2.2.2, q.2.2.1⟩) (fun q => absurd (q.2.1.symm.trans c_64) (gW_ne q.1))
            refine wa_aload_n dX10_faultOf_67 rfl 0 rfl ?_
            refine wa_iload_n dX10_faultOf_68 rfl 1 rfl ?_
            refine wa_callV (x_readsGrid (M := N) r sz ch (hF.rx hR) p (by omega) h19) vX10_readsGrid iX10_faultOf_69 (rfl) rfl rfl rfl (Nat.le_of_ble_eq_true rfl) ⟨by decide, by decide⟩ (fun v_ N1 h_ => ?_)
            obtain ⟨q, ok, rfl, hFg, g19, g108, g23, hgt, hgf⟩ := h_
            show WA G t_X10_faultOf (XtP M ch sz) 72 [(0, wm_r G (96)), (1, .int (nI (r)))] [.int (wB (ok))] (N1)
            refine wa_if_eqB 86 dX10_faultOf_72 (by decide) (fun (c_72 : (ok) = false) => ?_) (fun (c_72 : (ok) = true) => ?_)
            · have hq19 := g19
              have hqf := fault_g hs0.1 c_44 (hgf c_72)
              have qlt : q < 200 := by rcases hgf c_72 with ⟨-, h⟩ | ⟨-, -, h⟩ | ⟨-, -, -, h⟩ <;> omega
              refine wa_aload_n dX10_faultOf_86 rfl 0 rfl ?_
              refine wa_geti gX10_faultOf_87 (rfl) rfl ?_
              refine wa_eqi (y := (nI (q))) (hq19) ?_
              refine wa_iret dX10_faultOf_90 rfl ?_
              exact ⟨by rw [hqf], hF.tr hFg, fun e => absurd (hqf.trans e) (nI_ne9 (by have : q < 200 := qlt; omega))⟩
            · obtain ⟨hq, a1, a2, a3, a4, a5⟩ := hgt c_72
              have hnx := fst_g (hF.rx hR) hs0.1 c_44 (g23.trans hs0.2) a1 a2 a3 a4 a5
              have hF1 := hF.tr hFg
              rw [hq] at g19
              refine wa_goto 20 dX10_faultOf_75 (by decide) ?_
              exact ih_20 (p + 3) _ (by omega) hnx.2 hF1 g19 hnx.1
        · refine wa_aload_n dX10_faultOf_47 rfl 0 rfl ?_
          refine wa_dup dX10_faultOf_48 rfl ?_
          refine wa_geti gX10_faultOf_49 (rfl) rfl ?_
          refine wa_eqi (y := (nI (p))) (h19) ?_
          refine wa_iconst (1) dX10_faultOf_52 (by decide) ?_
          refine wa_iaddN (a := p) (b := 1) dX10_faultOf_53 ?_
          refine wa_puti gX10_faultOf_54 (rfl) rfl ?_
          refine wa_goto 20 dX10_faultOf_57 (by decide) ?_
          exact ih_20 (p + 1) _ (by omega) (by omega) (hF.tr (FrR.P (by decide))) (by rw [wI_at]) (fst_b hst (by omega) c_44 (wI_ne (by decide)) (wI_ne (by decide)) (wI_ne (by decide)) (wI_c (by decide)))
  exact L_20 _ 0 N0 (Nat.lt_succ_self _) (Nat.zero_le _) f0 g0 hst0
