theorem c_mend_bad {G : wm_G} {M : wm_M} (l : Int32) (hr : wIn l 4 = false) : MD G t_X9_mend [wm_r G (0), .int (l)] (M) (some (.int (-1))) (M) := by
  refine wm_met (by decide) (Nat.le_of_ble_eq_true rfl) ?_
  show WA G t_X9_mend (fun v_ N_ => v_ = some (.int (-1)) ∧ N_ = M) 0 [(0, wm_r G (0)), (1, .int (l))] [] (M)
  refine wa_aload_n dX9_mend_0 rfl 0 rfl ?_
  refine wa_aload_n dX9_mend_1 rfl 0 rfl ?_
  refine wa_getr gX9_mend_2 (rfl) rfl ?_
  refine wa_getr gX9_mend_5 (rfl) rfl ?_
  refine wa_iload_n dX9_mend_8 rfl 1 rfl ?_
  refine wa_cVi (m_ref_bad 29 4 3 TB_laws l hr) vX9_refusal iX9_mend_9 (rfl) rfl rfl rfl (Nat.le_of_ble_eq_true rfl) ⟨by decide, by decide⟩ ?_
  refine wa_istore_n [(2, .int (-1)), (0, wm_r G (0)), (1, .int (l))] dX9_mend_12 rfl (by decide) rfl ?_
  refine wa_iload_n dX9_mend_13 rfl 0 rfl ?_
  refine wa_if_eq 19 dX9_mend_14 (by decide) (fun c_14 => absurd c_14 (by decide)) (fun c_14 => ?_)
  refine wa_iload_n dX9_mend_17 rfl 0 rfl ?_
  exact wa_iret dX9_mend_18 rfl ⟨congrArg (fun z => some (Value.int z)) (rfl), rfl⟩

theorem c_mend_no {G : wm_G} {M : wm_M} (l : Nat) (hr : l < 4) (hz : M.1 35 l = -1) : MD G t_X9_mend [wm_r G (0), .int (nI (l))] (M) (some (.int (-3))) (tNote M 1) := by
  refine wm_met (by decide) (Nat.le_of_ble_eq_true rfl) ?_
  show WA G t_X9_mend (fun v_ N_ => v_ = some (.int (-3)) ∧ N_ = tNote M 1) 0 [(0, wm_r G (0)), (1, .int (nI (l)))] [] (M)
  refine wa_aload_n dX9_mend_0 rfl 0 rfl ?_
  refine wa_aload_n dX9_mend_1 rfl 0 rfl ?_
  refine wa_getr gX9_mend_2 (rfl) rfl ?_
  refine wa_getr gX9_mend_5 (rfl) rfl ?_
  refine wa_iload_n dX9_mend_8 rfl 1 rfl ?_
  refine wa_cVi (m_ref_no 29 4 3 TB_laws l hr hz) vX9_refusal iX9_mend_9 (rfl) rfl rfl rfl (Nat.le_of_ble_eq_true rfl) ⟨by decide, by decide⟩ ?_
  refine wa_istore_n [(2, .int (-3)), (0, wm_r G (0)), (1, .int (nI (l)))] dX9_mend_12 rfl (by decide) rfl ?_
  refine wa_iload_n dX9_mend_13 rfl 0 rfl ?_
  refine wa_if_eq 19 dX9_mend_14 (by decide) (fun c_14 => absurd c_14 (by decide)) (fun c_14 => ?_)
  refine wa_iload_n dX9_mend_17 rfl 0 rfl ?_
  exact wa_iret dX9_mend_18 rfl ⟨congrArg (fun z => some (Value.int z)) (rfl), rfl⟩

theorem c_mend_st {G : wm_G} {M : wm_M} (w h rn s yr : Nat) (ci : CI M w h rn s yr) (l z : Nat) (hL : LZ M l z) (hs9 : ¬ lyT w h (M.1 18) (M.1 19) (M.1 (31 + l)) z s (w + h) = -9) : MD G t_X9_mend [wm_r G (0), .int (nI (l))] (M) (some (.int (-4))) (M) := by
  obtain ⟨⟨hW, hwh⟩, hSt, ⟨h12, h13, hyr, hs4, hsh⟩, hRo, hTx, hLw, hKp, hRO, ⟨hL1, hL10, hL29, hL58⟩, hSe, hDy⟩ := id ci
  have hn6 := TW_n hW
  have hs : s < 4096 := Nat.lt_of_lt_of_le hs4 (p4_le hn6)
  have hw3 := hW.2.2.1
  have hh2 := hW.2.2.2
  have hz : ¬ M.1 35 l = -1 := by rw [hL.2.1]; exact nI_nem1 (by have := hL.2.2.2; omega)
  have hr : l < 4 := hL.1
  have hc35 : (M.1 35 l).toNatClampNeg = z := by rw [hL.2.1, nI_clamp (by have := hL.2.2.2; omega)]
  refine wm_met (by decide) (Nat.le_of_ble_eq_true rfl) ?_
  show WA G t_X9_mend (fun v_ N_ => v_ = some (.int (-4)) ∧ N_ = M) 0 [(0, wm_r G (0)), (1, .int (nI (l)))] [] (M)
  refine wa_aload_n dX9_mend_0 rfl 0 rfl ?_
  refine wa_aload_n dX9_mend_1 rfl 0 rfl ?_
  refine wa_getr gX9_mend_2 (rfl) rfl ?_
  refine wa_getr gX9_mend_5 (rfl) rfl ?_
  refine wa_iload_n dX9_mend_8 rfl 1 rfl ?_
  refine wa_cVi (m_ref_ok 29 4 3 TB_laws l hr hz) vX9_refusal iX9_mend_9 (rfl) rfl rfl rfl (Nat.le_of_ble_eq_true rfl) ⟨by decide, by decide⟩ ?_
  refine wa_istore_n [(2, .int (0)), (0, wm_r G (0)), (1, .int (nI (l)))] dX9_mend_12 rfl (by decide) rfl ?_
  refine wa_iload_n dX9_mend_13 rfl 0 rfl ?_
  refine wa_if_eq 19 dX9_mend_14 (by decide) (fun c_14 => ?_) (fun c_14 => absurd c_14 (by decide))
  refine wa_aload_n dX9_mend_19 rfl 1 rfl ?_
  refine wa_getr gX9_mend_20 (rfl) rfl ?_
  refine wa_iload_n dX9_mend_23 rfl 2 rfl ?_
  refine wa_aload_n dX9_mend_24 rfl 1 rfl ?_
  refine wa_geti gX9_mend_25 (rfl) rfl ?_
  refine wa_eqi (y := (nI (s))) (h12) ?_
  refine wa_cVi (m_bleastYears w h hW l z hL s hs) vX0_leastYears iX9_mend_28 (rfl) rfl rfl rfl (Nat.le_of_ble_eq_true rfl) ⟨by decide, by decide⟩ ?_
  refine wa_bipush (-9) dX9_mend_31 (by decide) ?_
  refine wa_icmp_eq 39 dX9_mend_33 (by decide) (fun c_33 => absurd c_33 hs9) (fun c_33 => ?_)
  refine wa_bipush (-4) dX9_mend_36 (by decide) ?_
  exact wa_iret dX9_mend_38 rfl ⟨congrArg (fun z => some (Value.int z)) (rfl), rfl⟩

theorem c_mend_ok {G : wm_G} {M : wm_M} (w h rn s yr : Nat) (ci : CI M w h rn s yr) (l z : Nat) (hL : LZ M l z) (hs9 : lyT w h (M.1 18) (M.1 19) (M.1 (31 + l)) z s (w + h) = -9) : MA G t_X9_mend [wm_r G (0), .int (nI (l))] (M) (MdQ M w h l z s) := by
  obtain ⟨⟨hW, hwh⟩, hSt, ⟨h12, h13, hyr, hs4, hsh⟩, hRo, hTx, hLw, hKp, hRO, ⟨hL1, hL10, hL29, hL58⟩, hSe, hDy⟩ := id ci
  have hn6 := TW_n hW
  have hs : s < 4096 := Nat.lt_of_lt_of_le hs4 (p4_le hn6)
  have hw3 := hW.2.2.1
  have hh2 := hW.2.2.2
  have hz : ¬ M.1 35 l = -1 := by rw [hL.2.1]; exact nI_nem1 (by have := hL.2.2.2; omega)
  have hr : l < 4 := hL.1
  have hc35 : (M.1 35 l).toNatClampNeg = z := by rw [hL.2.1, nI_clamp (by have := hL.2.2.2; omega)]
  refine wm_met (by decide) (Nat.le_of_ble_eq_true rfl) ?_
  show WA G t_X9_mend (MdQ M w h l z s) 0 [(0, wm_r G (0)), (1, .int (nI (l)))] [] (M)
  refine wa_aload_n dX9_mend_0 rfl 0 rfl ?_
  refine wa_aload_n dX9_mend_1 rfl 0 rfl ?_
  refine wa_getr gX9_mend_2 (rfl) rfl ?_
  refine wa_getr gX9_mend_5 (rfl) rfl ?_
  refine wa_iload_n dX9_mend_8 rfl 1 rfl ?_
  refine wa_cVi (m_ref_ok 29 4 3 TB_laws l hr hz) vX9_refusal iX9_mend_9 (rfl) rfl rfl rfl (Nat.le_of_ble_eq_true rfl) ⟨by decide, by decide⟩ ?_
  refine wa_istore_n [(2, .int (0)), (0, wm_r G (0)), (1, .int (nI (l)))] dX9_mend_12 rfl (by decide) rfl ?_
  refine wa_iload_n dX9_mend_13 rfl 0 rfl ?_
  refine wa_if_eq 19 dX9_mend_14 (by decide) (fun c_14 => ?_) (fun c_14 => absurd c_14 (by decide))
  refine wa_aload_n dX9_mend_19 rfl 1 rfl ?_
  refine wa_getr gX9_mend_20 (rfl) rfl ?_
  refine wa_iload_n dX9_mend_23 rfl 2 rfl ?_
  refine wa_aload_n dX9_mend_24 rfl 1 rfl ?_
  refine wa_geti gX9_mend_25 (rfl) rfl ?_
  refine wa_eqi (y := (nI (s))) (h12) ?_
  refine wa_cVi (m_bleastYears w h hW l z hL s hs) vX0_leastYears iX9_mend_28 (rfl) rfl rfl rfl (Nat.le_of_ble_eq_true rfl) ⟨by decide, by decide⟩ ?_
  refine wa_eqi (y := (-9)) (hs9) ?_
  refine wa_bipush (-9) dX9_mend_31 (by decide) ?_
  refine wa_icmp_eq 39 dX9_mend_33 (by decide) (fun c_33 => ?_) (fun c_33 => absurd c_33 (by decide))
  refine wa_iconst (0) dX9_mend_39 (by decide) ?_
  refine wa_istore_n [(3, .int (0)), (2, .int (0)), (0, wm_r G (0)), (1, .int (nI (l)))] dX9_mend_40 rfl (by decide) rfl ?_
  have L_41 : ∀ (n_ : Nat) (k : Nat) (N : wm_M), (w * h - k) < n_ → (k ≤ w * h) → (Fr [28] [] M N) → (∀ p, p < 4 * k → mdW M w h l z s p = -9) → WA G t_X9_mend (MdQ M w h l z s) 41 [(3, .int (nI (k))), (0, wm_r G (0)), (1, .int (nI (l)))] [] (N) := by
    intro n_
    induction n_ with
    | zero => intro k N h_; exact absurd h_ (Nat.not_lt_zero _)
    | succ n_ ih_41 =>
      intro k N h_ hk hF hno
      have g17 := hF.1 17 (nin1 (by decide))
      have g18 := hF.1 18 (nin1 (by decide))
      have g19 := hF.1 19 (nin1 (by decide))
      have g20 := hF.1 20 (nin1 (by decide))
      have g0 := hF.1 0 (nin1 (by decide))
      have g31 := hF.1 (31 + l) (nin1 (by omega))
      have hWi := hW.fr g17
      have hLi := hL.fr (hF.1 35 (nin1 (by decide)))
      refine wa_iload_n dX9_mend_41 rfl 0 rfl ?_
      refine wa_aload_n dX9_mend_42 rfl 1 rfl ?_
      refine wa_getr gX9_mend_43 (rfl) rfl ?_
      refine wa_cVi (m_number 17 w h SO_17 hWi.1 hWi.2.1) vX4_number iX9_mend_46 (rfl) rfl rfl rfl (Nat.le_of_ble_eq_true rfl) ⟨by decide, by decide⟩ ?_
      refine wa_icmp_geN (a := k) (b := w * h) 143 dX9_mend_49 (by decide) (by omega) (by omega) (fun c_49 => ?_) (fun c_49 => ?_)
      · refine wa_bipush (-9) dX9_mend_143 (by decide) ?_
        refine wa_iret dX9_mend_145 rfl ?_
        exact Or.inl ⟨wFind_none (fun j hj => by show (!decide (mdW M w h l z s _ = -9)) = false; rw [hno j (by omega)]; rfl), rfl, EqR.fr hF (fun c hc => nin1 (scB_nin hc).2.2.2.2.2.2.1) (fun c _ => by simp)⟩
      · refine wa_iconst (0) dX9_mend_52 (by decide) ?_
        refine wa_istore [(4, .int (0)), (3, .int (nI (k))), (0, wm_r G (0)), (1, .int (nI (l)))] dX9_mend_53 (by decide) rfl ?_
        have L_55 : ∀ (n_ : Nat) (side : Nat) (N : wm_M), (4 - side) < n_ → (side ≤ 4) → (Fr [28] [] M N) → (∀ p, p < 4 * k + side → mdW M w h l z s p = -9) → WA G t_X9_mend (MdQ M w h l z s) 55 [(4, .int (nI (side))), (3, .int (nI (k))), (0, wm_r G (0)), (1, .int (nI (l)))] [] (N) := by
          intro n_
          induction n_ with
          | zero => intro side N h_; exact absurd h_ (Nat.not_lt_zero _)
          | succ n_ ih_55 =>
            intro side N h_ hsd hF hno
            have g17 := hF.1 17 (nin1 (by decide))
            have g18 := hF.1 18 (nin1 (by decide))
            have g19 := hF.1 19 (nin1 (by decide))
            have g20 := hF.1 20 (nin1 (by decide))
            have g0 := hF.1 0 (nin1 (by decide))
            have g31 := hF.1 (31 + l) (nin1 (by omega))
            have hWi := hW.fr g17
            have hLi := hL.fr (hF.1 35 (nin1 (by decide)))
            refine wa_iload dX9_mend_55 0 rfl ?_
            refine wa_iconst (4) dX9_mend_57 (by decide) ?_
            refine wa_icmp_geN (a := side) (b := 4) 137 dX9_mend_58 (by decide) (by omega) (by omega) (fun c_58 => ?_) (fun c_58 => ?_)
            · refine wa_iinc ((nI (k + 1))) [(3, .int (nI (k + 1))), (4, .int (nI (side))), (0, wm_r G (0)), (1, .int (nI (l)))] dX9_mend_137 1 rfl (nI_inc _) (by decide) rfl ?_
              refine wa_goto 41 dX9_mend_140 (by decide) ?_
              refine wa_sub [0, 2, 3] rfl ?_
              exact ih_41 (k + 1) _ (by omega) (by omega) hF (fun p hp => hno p (by omega))
            · refine wa_aload_n dX9_mend_61 rfl 2 rfl ?_
              refine wa_getr gX9_mend_62 (rfl) rfl ?_
              refine wa_iload_n dX9_mend_65 rfl 1 rfl ?_
              refine wa_iload dX9_mend_66 0 rfl ?_
              refine wa_cVi (m_isMendable k side (by omega)) vX4_isMendable iX9_mend_68 (rfl) rfl rfl rfl (Nat.le_of_ble_eq_true rfl) ⟨by decide, by decide⟩ ?_
              refine wa_eqi (y := (wB (mdM M k side))) (congrArg wB (by unfold mdM; rw [g18, g20])) ?_
              refine wa_if_eqB 92 dX9_mend_71 (by decide) (fun (c_71 : (mdM M k side) = false) => ?_) (fun (c_71 : (mdM M k side) = true) => ?_)
              · have hw8 : mdW M w h l z s (4 * k + side) = -9 := by unfold mdW; rw [show (4 * k + side) / 4 = k by omega, show (4 * k + side) % 4 = side by omega, c_71]; rfl
                have hF2 := Fr.rf [28] [] N
                refine wa_bipush (-9) dX9_mend_92 (by decide) ?_
                refine wa_istore [(5, .int (-9)), (4, .int (nI (side))), (3, .int (nI (k))), (0, wm_r G (0)), (1, .int (nI (l)))] dX9_mend_94 (by decide) rfl ?_
                refine wa_iload dX9_mend_96 0 rfl ?_
                refine wa_bipush (-9) dX9_mend_98 (by decide) ?_
                refine wa_icmp_eq 131 dX9_mend_100 (by decide) (fun c_100 => ?_) (fun c_100 => absurd c_100 (by decide))
                have hF := hF.tr hF2
                have hw9 := hw8.trans c_100
                refine wa_iinc ((nI (side + 1))) [(4, .int (nI (side + 1))), (5, .int (-9)), (3, .int (nI (k))), (0, wm_r G (0)), (1, .int (nI (l)))] dX9_mend_131 1 rfl (nI_inc _) (by decide) rfl ?_
                refine wa_goto 55 dX9_mend_134 (by decide) ?_
                refine wa_sub [0, 2, 3, 4] rfl ?_
                exact ih_55 (side + 1) _ (by omega) (by omega) hF (fun p hp => by rcases Nat.lt_or_eq_of_le (Nat.le_of_lt_succ hp) with q | q; (exact hno p q); (subst q; exact hw9))
              · have hw8 : mdW M w h l z s (4 * k + side) = wFind (mdP M w h l z s (4 * k + side)) 8 := by unfold mdW; rw [show (4 * k + side) / 4 = k by omega, show (4 * k + side) % 4 = side by omega, c_71]; rfl
                refine wa_aload_n dX9_mend_74 rfl 2 rfl ?_
                refine wa_getr gX9_mend_75 (rfl) rfl ?_
                refine wa_iload_n dX9_mend_78 rfl 3 rfl ?_
                refine wa_aload_n dX9_mend_79 rfl 2 rfl ?_
                refine wa_geti gX9_mend_80 (rfl) rfl ?_
                refine wa_eqi (y := (nI (s))) (by rw [g0]; exact h12) ?_
                refine wa_iload_n dX9_mend_83 rfl 1 rfl ?_
                refine wa_iload dX9_mend_84 0 rfl ?_
                refine wa_callV (m_mendingWord w h hWi l z hLi s k side hs (by omega) (by omega)) vX0_mendingWord iX9_mend_86 (rfl) rfl rfl rfl (Nat.le_of_ble_eq_true rfl) ⟨by decide, by decide⟩ (fun v_ N2 h_ => ?_)
                obtain ⟨rfl, hF2, hmy⟩ := h_
                show WA G t_X9_mend (MdQ M w h l z s) 89 [(4, .int (nI (side))), (3, .int (nI (k))), (0, wm_r G (0)), (1, .int (nI (l)))] [.int (wFind (mdP N w h l z s (4 * k + side)) 8)] (N2)
                refine wa_eqi (y := (wFind (mdP M w h l z s (4 * k + side)) 8)) (wFind_cong (fun i _ => mdP_fr g18 g19 g31)) ?_
                refine wa_goto 94 dX9_mend_89 (by decide) ?_
                refine wa_istore [(5, .int (wFind (mdP M w h l z s (4 * k + side)) 8)), (4, .int (nI (side))), (3, .int (nI (k))), (0, wm_r G (0)), (1, .int (nI (l)))] dX9_mend_94 (by decide) rfl ?_
                refine wa_iload dX9_mend_96 0 rfl ?_
                refine wa_bipush (-9) dX9_mend_98 (by decide) ?_
                refine wa_icmp_eq 131 dX9_mend_100 (by decide) (fun c_100 => ?_) (fun c_100 => ?_)
                · have hF := hF.tr hF2
                  have hw9 := hw8.trans c_100
                  refine wa_iinc ((nI (side + 1))) [(4, .int (nI (side + 1))), (5, .int (wFind (mdP M w h l z s (4 * k + side)) 8)), (3, .int (nI (k))), (0, wm_r G (0)), (1, .int (nI (l)))] dX9_mend_131 1 rfl (nI_inc _) (by decide) rfl ?_
                  refine wa_goto 55 dX9_mend_134 (by decide) ?_
                  refine wa_sub [0, 2, 3, 4] rfl ?_
                  exact ih_55 (side + 1) _ (by omega) (by omega) hF (fun p hp => by rcases Nat.lt_or_eq_of_le (Nat.le_of_lt_succ hp) with q | q; (exact hno p q); (subst q; exact hw9))
                · obtain ⟨x, hx, ex, -, -⟩ := (wFind_cases (mdP M w h l z s (4 * k + side)) 8).resolve_left (fun q => c_100 q.1)
                  have hmx := hmy x hx ((wFind_cong (fun i _ => mdP_fr g18 g19 g31)).trans ex)
                  rw [g18, g19, g31] at hmx
                  refine wa_aload_n dX9_mend_103 rfl 3 rfl ?_
                  refine wa_getr gX9_mend_104 (rfl) rfl ?_
                  refine wa_aload_n dX9_mend_107 rfl 3 rfl ?_
                  refine wa_getr gX9_mend_108 (rfl) rfl ?_
                  refine wa_geti gX9_mend_111 (rfl) rfl ?_
                  refine wa_eqi (y := (lyT w h (M.1 18) (upd (M.1 19) (4 * k + side) (nI x)) (M.1 (31 + l)) z s (w + h))) (hmx) ?_
                  refine wa_puti gX9_mend_114 (rfl) rfl ?_
                  refine wa_bipush (100) dX9_mend_117 (by decide) ?_
                  refine wa_iload_n dX9_mend_119 rfl 2 rfl ?_
                  refine wa_imulN (a := 100) (b := k) dX9_mend_120 ?_
                  refine wa_bipush (10) dX9_mend_121 (by decide) ?_
                  refine wa_iload dX9_mend_123 1 rfl ?_
                  refine wa_imulN (a := 10) (b := side) dX9_mend_125 ?_
                  refine wa_iaddN (a := 100 * k) (b := 10 * side) dX9_mend_126 ?_
                  refine wa_iload dX9_mend_127 0 rfl ?_
                  refine wa_eqi (y := (nI (x))) (ex) ?_
                  refine wa_iaddN (a := 100 * k + (10 * side)) (b := x) dX9_mend_129 ?_
                  refine wa_iret dX9_mend_130 rfl ?_
                  exact Or.inr ⟨(4 * k + side), x, by omega, hx, wFind_some (by omega) (by show (!decide (mdW M w h l z s _ = -9)) = true; rw [hw8, decide_eq_false c_100]; rfl) (fun j hj => by show (!decide (mdW M w h l z s _ = -9)) = false; rw [hno j (by omega)]; rfl), hw8.trans ex, by rw [show (4 * k + side) / 4 = k by omega, show (4 * k + side) % 4 = side by omega], (EqR.fr (hF.tr hF2) (fun c hc => nin1 (scB_nin hc).2.2.2.2.2.2.1) (fun c _ => by simp)).tell⟩
        exact L_55 _ 0 _ (Nat.lt_succ_self _) (Nat.zero_le _) hF (fun p hp => hno p (by omega))
  refine wa_sub [0, 2, 3] rfl ?_
  exact L_41 _ 0 M (Nat.lt_succ_self _) (Nat.zero_le _) (Fr.rf _ _ M) (fun p hp => absurd hp (by omega))

theorem c_town_ok {G : wm_G} {M : wm_M} (w h rn s yr : Nat) (ci : CI M w h rn s yr) (r : Nat) (hr : r < 4) (z : Nat) (hz1 : M.1 16 r = nI z) (hz9 : z ≤ 80) (hf : tFault (chF M r z) z = -9) : MA G t_X9_town [wm_r G (0), .int (nI (r))] (M) (fun v N => v = some (.int (nI (gW (chF M r z) z * gH (chF M r z) z))) ∧ TnQ M r z N) := by
  obtain ⟨⟨hW, hwh⟩, hSt, ⟨h12, h13, hyr, hs4, hsh⟩, hRo, hTx, hLw, hKp, hRO, ⟨hL1, hL10, hL29, hL58⟩, hSe, hDy⟩ := id ci
  have hn6 := TW_n hW
  have hs : s < 4096 := Nat.lt_of_lt_of_le hs4 (p4_le hn6)
  have hw3 := hW.2.2.1
  have hh2 := hW.2.2.2
  have hz : ¬ M.1 16 r = -1 := by rw [hz1]; exact nI_nem1 (by omega)
  refine wm_met (by decide) (Nat.le_of_ble_eq_true rfl) ?_
  show WA G t_X9_town (fun v N => v = some (.int (nI (gW (chF M r z) z * gH (chF M r z) z))) ∧ TnQ M r z N) 0 [(0, wm_r G (0)), (1, .int (nI (r)))] [] (M)
  refine wa_aload_n dX9_town_0 rfl 0 rfl ?_
  refine wa_aload_n dX9_town_1 rfl 0 rfl ?_
  refine wa_getr gX9_town_2 (rfl) rfl ?_
  refine wa_iload_n dX9_town_5 rfl 1 rfl ?_
  refine wa_cVi (m_ref_ok 10 4 80 TB_texts r hr hz) vX9_refusal iX9_town_6 (rfl) rfl rfl rfl (Nat.le_of_ble_eq_true rfl) ⟨by decide, by decide⟩ ?_
  refine wa_istore_n [(2, .int (0)), (0, wm_r G (0)), (1, .int (nI (r)))] dX9_town_9 rfl (by decide) rfl ?_
  refine wa_iload_n dX9_town_10 rfl 0 rfl ?_
  refine wa_if_eq 16 dX9_town_11 (by decide) (fun c_11 => ?_) (fun c_11 => absurd c_11 (by decide))
  refine wa_aload_n dX9_town_16 rfl 1 rfl ?_
  refine wa_getr gX9_town_17 (rfl) rfl ?_
  refine wa_iload_n dX9_town_20 rfl 2 rfl ?_
  refine wa_callV (m_faultOf r z hr hz1 hz9) vX7_faultOf iX9_town_21 (rfl) rfl rfl rfl (Nat.le_of_ble_eq_true rfl) ⟨by decide, by decide⟩ (fun v_ N1 h_ => ?_)
  obtain ⟨rfl, hSc, hDr⟩ := h_
  show WA G t_X9_town (fun v N => v = some (.int (nI (gW (chF M r z) z * gH (chF M r z) z))) ∧ TnQ M r z N) 24 [(2, .int (0)), (0, wm_r G (0)), (1, .int (nI (r)))] [.int (tFault (chF M r z) z)] (N1)
  refine wa_eqi (y := (-9)) (hf) ?_
  refine wa_bipush (-9) dX9_town_24 (by decide) ?_
  refine wa_icmp_eq 32 dX9_town_26 (by decide) (fun c_26 => ?_) (fun c_26 => absurd rfl c_26)
  obtain ⟨hg, hg0, hg1, hdr⟩ := hDr hf
  have hgb := g_bd hg
  refine wa_aload_n dX9_town_32 rfl 1 rfl ?_
  refine wa_getr gX9_town_33 (rfl) rfl ?_
  refine wa_aload_n dX9_town_36 rfl 1 rfl ?_
  refine wa_getr gX9_town_37 (rfl) rfl ?_
  refine wa_callV (m_stonesTake) vX4_take iX9_town_40 (rfl) rfl rfl rfl (Nat.le_of_ble_eq_true rfl) ⟨by decide, by decide⟩ (fun v_ N2 h_ => ?_)
  obtain ⟨rfl, hT, hT2, t17, t171, t18, t19, t20, t21⟩ := h_
  show WA G t_X9_town (fun v N => v = some (.int (nI (gW (chF M r z) z * gH (chF M r z) z))) ∧ TnQ M r z N) 43 [(2, .int (0)), (0, wm_r G (0)), (1, .int (nI (r)))] [] (N2)
  refine wa_aload_n dX9_town_43 rfl 1 rfl ?_
  refine wa_iconst (0) dX9_town_44 (by decide) ?_
  refine wa_puti gX9_town_45 (rfl) rfl ?_
  refine wa_aload_n dX9_town_48 rfl 1 rfl ?_
  refine wa_iconst (0) dX9_town_49 (by decide) ?_
  refine wa_puti gX9_town_50 (rfl) rfl ?_
  refine wa_aload_n dX9_town_53 rfl 1 rfl ?_
  refine wa_getr gX9_town_54 (rfl) rfl ?_
  refine wa_iconst (-1) dX9_town_57 (by decide) ?_
  refine wa_cSv (m_fill2 95 3 (-1) rfl (by decide)) vJ7_fill_53178 iX9_town_58 rfl rfl (Nat.le_of_ble_eq_true rfl) ⟨by decide, by decide⟩ ?_
  refine wa_top (fun N3 e_N3 => ?_)
  have f0 : ∀ c, c ≠ 0 → c ≠ 95 → (c < 17 ∨ 27 < c) → N3.1 c = M.1 c := fun c h1 h2 h3 => by rw [e_N3, wIa_n h2, wI_c h1, wI_c h1, hT c (by omega), hSc.1 c (by omega)]
  have f1 : ∀ c, 17 ≤ c → c ≤ 21 → N3.1 c = N2.1 c := fun c h1 h2 => by rw [e_N3, wIa_n (by omega), wI_c (by omega), wI_c (by omega)]
  have f2 : N3.2 = M.2 := by rw [e_N3]; exact hT2.trans hSc.2
  have f12 : N3.1 0 12 = 0 := by rw [e_N3, wIa_n (by decide), wI_ne (by decide), wI_at]
  have f13 : N3.1 0 13 = 0 := by rw [e_N3, wIa_n (by decide), wI_at]
  have f95 : ∀ k, k < 3 → N3.1 95 k = -1 := fun k hk => by rw [e_N3, wIa_s, wFill_in (Nat.zero_le _) hk]
  refine wa_aload_n dX9_town_61 rfl 1 rfl ?_
  refine wa_getr gX9_town_62 (rfl) rfl ?_
  refine wa_iconst (0) dX9_town_65 (by decide) ?_
  refine wa_cVv (m_dropFrom 0 rn (by decide) hRO.2.1 (by rw [f0 54 (by decide) (by decide) (by decide)]; exact hRO.1)) vX2_dropFrom iX9_town_66 (rfl) rfl rfl rfl (Nat.le_of_ble_eq_true rfl) ⟨by decide, by decide⟩ ?_
  refine wa_top (fun N4 e_N4 => ?_)
  have k0 : ∀ c, c ≠ 54 → N4.1 c = N3.1 c := fun c hc => by rw [e_N4]; split; (rw [wI_c hc]); rfl
  have k2 : N4.2 = N3.2 := by rw [e_N4]; split <;> rfl
  have k54 : N4.1 54 0 = 0 := by
    rw [e_N4]; split
    · rw [wI_at]; rfl
    · rw [f0 54 (by decide) (by decide) (by decide), hRO.1, show rn = 0 by omega]; rfl
  have hW4 : TW N4 (gW (chF M r z) z) (gH (chF M r z) z) := ⟨by rw [k0 17 (by decide), f1 17 (by decide) (by decide), t17, hg0], by rw [k0 17 (by decide), f1 17 (by decide) (by decide), t171, hg1], hgb.2.1, hgb.2.2.2⟩
  have hLo : LawOk N4 := fun l hl => by
    rcases hLw l hl with q | ⟨y, q, -⟩
    · left; rw [k0 35 (by decide), f0 35 (by decide) (by decide) (by decide)]; exact q
    · right; exact ⟨y, q.fr (by rw [k0 35 (by decide), f0 35 (by decide) (by decide) (by decide)])⟩
  refine wa_aload_n dX9_town_69 rfl 1 rfl ?_
  refine wa_getr gX9_town_70 (rfl) rfl ?_
  refine wa_callV (m_rebuildAll _ _ hW4 hLo) vX0_rebuildAll iX9_town_73 (rfl) rfl rfl rfl (Nat.le_of_ble_eq_true rfl) ⟨by decide, by decide⟩ (fun v_ N5 h_ => ?_)
  obtain ⟨rfl, hF, hset⟩ := h_
  show WA G t_X9_town (fun v N => v = some (.int (nI (gW (chF M r z) z * gH (chF M r z) z))) ∧ TnQ M r z N) 76 [(2, .int (0)), (0, wm_r G (0)), (1, .int (nI (r)))] [] (N5)
  refine wa_aload_n dX9_town_76 rfl 1 rfl ?_
  refine wa_getr gX9_town_77 (rfl) rfl ?_
  refine wa_cVi (m_number 17 _ _ SO_17 (hW4.fr (hF.1 17 (nin1 (by decide)))).1 (hW4.fr (hF.1 17 (nin1 (by decide)))).2.1) vX4_number iX9_town_80 (rfl) rfl rfl rfl (Nat.le_of_ble_eq_true rfl) ⟨by decide, by decide⟩ ?_
  refine wa_iret dX9_town_83 rfl ?_
  have j1 : ∀ c, c ≠ 37 → c ≠ 54 → N5.1 c = N3.1 c := fun c h1 h2 => (hF.1 c (nin1 h1)).trans (k0 c h2)
  refine ⟨rfl, ⟨fun c hc => ?_, fun c hc => ?_, fun d _ => ?_⟩, fun c hc h1 h2 h3 h4 => ?_, ?_, ?_, ?_, fun k hk => ?_, fun c _ hc => ?_, ?_, hg, ?_, ?_, fun l hl s hs => ?_, fun k hk => ?_⟩
  · rw [j1 c (by omega) (by omega), f0 c (by omega) (by omega) (by omega)]
  · rw [hF.2.1 c (by simp; omega), k2, f2]
  · rw [hF.2.2, k2, f2]
  · rw [j1 c (scB_nin hc).2.2.2.2.2.2.2.1 h3, f0 c h1 h4 (by have := scB_nin hc; omega)]
  · rw [j1 0 (by decide) (by decide)]; exact f12
  · rw [j1 0 (by decide) (by decide)]; exact f13
  · rw [hF.1 54 (nin1 (by decide))]; exact k54
  · rw [j1 95 (by decide) (by decide)]; exact f95 k hk
  · rw [hF.2.1 c (by simp; omega), k2, f2]
  · rw [hF.2.2, k2, f2]
  · rw [hF.1 17 (nin1 (by decide))]; exact hW4.1
  · rw [hF.1 17 (nin1 (by decide))]; exact hW4.2.1
  · rw [hset l hl s hs]; exact (stL_fr (hF.1 18 (nin1 (by decide))) (hF.1 19 (nin1 (by decide))) (hF.1 _ (nin1 (by omega))) (hF.1 35 (nin1 (by decide)))).symm
  · have hk6 : k < 6 := Nat.lt_of_lt_of_le hk (TW_n hW4)
    obtain ⟨d1, d2, d3, d4⟩ := hdr k hk
    refine ⟨?_, fun i hi => ?_, ?_, fun q => ?_⟩
    · rw [j1 18 (by decide) (by decide), f1 18 (by decide) (by decide), t18 k hk6]; exact d1
    · rw [j1 19 (by decide) (by decide), f1 19 (by decide) (by decide), t19 _ (by omega)]; exact d2 i hi
    · rw [j1 20 (by decide) (by decide), f1 20 (by decide) (by decide), t20 k hk6]; exact d3
    · rw [j1 21 (by decide) (by decide), f1 21 (by decide) (by decide), t21 k hk6]; exact d4 q
