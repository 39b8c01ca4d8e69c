theorem x_mend_bad {G : wm_G} {M : wm_M} (l : Int32) (hl : wIn l 4 = false) : MD G t_X10_mend [wm_r G (96), .int (l)] (M) (some (.int (-1))) (M) := by
  refine wm_met (by decide) (Nat.le_of_ble_eq_true rfl) ?_
  show WA G t_X10_mend (fun v_ N_ => v_ = some (.int (-1)) ∧ N_ = M) 0 [(0, wm_r G (96)), (1, .int (l))] [] (M)
  refine wa_iload_n dX10_mend_0 rfl 1 rfl ?_
  refine wa_cSi (x_isLaw l) vX10_isLaw iX10_mend_1 rfl rfl (Nat.le_of_ble_eq_true rfl) ⟨by decide, by decide⟩ ?_
  refine wa_eqi (y := (0)) (by rw [hl]; rfl) ?_
  refine wa_if_ne 9 dX10_mend_4 (by decide) (fun c_4 => absurd c_4 (by decide)) (fun c_4 => ?_)
  refine wa_iconst (-1) dX10_mend_7 (by decide) ?_
  exact wa_iret dX10_mend_8 rfl ⟨congrArg (fun z => some (Value.int z)) (rfl), rfl⟩

theorem x_mend_no {G : wm_G} {M : wm_M} (l : Nat) (hl : l < 4) (hz : M.1 109 l = -1) : MD G t_X10_mend [wm_r G (96), .int (nI (l))] (M) (some (.int (-3))) (xNote M 1) := by
  refine wm_met (by decide) (Nat.le_of_ble_eq_true rfl) ?_
  show WA G t_X10_mend (fun v_ N_ => v_ = some (.int (-3)) ∧ N_ = xNote M 1) 0 [(0, wm_r G (96)), (1, .int (nI (l)))] [] (M)
  refine wa_iload_n dX10_mend_0 rfl 1 rfl ?_
  refine wa_cSi (x_isLaw (nI l)) vX10_isLaw iX10_mend_1 rfl rfl (Nat.le_of_ble_eq_true rfl) ⟨by decide, by decide⟩ ?_
  refine wa_eqi (y := (1)) (by rw [wIn_nI (by omega), decide_eq_true (by omega)]; rfl) ?_
  refine wa_if_ne 9 dX10_mend_4 (by decide) (fun c_4 => ?_) (fun c_4 => absurd c_4 (by decide))
  refine wa_aload_n dX10_mend_9 rfl 0 rfl ?_
  refine wa_getr gX10_mend_10 (rfl) rfl ?_
  refine wa_iload_n dX10_mend_13 rfl 1 rfl ?_
  refine wa_ialdN (e := l) dX10_mend_14 (rfl) (by omega) (by decide) ?_
  refine wa_eqi (y := (-1)) (hz) ?_
  refine wa_if_ge 24 dX10_mend_15 (by decide) (fun c_15 => absurd c_15 (by decide)) (fun c_15 => ?_)
  refine wa_aload_n dX10_mend_18 rfl 0 rfl ?_
  refine wa_iconst (1) dX10_mend_19 (by decide) ?_
  refine wa_cVi (x_meets 1 (by decide) (by decide)) vX10_meets iX10_mend_20 (rfl) rfl rfl rfl (Nat.le_of_ble_eq_true rfl) ⟨by decide, by decide⟩ ?_
  exact wa_iret dX10_mend_23 rfl ⟨congrArg (fun z => some (Value.int z)) (rfl), rfl⟩

theorem x_mend_st {G : wm_G} {M : wm_M} (C : wm_M) (w h s : Nat) (hX : xStn C M w h) (hW : TW C w h) (hXL : xLaw C M) (hCL : cLaw C) (hCS : cStn C (w * h)) (hQ : ∀ k, k < w * h → M.1 107 k = nI (sQ s k)) (hs : hadS C (w * h) s) (l : Nat) (hl : l < 4) (zl : Nat) (hzl : M.1 109 l = nI zl) (hzl9 : zl ≤ 3) (t : Nat) (hn : NrIs C w h s (2 ^ l) t) : MA G t_X10_mend [wm_r G (96), .int (nI (l))] (M) (fun v N => v = some (.int (-4)) ∧ FrN M N) := by
  obtain ⟨x10, x11, x12, x103, x104, x105, x106⟩ := id hX
  have hn6 := TW_n hW
  have hw3 := hW.2.2.1
  have hh2 := hW.2.2.2
  have h4 := p4_le hn6
  have ht4 : t < 4096 := Nat.lt_of_lt_of_le hn.1.1 h4
  refine wm_met (by decide) (Nat.le_of_ble_eq_true rfl) ?_
  show WA G t_X10_mend (fun v N => v = some (.int (-4)) ∧ FrN M N) 0 [(0, wm_r G (96)), (1, .int (nI (l)))] [] (M)
  refine wa_iload_n dX10_mend_0 rfl 1 rfl ?_
  refine wa_cSi (x_isLaw (nI l)) vX10_isLaw iX10_mend_1 rfl rfl (Nat.le_of_ble_eq_true rfl) ⟨by decide, by decide⟩ ?_
  refine wa_eqi (y := (1)) (by rw [wIn_nI (by omega), decide_eq_true (by omega)]; rfl) ?_
  refine wa_if_ne 9 dX10_mend_4 (by decide) (fun c_4 => ?_) (fun c_4 => absurd c_4 (by decide))
  refine wa_aload_n dX10_mend_9 rfl 0 rfl ?_
  refine wa_getr gX10_mend_10 (rfl) rfl ?_
  refine wa_iload_n dX10_mend_13 rfl 1 rfl ?_
  refine wa_ialdN (e := l) dX10_mend_14 (rfl) (by omega) (by decide) ?_
  refine wa_eqi (y := (nI (zl))) (hzl) ?_
  refine wa_if_geN (a := zl) 24 dX10_mend_15 (by decide) (by omega) (fun c_15 => ?_) (fun c_15 => absurd c_15 (by omega))
  refine wa_aload_n dX10_mend_24 rfl 0 rfl ?_
  refine wa_iconst (1) dX10_mend_25 (by decide) ?_
  refine wa_iload_n dX10_mend_26 rfl 1 rfl ?_
  refine wa_ishl dX10_mend_27 ?_
  refine wa_eqi (y := (nI (2 ^ l))) (nI_pow _ (by omega)) ?_
  refine wa_callV (x_near_is C w h s hX hW hXL hCL hCS hQ hs (2 ^ l) (pow_l l hl) t hn) vX10_nearest iX10_mend_28 (rfl) rfl rfl rfl (Nat.le_of_ble_eq_true rfl) ⟨by decide, by decide⟩ (fun v_ N h_ => ?_)
  obtain ⟨rfl, hF, h114⟩ := h_
  show WA G t_X10_mend (fun v N => v = some (.int (-4)) ∧ FrN M N) 31 [(0, wm_r G (96)), (1, .int (nI (l)))] [.int (nI (t))] (N)
  refine wa_bipush (-9) dX10_mend_31 (by decide) ?_
  refine wa_icmp_eq 39 dX10_mend_33 (by decide) (fun c_33 => absurd c_33 (nI_ne9 (by omega))) (fun c_33 => ?_)
  refine wa_bipush (-4) dX10_mend_36 (by decide) ?_
  refine wa_iret dX10_mend_38 rfl ?_
  exact ⟨rfl, hF⟩

theorem x_mend_ok {G : wm_G} {M : wm_M} (C : wm_M) (w h s : Nat) (hX : xStn C M w h) (hW : TW C w h) (hXL : xLaw C M) (hCL : cLaw C) (hCS : cStn C (w * h)) (hQ : ∀ k, k < w * h → M.1 107 k = nI (sQ s k)) (hs : hadS C (w * h) s) (l : Nat) (hl : l < 4) (zl : Nat) (hzl : M.1 109 l = nI zl) (hzl9 : zl ≤ 3) (hn : NrNo C w h (2 ^ l)) : MA G t_X10_mend [wm_r G (96), .int (nI (l))] (M) (MxQ C M w h s l) := by
  obtain ⟨x10, x11, x12, x103, x104, x105, x106⟩ := id hX
  have hn6 := TW_n hW
  have hw3 := hW.2.2.1
  have hh2 := hW.2.2.2
  have h4 := p4_le hn6
  refine wm_met (by decide) (Nat.le_of_ble_eq_true rfl) ?_
  show WA G t_X10_mend (MxQ C M w h s l) 0 [(0, wm_r G (96)), (1, .int (nI (l)))] [] (M)
  refine wa_iload_n dX10_mend_0 rfl 1 rfl ?_
  refine wa_cSi (x_isLaw (nI l)) vX10_isLaw iX10_mend_1 rfl rfl (Nat.le_of_ble_eq_true rfl) ⟨by decide, by decide⟩ ?_
  refine wa_eqi (y := (1)) (by rw [wIn_nI (by omega), decide_eq_true (by omega)]; rfl) ?_
  refine wa_if_ne 9 dX10_mend_4 (by decide) (fun c_4 => ?_) (fun c_4 => absurd c_4 (by decide))
  refine wa_aload_n dX10_mend_9 rfl 0 rfl ?_
  refine wa_getr gX10_mend_10 (rfl) rfl ?_
  refine wa_iload_n dX10_mend_13 rfl 1 rfl ?_
  refine wa_ialdN (e := l) dX10_mend_14 (rfl) (by omega) (by decide) ?_
  refine wa_eqi (y := (nI (zl))) (hzl) ?_
  refine wa_if_geN (a := zl) 24 dX10_mend_15 (by decide) (by omega) (fun c_15 => ?_) (fun c_15 => absurd c_15 (by omega))
  refine wa_aload_n dX10_mend_24 rfl 0 rfl ?_
  refine wa_iconst (1) dX10_mend_25 (by decide) ?_
  refine wa_iload_n dX10_mend_26 rfl 1 rfl ?_
  refine wa_ishl dX10_mend_27 ?_
  refine wa_eqi (y := (nI (2 ^ l))) (nI_pow _ (by omega)) ?_
  refine wa_callV (x_near_no C w h s hX hW hXL hCL hCS hQ hs (2 ^ l) (pow_l l hl) hn) vX10_nearest iX10_mend_28 (rfl) rfl rfl rfl (Nat.le_of_ble_eq_true rfl) ⟨by decide, by decide⟩ (fun v_ N0 h_ => ?_)
  obtain ⟨rfl, hF0⟩ := h_
  show WA G t_X10_mend (MxQ C M w h s l) 31 [(0, wm_r G (96)), (1, .int (nI (l)))] [.int (-9)] (N0)
  refine wa_bipush (-9) dX10_mend_31 (by decide) ?_
  refine wa_icmp_eq 39 dX10_mend_33 (by decide) (fun c_33 => ?_) (fun c_33 => absurd c_33 (by decide))
  refine wa_iconst (0) dX10_mend_39 (by decide) ?_
  refine wa_istore_n [(2, .int (0)), (0, wm_r G (96)), (1, .int (nI (l)))] dX10_mend_40 rfl (by decide) rfl ?_
  have L_41 : ∀ (n_ : Nat) (p : Nat) (O : wm_M), (4 * (w * h) - p) < n_ → (p ≤ 4 * (w * h)) → (FrN M O) → (∀ p2, p2 < p → mdM C (p2 / 4) (p2 % 4) = true → ∀ x, x < 8 → NrNo (mdC C p2 x) w h (2 ^ l)) → WA G t_X10_mend (MxQ C M w h s l) 41 [(2, .int (nI (p))), (0, wm_r G (96)), (1, .int (nI (l)))] [] (O) := by
    intro n_
    induction n_ with
    | zero => intro p O h_; exact absurd h_ (Nat.not_lt_zero _)
    | succ n_ ih_41 =>
      intro p O h_ hp hF hno
      refine wa_iload_n dX10_mend_41 rfl 0 rfl ?_
      refine wa_iconst (4) dX10_mend_42 (by decide) ?_
      refine wa_aload_n dX10_mend_43 rfl 1 rfl ?_
      refine wa_geti gX10_mend_44 (rfl) rfl ?_
      refine wa_eqi (y := (nI (w * h))) (by rw [hF.1 96 (by decide) (by decide) (by decide)]; exact x12) ?_
      refine wa_imulN (a := 4) (b := w * h) dX10_mend_47 ?_
      refine wa_icmp_geN (a := p) (b := 4 * (w * h)) 177 dX10_mend_48 (by decide) (by omega) (by omega) (fun c_48 => ?_) (fun c_48 => ?_)
      · refine wa_bipush (-9) dX10_mend_177 (by decide) ?_
        refine wa_iret dX10_mend_179 rfl ?_
        exact Or.inl ⟨rfl, hF, fun p2 h2 => hno p2 (by omega)⟩
      · refine wa_iload_n dX10_mend_51 rfl 0 rfl ?_
        refine wa_iconst (4) dX10_mend_52 (by decide) ?_
        refine wa_idivN (a := p) (b := 4) dX10_mend_53 (by omega) (by omega) (by omega) ?_
        refine wa_istore_n [(3, .int (nI ((p) / (4)))), (2, .int (nI (p))), (0, wm_r G (96)), (1, .int (nI (l)))] dX10_mend_54 rfl (by decide) rfl ?_
        refine wa_aload_n dX10_mend_55 rfl 2 rfl ?_
        refine wa_getr gX10_mend_56 (rfl) rfl ?_
        refine wa_iload_n dX10_mend_59 rfl 0 rfl ?_
        refine wa_ialdN (e := (p) / (4)) dX10_mend_60 (rfl) (by omega) (by decide) ?_
        refine wa_eqi (y := (C.1 18 (p / 4))) (by rw [hF.1 103 (by decide) (by decide) (by decide)]; exact x103 _ (by omega)) ?_
        refine wa_iconst (5) dX10_mend_61 (by decide) ?_
        refine wa_icmp_eq 81 dX10_mend_62 (by decide) (fun c_62 => ?_) (fun c_62 => ?_)
        · refine wa_iconst (0) dX10_mend_81 (by decide) ?_
          refine wa_eqi (y := (wB (mdM C (p / 4) (p % 4)))) (by unfold mdM; first | (rw [decide_eq_true c_62]; rfl) | (rw [decide_eq_false c_62, decide_eq_true c_74]; rfl) | (rw [decide_eq_false c_62, decide_eq_false c_74]; rfl)) ?_
          refine wa_istore [(4, .int (wB (mdM C (p / 4) (p % 4)))), (3, .int (nI ((p) / (4)))), (2, .int (nI (p))), (0, wm_r G (96)), (1, .int (nI (l)))] dX10_mend_82 (by decide) rfl ?_
          refine wa_aload_n dX10_mend_84 rfl 3 rfl ?_
          refine wa_getr gX10_mend_85 (rfl) rfl ?_
          refine wa_iload_n dX10_mend_88 rfl 2 rfl ?_
          refine wa_ialdN (e := p) dX10_mend_89 (rfl) (by omega) (by decide) ?_
          refine wa_eqi (y := (C.1 19 p)) (by rw [hF.1 104 (by decide) (by decide) (by decide)]; exact x104 _ (by omega)) ?_
          refine wa_istore [(5, .int (C.1 19 p)), (4, .int (wB (mdM C (p / 4) (p % 4)))), (3, .int (nI ((p) / (4)))), (2, .int (nI (p))), (0, wm_r G (96)), (1, .int (nI (l)))] dX10_mend_90 (by decide) rfl ?_
          refine wa_iconst (0) dX10_mend_92 (by decide) ?_
          refine wa_istore [(6, .int (0)), (5, .int (C.1 19 p)), (4, .int (wB (mdM C (p / 4) (p % 4)))), (3, .int (nI ((p) / (4)))), (2, .int (nI (p))), (0, wm_r G (96)), (1, .int (nI (l)))] dX10_mend_93 (by decide) rfl ?_
          have L_95 : ∀ (n_ : Nat) (x : Nat) (O : wm_M), (8 - x) < n_ → (x ≤ 8) → (FrN M O) → (∀ x2, x2 < x → NrNo (mdC C p x2) w h (2 ^ l)) → WA G t_X10_mend (MxQ C M w h s l) 95 [(6, .int (nI (x))), (5, .int (C.1 19 p)), (4, .int (wB (mdM C (p / 4) (p % 4)))), (3, .int (nI (p / 4))), (2, .int (nI (p))), (0, wm_r G (96)), (1, .int (nI (l)))] [] (O) := by
            intro n_
            induction n_ with
            | zero => intro x O h_; exact absurd h_ (Nat.not_lt_zero _)
            | succ n_ ih_95 =>
              intro x O h_ hx hF hnx
              have hp2 : p < 4 * (w * h) := c_48
              refine wa_iload dX10_mend_95 0 rfl ?_
              refine wa_bipush (8) dX10_mend_97 (by decide) ?_
              refine wa_icmp_geN (a := x) (b := 8) 171 dX10_mend_99 (by decide) (by omega) (by omega) (fun c_99 => ?_) (fun c_99 => ?_)
              · refine wa_iinc ((nI (p + 1))) [(2, .int (nI (p + 1))), (6, .int (nI (x))), (5, .int (C.1 19 p)), (4, .int (wB (mdM C (p / 4) (p % 4)))), (3, .int (nI (p / 4))), (0, wm_r G (96)), (1, .int (nI (l)))] dX10_mend_171 4 rfl (nI_inc _) (by decide) rfl ?_
                refine wa_goto 41 dX10_mend_174 (by decide) ?_
                refine wa_sub [0, 5, 6] rfl ?_
                exact ih_41 (p + 1) _ (by omega) (by omega) hF (fun p2 h2 hm x2 hx2 => by rcases Nat.lt_or_eq_of_le (Nat.le_of_lt_succ h2) with q | q; (exact hno p2 q hm x2 hx2); (subst q; first | exact hnx x2 (by omega) | (rw [c_104] at hm; cases hm)))
              · refine wa_iload dX10_mend_102 2 rfl ?_
                refine wa_if_eqB 171 dX10_mend_104 (by decide) (fun (c_104 : (mdM C (p / 4) (p % 4)) = false) => ?_) (fun (c_104 : (mdM C (p / 4) (p % 4)) = true) => ?_)
                · refine wa_iinc ((nI (p + 1))) [(2, .int (nI (p + 1))), (6, .int (nI (x))), (5, .int (C.1 19 p)), (4, .int (wB (mdM C (p / 4) (p % 4)))), (3, .int (nI (p / 4))), (0, wm_r G (96)), (1, .int (nI (l)))] dX10_mend_171 4 rfl (nI_inc _) (by decide) rfl ?_
                  refine wa_goto 41 dX10_mend_174 (by decide) ?_
                  refine wa_sub [0, 5, 6] rfl ?_
                  exact ih_41 (p + 1) _ (by omega) (by omega) hF (fun p2 h2 hm x2 hx2 => by rcases Nat.lt_or_eq_of_le (Nat.le_of_lt_succ h2) with q | q; (exact hno p2 q hm x2 hx2); (subst q; first | exact hnx x2 (by omega) | (rw [c_104] at hm; cases hm)))
                · refine wa_aload_n dX10_mend_107 rfl 5 rfl ?_
                  refine wa_getr gX10_mend_108 (rfl) rfl ?_
                  refine wa_iload_n dX10_mend_111 rfl 4 rfl ?_
                  refine wa_iload dX10_mend_112 0 rfl ?_
                  refine wa_iastN (e := p) dX10_mend_114 (rfl) (by omega) (by decide) ?_
                  refine wa_aload_n dX10_mend_115 rfl 5 rfl ?_
                  refine wa_iconst (1) dX10_mend_116 (by decide) ?_
                  refine wa_iload_n dX10_mend_117 rfl 6 rfl ?_
                  refine wa_ishl dX10_mend_118 ?_
                  refine wa_eqi (y := (nI (2 ^ l))) (nI_pow _ (by omega)) ?_
                  refine wa_callV (x_near (M := wI O 104 p (nI x)) (mdC C p x) w h s (mdC_stn (hF.stn hX) hp2) (mdC_tw hW) (mdC_law (hF.law hXL)) (mdC_cl hCL) (mdC_cs hCS (by omega) c_104) (fun k hk => by rw [wI_c (by decide), hF.1 107 (by decide) (by decide) (by decide)]; exact hQ k hk) (mdC_had hs) (2 ^ l) (pow_l l hl)) vX10_nearest iX10_mend_119 (rfl) rfl rfl rfl (Nat.le_of_ble_eq_true rfl) ⟨by decide, by decide⟩ (fun v_ N5 h_ => ?_)
                  obtain ⟨b, rfl, hB, hF5, h114⟩ := h_
                  show WA G t_X10_mend (MxQ C M w h s l) 122 [(6, .int (nI (x))), (5, .int (C.1 19 p)), (4, .int (wB (mdM C (p / 4) (p % 4)))), (3, .int (nI (p / 4))), (2, .int (nI (p))), (0, wm_r G (96)), (1, .int (nI (l)))] [.int (b)] (N5)
                  refine wa_istore [(7, .int (b)), (6, .int (nI (x))), (5, .int (C.1 19 p)), (4, .int (wB (mdM C (p / 4) (p % 4)))), (3, .int (nI (p / 4))), (2, .int (nI (p))), (0, wm_r G (96)), (1, .int (nI (l)))] dX10_mend_122 (by decide) rfl ?_
                  refine wa_aload_n dX10_mend_124 rfl 6 rfl ?_
                  refine wa_getr gX10_mend_125 (rfl) rfl ?_
                  refine wa_iload_n dX10_mend_128 rfl 5 rfl ?_
                  refine wa_iload dX10_mend_129 2 rfl ?_
                  refine wa_iastN (e := p) dX10_mend_131 (rfl) (by omega) (by decide) ?_
                  refine wa_top (fun N6 e_N6 => ?_)
                  have hF6 : FrN M N6 := by rw [e_N6]; exact hF.back hF5 (x104 _ (by omega)).symm
                  have hN6 : N6.1 114 = N5.1 114 := by rw [e_N6, wI_c (by decide)]
                  refine wa_iload dX10_mend_132 0 rfl ?_
                  refine wa_bipush (-9) dX10_mend_134 (by decide) ?_
                  refine wa_icmp_eq 165 dX10_mend_136 (by decide) (fun c_136 => ?_) (fun c_136 => ?_)
                  · have hnx2 := bs_no hB hn6 c_136
                    refine wa_iinc ((nI (x + 1))) [(6, .int (nI (x + 1))), (7, .int (b)), (5, .int (C.1 19 p)), (4, .int (wB (mdM C (p / 4) (p % 4)))), (3, .int (nI (p / 4))), (2, .int (nI (p))), (0, wm_r G (96)), (1, .int (nI (l)))] dX10_mend_165 1 rfl (nI_inc _) (by decide) rfl ?_
                    refine wa_goto 95 dX10_mend_168 (by decide) ?_
                    refine wa_sub [0, 2, 3, 4, 5, 6, 7] rfl ?_
                    exact ih_95 (x + 1) _ (by omega) (by omega) hF6 (fun x2 h2 => by rcases Nat.lt_or_eq_of_le (Nat.le_of_lt_succ h2) with q | q; (exact hnx x2 q); (subst q; exact hnx2))
                  · obtain ⟨u, hu, eu, hIs⟩ := bs_is hB c_136
                    have hd18 := dst18 (kd := C.1 18) (s := s) (t := u) hn6
                    refine wa_aload_n dX10_mend_139 rfl 6 rfl ?_
                    refine wa_aload_n dX10_mend_140 rfl 6 rfl ?_
                    refine wa_getr gX10_mend_141 (rfl) rfl ?_
                    refine wa_iload dX10_mend_144 0 rfl ?_
                    refine wa_eqi (y := (nI (u))) (eu) ?_
                    refine wa_ialdN (e := u) dX10_mend_146 (rfl) (by omega) (by decide) ?_
                    refine wa_eqi (y := (nI (dst (C.1 18) (w * h) s u))) (by rw [hN6, h114 u hu, mdC_c (show 18 ≠ 19 by decide)]; exact tT_had (by have := hIs.1.2; rw [mdC_c (show 18 ≠ 19 by decide)] at this; exact this)) ?_
                    refine wa_bipush (100) dX10_mend_147 (by decide) ?_
                    refine wa_iload_n dX10_mend_149 rfl 4 rfl ?_
                    refine wa_imulN (a := 100) (b := p / 4) dX10_mend_150 ?_
                    refine wa_bipush (10) dX10_mend_151 (by decide) ?_
                    refine wa_iload_n dX10_mend_153 rfl 5 rfl ?_
                    refine wa_iconst (4) dX10_mend_154 (by decide) ?_
                    refine wa_iremN (a := p) (b := 4) dX10_mend_155 (by omega) (by omega) (by omega) ?_
                    refine wa_imulN (a := 10) (b := (p) % (4)) dX10_mend_156 ?_
                    refine wa_iaddN (a := 100 * (p / 4)) (b := 10 * ((p) % (4))) dX10_mend_157 ?_
                    refine wa_iload dX10_mend_158 1 rfl ?_
                    refine wa_iaddN (a := 100 * (p / 4) + (10 * ((p) % (4)))) (b := x) dX10_mend_160 ?_
                    refine wa_cVi (x_tells (nI (dst (C.1 18) (w * h) s u)) (nI (100 * (p / 4) + 10 * (p % 4) + x))) vX10_tells iX10_mend_161 (rfl) rfl rfl rfl (Nat.le_of_ble_eq_true rfl) ⟨by decide, by decide⟩ ?_
                    refine wa_iret dX10_mend_164 rfl ?_
                    exact Or.inr ⟨p, x, u, N6, hp2, by omega, c_104, fun p2 h2 => hno p2 h2, fun x2 h2 => hnx x2 h2, hIs, rfl, hF6, rfl⟩
          exact L_95 _ 0 _ (Nat.lt_succ_self _) (Nat.zero_le _) hF (fun x2 h2 => absurd h2 (Nat.not_lt_zero _))
        · refine wa_aload_n dX10_mend_65 rfl 2 rfl ?_
          refine wa_getr gX10_mend_66 (rfl) rfl ?_
          refine wa_iload_n dX10_mend_69 rfl 0 rfl ?_
          refine wa_ialdN (e := (p) / (4)) dX10_mend_70 (rfl) (by omega) (by decide) ?_
          refine wa_eqi (y := (C.1 20 (p / 4))) (by rw [hF.1 105 (by decide) (by decide) (by decide)]; exact x105 _ (by omega)) ?_
          refine wa_iload_n dX10_mend_71 rfl 1 rfl ?_
          refine wa_iconst (4) dX10_mend_72 (by decide) ?_
          refine wa_iremN (a := p) (b := 4) dX10_mend_73 (by omega) (by omega) (by omega) ?_
          refine wa_icmp_eq 81 dX10_mend_74 (by decide) (fun c_74 => ?_) (fun c_74 => ?_)
          · refine wa_iconst (0) dX10_mend_81 (by decide) ?_
            refine wa_eqi (y := (wB (mdM C (p / 4) (p % 4)))) (by unfold mdM; first | (rw [decide_eq_true c_62]; rfl) | (rw [decide_eq_false c_62, decide_eq_true c_74]; rfl) | (rw [decide_eq_false c_62, decide_eq_false c_74]; rfl)) ?_
            refine wa_istore [(4, .int (wB (mdM C (p / 4) (p % 4)))), (3, .int (nI ((p) / (4)))), (2, .int (nI (p))), (0, wm_r G (96)), (1, .int (nI (l)))] dX10_mend_82 (by decide) rfl ?_
            refine wa_aload_n dX10_mend_84 rfl 3 rfl ?_
            refine wa_getr gX10_mend_85 (rfl) rfl ?_
            refine wa_iload_n dX10_mend_88 rfl 2 rfl ?_
            refine wa_ialdN (e := p) dX10_mend_89 (rfl) (by omega) (by decide) ?_
            refine wa_eqi (y := (C.1 19 p)) (by rw [hF.1 104 (by decide) (by decide) (by decide)]; exact x104 _ (by omega)) ?_
            refine wa_istore [(5, .int (C.1 19 p)), (4, .int (wB (mdM C (p / 4) (p % 4)))), (3, .int (nI ((p) / (4)))), (2, .int (nI (p))), (0, wm_r G (96)), (1, .int (nI (l)))] dX10_mend_90 (by decide) rfl ?_
            refine wa_iconst (0) dX10_mend_92 (by decide) ?_
            refine wa_istore [(6, .int (0)), (5, .int (C.1 19 p)), (4, .int (wB (mdM C (p / 4) (p % 4)))), (3, .int (nI ((p) / (4)))), (2, .int (nI (p))), (0, wm_r G (96)), (1, .int (nI (l)))] dX10_mend_93 (by decide) rfl ?_
            have L_95 : ∀ (n_ : Nat) (x : Nat) (O : wm_M), (8 - x) < n_ → (x ≤ 8) → (FrN M O) → (∀ x2, x2 < x → NrNo (mdC C p x2) w h (2 ^ l)) → WA G t_X10_mend (MxQ C M w h s l) 95 [(6, .int (nI (x))), (5, .int (C.1 19 p)), (4, .int (wB (mdM C (p / 4) (p % 4)))), (3, .int (nI (p / 4))), (2, .int (nI (p))), (0, wm_r G (96)), (1, .int (nI (l)))] [] (O) := by
              intro n_
              induction n_ with
              | zero => intro x O h_; exact absurd h_ (Nat.not_lt_zero _)
              | succ n_ ih_95 =>
                intro x O h_ hx hF hnx
                have hp2 : p < 4 * (w * h) := c_48
                refine wa_iload dX10_mend_95 0 rfl ?_
                refine wa_bipush (8) dX10_mend_97 (by decide) ?_
                refine wa_icmp_geN (a := x) (b := 8) 171 dX10_mend_99 (by decide) (by omega) (by omega) (fun c_99 => ?_) (fun c_99 => ?_)
                · refine wa_iinc ((nI (p + 1))) [(2, .int (nI (p + 1))), (6, .int (nI (x))), (5, .int (C.1 19 p)), (4, .int (wB (mdM C (p / 4) (p % 4)))), (3, .int (nI (p / 4))), (0, wm_r G (96)), (1, .int (nI (l)))] dX10_mend_171 4 rfl (nI_inc _) (by decide) rfl ?_
                  refine wa_goto 41 dX10_mend_174 (by decide) ?_
                  refine wa_sub [0, 5, 6] rfl ?_
                  exact ih_41 (p + 1) _ (by omega) (by omega) hF (fun p2 h2 hm x2 hx2 => by rcases Nat.lt_or_eq_of_le (Nat.le_of_lt_succ h2) with q | q; (exact hno p2 q hm x2 hx2); (subst q; first | exact hnx x2 (by omega) | (rw [c_104] at hm; cases hm)))
                · refine wa_iload dX10_mend_102 2 rfl ?_
                  refine wa_if_eqB 171 dX10_mend_104 (by decide) (fun (c_104 : (mdM C (p / 4) (p % 4)) = false) => ?_) (fun (c_104 : (mdM C (p / 4) (p % 4)) = true) => ?_)
                  · refine wa_iinc ((nI (p + 1))) [(2, .int (nI (p + 1))), (6, .int (nI (x))), (5, .int (C.1 19 p)), (4, .int (wB (mdM C (p / 4) (p % 4)))), (3, .int (nI (p / 4))), (0, wm_r G (96)), (1, .int (nI (l)))] dX10_mend_171 4 rfl (nI_inc _) (by decide) rfl ?_
                    refine wa_goto 41 dX10_mend_174 (by decide) ?_
                    refine wa_sub [0, 5, 6] rfl ?_
                    exact ih_41 (p + 1) _ (by omega) (by omega) hF (fun p2 h2 hm x2 hx2 => by rcases Nat.lt_or_eq_of_le (Nat.le_of_lt_succ h2) with q | q; (exact hno p2 q hm x2 hx2); (subst q; first | exact hnx x2 (by omega) | (rw [c_104] at hm; cases hm)))
                  · refine wa_aload_n dX10_mend_107 rfl 5 rfl ?_
                    refine wa_getr gX10_mend_108 (rfl) rfl ?_
                    refine wa_iload_n dX10_mend_111 rfl 4 rfl ?_
                    refine wa_iload dX10_mend_112 0 rfl ?_
                    refine wa_iastN (e := p) dX10_mend_114 (rfl) (by omega) (by decide) ?_
                    refine wa_aload_n dX10_mend_115 rfl 5 rfl ?_
                    refine wa_iconst (1) dX10_mend_116 (by decide) ?_
                    refine wa_iload_n dX10_mend_117 rfl 6 rfl ?_
                    refine wa_ishl dX10_mend_118 ?_
                    refine wa_eqi (y := (nI (2 ^ l))) (nI_pow _ (by omega)) ?_
                    refine wa_callV (x_near (M := wI O 104 p (nI x)) (mdC C p x) w h s (mdC_stn (hF.stn hX) hp2) (mdC_tw hW) (mdC_law (hF.law hXL)) (mdC_cl hCL) (mdC_cs hCS (by omega) c_104) (fun k hk => by rw [wI_c (by decide), hF.1 107 (by decide) (by decide) (by decide)]; exact hQ k hk) (mdC_had hs) (2 ^ l) (pow_l l hl)) vX10_nearest iX10_mend_119 (rfl) rfl rfl rfl (Nat.le_of_ble_eq_true rfl) ⟨by decide, by decide⟩ (fun v_ N5 h_ => ?_)
                    obtain ⟨b, rfl, hB, hF5, h114⟩ := h_
                    show WA G t_X10_mend (MxQ C M w h s l) 122 [(6, .int (nI (x))), (5, .int (C.1 19 p)), (4, .int (wB (mdM C (p / 4) (p % 4)))), (3, .int (nI (p / 4))), (2, .int (nI (p))), (0, wm_r G (96)), (1, .int (nI (l)))] [.int (b)] (N5)
                    refine wa_istore [(7, .int (b)), (6, .int (nI (x))), (5, .int (C.1 19 p)), (4, .int (wB (mdM C (p / 4) (p % 4)))), (3, .int (nI (p / 4))), (2, .int (nI (p))), (0, wm_r G (96)), (1, .int (nI (l)))] dX10_mend_122 (by decide) rfl ?_
                    refine wa_aload_n dX10_mend_124 rfl 6 rfl ?_
                    refine wa_getr gX10_mend_125 (rfl) rfl ?_
                    refine wa_iload_n dX10_mend_128 rfl 5 rfl ?_
                    refine wa_iload dX10_mend_129 2 rfl ?_
                    refine wa_iastN (e := p) dX10_mend_131 (rfl) (by omega) (by decide) ?_
                    refine wa_top (fun N6 e_N6 => ?_)
                    have hF6 : FrN M N6 := by rw [e_N6]; exact hF.back hF5 (x104 _ (by omega)).symm
                    have hN6 : N6.1 114 = N5.1 114 := by rw [e_N6, wI_c (by decide)]
                    refine wa_iload dX10_mend_132 0 rfl ?_
                    refine wa_bipush (-9) dX10_mend_134 (by decide) ?_
                    refine wa_icmp_eq 165 dX10_mend_136 (by decide) (fun c_136 => ?_) (fun c_136 => ?_)
                    · have hnx2 := bs_no hB hn6 c_136
                      refine wa_iinc ((nI (x + 1))) [(6, .int (nI (x + 1))), (7, .int (b)), (5, .int (C.1 19 p)), (4, .int (wB (mdM C (p / 4) (p % 4)))), (3, .int (nI (p / 4))), (2, .int (nI (p))), (0, wm_r G (96)), (1, .int (nI (l)))] dX10_mend_165 1 rfl (nI_inc _) (by decide) rfl ?_
                      refine wa_goto 95 dX10_mend_168 (by decide) ?_
                      refine wa_sub [0, 2, 3, 4, 5, 6, 7] rfl ?_
                      exact ih_95 (x + 1) _ (by omega) (by omega) hF6 (fun x2 h2 => by rcases Nat.lt_or_eq_of_le (Nat.le_of_lt_succ h2) with q | q; (exact hnx x2 q); (subst q; exact hnx2))
                    · obtain ⟨u, hu, eu, hIs⟩ := bs_is hB c_136
                      have hd18 := dst18 (kd := C.1 18) (s := s) (t := u) hn6
                      refine wa_aload_n dX10_mend_139 rfl 6 rfl ?_
                      refine wa_aload_n dX10_mend_140 rfl 6 rfl ?_
                      refine wa_getr gX10_mend_141 (rfl) rfl ?_
                      refine wa_iload dX10_mend_144 0 rfl ?_
                      refine wa_eqi (y := (nI (u))) (eu) ?_
                      refine wa_ialdN (e := u) dX10_mend_146 (rfl) (by omega) (by decide) ?_
                      refine wa_eqi (y := (nI (dst (C.1 18) (w * h) s u))) (by rw [hN6, h114 u hu, mdC_c (show 18 ≠ 19 by decide)]; exact tT_had (by have := hIs.1.2; rw [mdC_c (show 18 ≠ 19 by decide)] at this; exact this)) ?_
                      refine wa_bipush (100) dX10_mend_147 (by decide) ?_
                      refine wa_iload_n dX10_mend_149 rfl 4 rfl ?_
                      refine wa_imulN (a := 100) (b := p / 4) dX10_mend_150 ?_
                      refine wa_bipush (10) dX10_mend_151 (by decide) ?_
                      refine wa_iload_n dX10_mend_153 rfl 5 rfl ?_
                      refine wa_iconst (4) dX10_mend_154 (by decide) ?_
                      refine wa_iremN (a := p) (b := 4) dX10_mend_155 (by omega) (by omega) (by omega) ?_
                      refine wa_imulN (a := 10) (b := (p) % (4)) dX10_mend_156 ?_
                      refine wa_iaddN (a := 100 * (p / 4)) (b := 10 * ((p) % (4))) dX10_mend_157 ?_
                      refine wa_iload dX10_mend_158 1 rfl ?_
                      refine wa_iaddN (a := 100 * (p / 4) + (10 * ((p) % (4)))) (b := x) dX10_mend_160 ?_
                      refine wa_cVi (x_tells (nI (dst (C.1 18) (w * h) s u)) (nI (100 * (p / 4) + 10 * (p % 4) + x))) vX10_tells iX10_mend_161 (rfl) rfl rfl rfl (Nat.le_of_ble_eq_true rfl) ⟨by decide, by decide⟩ ?_
                      refine wa_iret dX10_mend_164 rfl ?_
                      exact Or.inr ⟨p, x, u, N6, hp2, by omega, c_104, fun p2 h2 => hno p2 h2, fun x2 h2 => hnx x2 h2, hIs, rfl, hF6, rfl⟩
            exact L_95 _ 0 _ (Nat.lt_succ_self _) (Nat.zero_le _) hF (fun x2 h2 => absurd h2 (Nat.not_lt_zero _))
          · refine wa_iconst (1) dX10_mend_77 (by decide) ?_
            refine wa_goto 82 dX10_mend_78 (by decide) ?_
            refine wa_eqi (y := (wB (mdM C (p / 4) (p % 4)))) (by unfold mdM; first | (rw [decide_eq_true c_62]; rfl) | (rw [decide_eq_false c_62, decide_eq_true c_74]; rfl) | (rw [decide_eq_false c_62, decide_eq_false c_74]; rfl)) ?_
            refine wa_istore [(4, .int (wB (mdM C (p / 4) (p % 4)))), (3, .int (nI ((p) / (4)))), (2, .int (nI (p))), (0, wm_r G (96)), (1, .int (nI (l)))] dX10_mend_82 (by decide) rfl ?_
            refine wa_aload_n dX10_mend_84 rfl 3 rfl ?_
            refine wa_getr gX10_mend_85 (rfl) rfl ?_
            refine wa_iload_n dX10_mend_88 rfl 2 rfl ?_
            refine wa_ialdN (e := p) dX10_mend_89 (rfl) (by omega) (by decide) ?_
            refine wa_eqi (y := (C.1 19 p)) (by rw [hF.1 104 (by decide) (by decide) (by decide)]; exact x104 _ (by omega)) ?_
            refine wa_istore [(5, .int (C.1 19 p)), (4, .int (wB (mdM C (p / 4) (p % 4)))), (3, .int (nI ((p) / (4)))), (2, .int (nI (p))), (0, wm_r G (96)), (1, .int (nI (l)))] dX10_mend_90 (by decide) rfl ?_
            refine wa_iconst (0) dX10_mend_92 (by decide) ?_
            refine wa_istore [(6, .int (0)), (5, .int (C.1 19 p)), (4, .int (wB (mdM C (p / 4) (p % 4)))), (3, .int (nI ((p) / (4)))), (2, .int (nI (p))), (0, wm_r G (96)), (1, .int (nI (l)))] dX10_mend_93 (by decide) rfl ?_
            have L_95 : ∀ (n_ : Nat) (x : Nat) (O : wm_M), (8 - x) < n_ → (x ≤ 8) → (FrN M O) → (∀ x2, x2 < x → NrNo (mdC C p x2) w h (2 ^ l)) → WA G t_X10_mend (MxQ C M w h s l) 95 [(6, .int (nI (x))), (5, .int (C.1 19 p)), (4, .int (wB (mdM C (p / 4) (p % 4)))), (3, .int (nI (p / 4))), (2, .int (nI (p))), (0, wm_r G (96)), (1, .int (nI (l)))] [] (O) := by
              intro n_
              induction n_ with
              | zero => intro x O h_; exact absurd h_ (Nat.not_lt_zero _)
              | succ n_ ih_95 =>
                intro x O h_ hx hF hnx
                have hp2 : p < 4 * (w * h) := c_48
                refine wa_iload dX10_mend_95 0 rfl ?_
                refine wa_bipush (8) dX10_mend_97 (by decide) ?_
                refine wa_icmp_geN (a := x) (b := 8) 171 dX10_mend_99 (by decide) (by omega) (by omega) (fun c_99 => ?_) (fun c_99 => ?_)
                · refine wa_iinc ((nI (p + 1))) [(2, .int (nI (p + 1))), (6, .int (nI (x))), (5, .int (C.1 19 p)), (4, .int (wB (mdM C (p / 4) (p % 4)))), (3, .int (nI (p / 4))), (0, wm_r G (96)), (1, .int (nI (l)))] dX10_mend_171 4 rfl (nI_inc _) (by decide) rfl ?_
                  refine wa_goto 41 dX10_mend_174 (by decide) ?_
                  refine wa_sub [0, 5, 6] rfl ?_
                  exact ih_41 (p + 1) _ (by omega) (by omega) hF (fun p2 h2 hm x2 hx2 => by rcases Nat.lt_or_eq_of_le (Nat.le_of_lt_succ h2) with q | q; (exact hno p2 q hm x2 hx2); (subst q; first | exact hnx x2 (by omega) | (rw [c_104] at hm; cases hm)))
                · refine wa_iload dX10_mend_102 2 rfl ?_
                  refine wa_if_eqB 171 dX10_mend_104 (by decide) (fun (c_104 : (mdM C (p / 4) (p % 4)) = false) => ?_) (fun (c_104 : (mdM C (p / 4) (p % 4)) = true) => ?_)
                  · refine wa_iinc ((nI (p + 1))) [(2, .int (nI (p + 1))), (6, .int (nI (x))), (5, .int (C.1 19 p)), (4, .int (wB (mdM C (p / 4) (p % 4)))), (3, .int (nI (p / 4))), (0, wm_r G (96)), (1, .int (nI (l)))] dX10_mend_171 4 rfl (nI_inc _) (by decide) rfl ?_
                    refine wa_goto 41 dX10_mend_174 (by decide) ?_
                    refine wa_sub [0, 5, 6] rfl ?_
                    exact ih_41 (p + 1) _ (by omega) (by omega) hF (fun p2 h2 hm x2 hx2 => by rcases Nat.lt_or_eq_of_le (Nat.le_of_lt_succ h2) with q | q; (exact hno p2 q hm x2 hx2); (subst q; first | exact hnx x2 (by omega) | (rw [c_104] at hm; cases hm)))
                  · refine wa_aload_n dX10_mend_107 rfl 5 rfl ?_
                    refine wa_getr gX10_mend_108 (rfl) rfl ?_
                    refine wa_iload_n dX10_mend_111 rfl 4 rfl ?_
                    refine wa_iload dX10_mend_112 0 rfl ?_
                    refine wa_iastN (e := p) dX10_mend_114 (rfl) (by omega) (by decide) ?_
                    refine wa_aload_n dX10_mend_115 rfl 5 rfl ?_
                    refine wa_iconst (1) dX10_mend_116 (by decide) ?_
                    refine wa_iload_n dX10_mend_117 rfl 6 rfl ?_
                    refine wa_ishl dX10_mend_118 ?_
                    refine wa_eqi (y := (nI (2 ^ l))) (nI_pow _ (by omega)) ?_
                    refine wa_callV (x_near (M := wI O 104 p (nI x)) (mdC C p x) w h s (mdC_stn (hF.stn hX) hp2) (mdC_tw hW) (mdC_law (hF.law hXL)) (mdC_cl hCL) (mdC_cs hCS (by omega) c_104) (fun k hk => by rw [wI_c (by decide), hF.1 107 (by decide) (by decide) (by decide)]; exact hQ k hk) (mdC_had hs) (2 ^ l) (pow_l l hl)) vX10_nearest iX10_mend_119 (rfl) rfl rfl rfl (Nat.le_of_ble_eq_true rfl) ⟨by decide, by decide⟩ (fun v_ N5 h_ => ?_)
                    obtain ⟨b, rfl, hB, hF5, h114⟩ := h_
                    show WA G t_X10_mend (MxQ C M w h s l) 122 [(6, .int (nI (x))), (5, .int (C.1 19 p)), (4, .int (wB (mdM C (p / 4) (p % 4)))), (3, .int (nI (p / 4))), (2, .int (nI (p))), (0, wm_r G (96)), (1, .int (nI (l)))] [.int (b)] (N5)
                    refine wa_istore [(7, .int (b)), (6, .int (nI (x))), (5, .int (C.1 19 p)), (4, .int (wB (mdM C (p / 4) (p % 4)))), (3, .int (nI (p / 4))), (2, .int (nI (p))), (0, wm_r G (96)), (1, .int (nI (l)))] dX10_mend_122 (by decide) rfl ?_
                    refine wa_aload_n dX10_mend_124 rfl 6 rfl ?_
                    refine wa_getr gX10_mend_125 (rfl) rfl ?_
                    refine wa_iload_n dX10_mend_128 rfl 5 rfl ?_
                    refine wa_iload dX10_mend_129 2 rfl ?_
                    refine wa_iastN (e := p) dX10_mend_131 (rfl) (by omega) (by decide) ?_
                    refine wa_top (fun N6 e_N6 => ?_)
                    have hF6 : FrN M N6 := by rw [e_N6]; exact hF.back hF5 (x104 _ (by omega)).symm
                    have hN6 : N6.1 114 = N5.1 114 := by rw [e_N6, wI_c (by decide)]
                    refine wa_iload dX10_mend_132 0 rfl ?_
                    refine wa_bipush (-9) dX10_mend_134 (by decide) ?_
                    refine wa_icmp_eq 165 dX10_mend_136 (by decide) (fun c_136 => ?_) (fun c_136 => ?_)
                    · have hnx2 := bs_no hB hn6 c_136
                      refine wa_iinc ((nI (x + 1))) [(6, .int (nI (x + 1))), (7, .int (b)), (5, .int (C.1 19 p)), (4, .int (wB (mdM C (p / 4) (p % 4)))), (3, .int (nI (p / 4))), (2, .int (nI (p))), (0, wm_r G (96)), (1, .int (nI (l)))] dX10_mend_165 1 rfl (nI_inc _) (by decide) rfl ?_
                      refine wa_goto 95 dX10_mend_168 (by decide) ?_
                      refine wa_sub [0, 2, 3, 4, 5, 6, 7] rfl ?_
                      exact ih_95 (x + 1) _ (by omega) (by omega) hF6 (fun x2 h2 => by rcases Nat.lt_or_eq_of_le (Nat.le_of_lt_succ h2) with q | q; (exact hnx x2 q); (subst q; exact hnx2))
                    · obtain ⟨u, hu, eu, hIs⟩ := bs_is hB c_136
                      have hd18 := dst18 (kd := C.1 18) (s := s) (t := u) hn6
                      refine wa_aload_n dX10_mend_139 rfl 6 rfl ?_
                      refine wa_aload_n dX10_mend_140 rfl 6 rfl ?_
                      refine wa_getr gX10_mend_141 (rfl) rfl ?_
                      refine wa_iload dX10_mend_144 0 rfl ?_
                      refine wa_eqi (y := (nI (u))) (eu) ?_
                      refine wa_ialdN (e := u) dX10_mend_146 (rfl) (by omega) (by decide) ?_
                      refine wa_eqi (y := (nI (dst (C.1 18) (w * h) s u))) (by rw [hN6, h114 u hu, mdC_c (show 18 ≠ 19 by decide)]; exact tT_had (by have := hIs.1.2; rw [mdC_c (show 18 ≠ 19 by decide)] at this; exact this)) ?_
                      refine wa_bipush (100) dX10_mend_147 (by decide) ?_
                      refine wa_iload_n dX10_mend_149 rfl 4 rfl ?_
                      refine wa_imulN (a := 100) (b := p / 4) dX10_mend_150 ?_
                      refine wa_bipush (10) dX10_mend_151 (by decide) ?_
                      refine wa_iload_n dX10_mend_153 rfl 5 rfl ?_
                      refine wa_iconst (4) dX10_mend_154 (by decide) ?_
                      refine wa_iremN (a := p) (b := 4) dX10_mend_155 (by omega) (by omega) (by omega) ?_
                      refine wa_imulN (a := 10) (b := (p) % (4)) dX10_mend_156 ?_
                      refine wa_iaddN (a := 100 * (p / 4)) (b := 10 * ((p) % (4))) dX10_mend_157 ?_
                      refine wa_iload dX10_mend_158 1 rfl ?_
                      refine wa_iaddN (a := 100 * (p / 4) + (10 * ((p) % (4)))) (b := x) dX10_mend_160 ?_
                      refine wa_cVi (x_tells (nI (dst (C.1 18) (w * h) s u)) (nI (100 * (p / 4) + 10 * (p % 4) + x))) vX10_tells iX10_mend_161 (rfl) rfl rfl rfl (Nat.le_of_ble_eq_true rfl) ⟨by decide, by decide⟩ ?_
                      refine wa_iret dX10_mend_164 rfl ?_
                      exact Or.inr ⟨p, x, u, N6, hp2, by omega, c_104, fun p2 h2 => hno p2 h2, fun x2 h2 => hnx x2 h2, hIs, rfl, hF6, rfl⟩
            exact L_95 _ 0 _ (Nat.lt_succ_self _) (Nat.zero_le _) hF (fun x2 h2 => absurd h2 (Nat.not_lt_zero _))
  exact L_41 _ 0 N0 (Nat.lt_succ_self _) (Nat.zero_le _) hF0 (fun p2 h2 => absurd h2 (Nat.not_lt_zero _))

theorem x_engr_bad1 {G : wm_G} {M : wm_M} (y st e r : Int32) (hy : wIn y 10 = false) : MD G t_X10_engrave [wm_r G (96), .int (y), .int (st), .int (e), .int (r)] (M) (some (.int (-1))) (M) := by
  refine wm_met (by decide) (Nat.le_of_ble_eq_true rfl) ?_
  show WA G t_X10_engrave (fun v_ N_ => v_ = some (.int (-1)) ∧ N_ = M) 0 [(0, wm_r G (96)), (1, .int (y)), (2, .int (st)), (3, .int (e)), (4, .int (r))] [] (M)
  refine wa_iload_n dX10_engrave_0 rfl 1 rfl ?_
  refine wa_iconst (0) dX10_engrave_1 (by decide) ?_
  refine wa_bipush (9) dX10_engrave_2 (by decide) ?_
  refine wa_cSi (x_in y 0 9) vX10_in iX10_engrave_4 rfl rfl (Nat.le_of_ble_eq_true rfl) ⟨by decide, by decide⟩ ?_
  refine wa_eqi (y := (0)) (by rw [show inC y 0 9 = wIn y 10 from inC_w (m := 9) (by decide) _, hy]; rfl) ?_
  refine wa_if_eq 35 dX10_engrave_7 (by decide) (fun c_7 => ?_) (fun c_7 => absurd c_7 (by decide))
  refine wa_iconst (-1) dX10_engrave_35 (by decide) ?_
  exact wa_iret dX10_engrave_36 rfl ⟨congrArg (fun z => some (Value.int z)) (rfl), rfl⟩

theorem x_engr_bad2 {G : wm_G} {M : wm_M} (C : wm_M) (w h : Nat) (hX : xStn C M w h) (hW : TW C w h) (y : Nat) (hy : y < 10) (st e r : Int32) (hb : (wIn st (w + h) && wIn e 2) = false) : MD G t_X10_engrave [wm_r G (96), .int (nI (y)), .int (st), .int (e), .int (r)] (M) (some (.int (-1))) (M) := by
  obtain ⟨x10, x11, x12, x103, x104, x105, x106⟩ := id hX
  have hn6 := TW_n hW
  have hw3 := hW.2.2.1
  have hh2 := hW.2.2.2
  refine wm_met (by decide) (Nat.le_of_ble_eq_true rfl) ?_
  show WA G t_X10_engrave (fun v_ N_ => v_ = some (.int (-1)) ∧ N_ = M) 0 [(0, wm_r G (96)), (1, .int (nI (y))), (2, .int (st)), (3, .int (e)), (4, .int (r))] [] (M)
  refine wa_iload_n dX10_engrave_0 rfl 1 rfl ?_
  refine wa_iconst (0) dX10_engrave_1 (by decide) ?_
  refine wa_bipush (9) dX10_engrave_2 (by decide) ?_
  refine wa_cSi (x_in (nI y) 0 9) vX10_in iX10_engrave_4 rfl rfl (Nat.le_of_ble_eq_true rfl) ⟨by decide, by decide⟩ ?_
  refine wa_eqi (y := (1)) (by rw [show inC (nI y) 0 9 = wIn (nI y) 10 from inC_w (m := 9) (by decide) _, wIn_nI (by omega), decide_eq_true hy]; rfl) ?_
  refine wa_if_eq 35 dX10_engrave_7 (by decide) (fun c_7 => absurd c_7 (by decide)) (fun c_7 => ?_)
  refine wa_aload_n dX10_engrave_10 rfl 0 rfl ?_
  refine wa_iload_n dX10_engrave_11 rfl 2 rfl ?_
  refine wa_cVi (x_isStreet C w h hX hW st) vX10_isStreet iX10_engrave_12 (rfl) rfl rfl rfl (Nat.le_of_ble_eq_true rfl) ⟨by decide, by decide⟩ ?_
  refine wa_if_eqB 35 dX10_engrave_15 (by decide) (fun (c_15 : (wIn st (w + h)) = false) => ?_) (fun (c_15 : (wIn st (w + h)) = true) => ?_)
  · refine wa_iconst (-1) dX10_engrave_35 (by decide) ?_
    exact wa_iret dX10_engrave_36 rfl ⟨congrArg (fun z => some (Value.int z)) (rfl), rfl⟩
  · refine wa_iload_n dX10_engrave_18 rfl 3 rfl ?_
    refine wa_iconst (0) dX10_engrave_19 (by decide) ?_
    refine wa_iconst (1) dX10_engrave_20 (by decide) ?_
    refine wa_cSi (x_in e 0 1) vX10_in iX10_engrave_21 rfl rfl (Nat.le_of_ble_eq_true rfl) ⟨by decide, by decide⟩ ?_
    refine wa_eqi (y := (wB (wIn e 2))) (congrArg wB (inC_w (m := 1) (by decide) e)) ?_
    refine wa_if_eqB 35 dX10_engrave_24 (by decide) (fun (c_24 : (wIn e 2) = false) => ?_) (fun (c_24 : (wIn e 2) = true) => ?_)
    · refine wa_iconst (-1) dX10_engrave_35 (by decide) ?_
      exact wa_iret dX10_engrave_36 rfl ⟨congrArg (fun z => some (Value.int z)) (rfl), rfl⟩
    · exact absurd hb (by rw [c_15, c_24]; decide)

theorem x_engr_bad3 {G : wm_G} {M : wm_M} (C : wm_M) (w h : Nat) (hX : xStn C M w h) (hW : TW C w h) (y : Nat) (hy : y < 10) (st e : Nat) (hst : st < w + h) (he : e < 2) (r : Int32) (hr : wIn r 6 = false) : MD G t_X10_engrave [wm_r G (96), .int (nI (y)), .int (nI (st)), .int (nI (e)), .int (r)] (M) (some (.int (-1))) (M) := by
  obtain ⟨x10, x11, x12, x103, x104, x105, x106⟩ := id hX
  have hn6 := TW_n hW
  have hw3 := hW.2.2.1
  have hh2 := hW.2.2.2
  refine wm_met (by decide) (Nat.le_of_ble_eq_true rfl) ?_
  show WA G t_X10_engrave (fun v_ N_ => v_ = some (.int (-1)) ∧ N_ = M) 0 [(0, wm_r G (96)), (1, .int (nI (y))), (2, .int (nI (st))), (3, .int (nI (e))), (4, .int (r))] [] (M)
  refine wa_iload_n dX10_engrave_0 rfl 1 rfl ?_
  refine wa_iconst (0) dX10_engrave_1 (by decide) ?_
  refine wa_bipush (9) dX10_engrave_2 (by decide) ?_
  refine wa_cSi (x_in (nI y) 0 9) vX10_in iX10_engrave_4 rfl rfl (Nat.le_of_ble_eq_true rfl) ⟨by decide, by decide⟩ ?_
  refine wa_eqi (y := (1)) (by rw [show inC (nI y) 0 9 = wIn (nI y) 10 from inC_w (m := 9) (by decide) _, wIn_nI (by omega), decide_eq_true hy]; rfl) ?_
  refine wa_if_eq 35 dX10_engrave_7 (by decide) (fun c_7 => absurd c_7 (by decide)) (fun c_7 => ?_)
  refine wa_aload_n dX10_engrave_10 rfl 0 rfl ?_
  refine wa_iload_n dX10_engrave_11 rfl 2 rfl ?_
  refine wa_cVi (x_isStreet C w h hX hW (nI st)) vX10_isStreet iX10_engrave_12 (rfl) rfl rfl rfl (Nat.le_of_ble_eq_true rfl) ⟨by decide, by decide⟩ ?_
  refine wa_eqi (y := (1)) (by rw [wIn_nI (by omega), decide_eq_true hst]; rfl) ?_
  refine wa_if_eq 35 dX10_engrave_15 (by decide) (fun c_15 => absurd c_15 (by decide)) (fun c_15 => ?_)
  refine wa_iload_n dX10_engrave_18 rfl 3 rfl ?_
  refine wa_iconst (0) dX10_engrave_19 (by decide) ?_
  refine wa_iconst (1) dX10_engrave_20 (by decide) ?_
  refine wa_cSi (x_in (nI e) 0 1) vX10_in iX10_engrave_21 rfl rfl (Nat.le_of_ble_eq_true rfl) ⟨by decide, by decide⟩ ?_
  refine wa_eqi (y := (1)) (by rw [show inC (nI e) 0 1 = wIn (nI e) 2 from inC_w (m := 1) (by decide) _, wIn_nI (by omega), decide_eq_true he]; rfl) ?_
  refine wa_if_eq 35 dX10_engrave_24 (by decide) (fun c_24 => absurd c_24 (by decide)) (fun c_24 => ?_)
  refine wa_iload dX10_engrave_27 4 rfl ?_
  refine wa_cSi (x_isRow r) vX10_isRow iX10_engrave_29 rfl rfl (Nat.le_of_ble_eq_true rfl) ⟨by decide, by decide⟩ ?_
  refine wa_eqi (y := (0)) (by rw [hr]; rfl) ?_
  refine wa_if_ne 37 dX10_engrave_32 (by decide) (fun c_32 => absurd c_32 (by decide)) (fun c_32 => ?_)
  refine wa_iconst (-1) dX10_engrave_35 (by decide) ?_
  exact wa_iret dX10_engrave_36 rfl ⟨congrArg (fun z => some (Value.int z)) (rfl), rfl⟩

theorem x_engr_no {G : wm_G} {M : wm_M} (C : wm_M) (w h : Nat) (hX : xStn C M w h) (hW : TW C w h) (y : Nat) (hy : y < 10) (st e : Nat) (hst : st < w + h) (he : e < 2) (r : Nat) (hr : r < 6) (hz : M.1 98 r = -1) : MD G t_X10_engrave [wm_r G (96), .int (nI (y)), .int (nI (st)), .int (nI (e)), .int (nI (r))] (M) (some (.int (-3))) (xNote M 1) := by
  obtain ⟨x10, x11, x12, x103, x104, x105, x106⟩ := id hX
  have hn6 := TW_n hW
  have hw3 := hW.2.2.1
  have hh2 := hW.2.2.2
  refine wm_met (by decide) (Nat.le_of_ble_eq_true rfl) ?_
  show WA G t_X10_engrave (fun v_ N_ => v_ = some (.int (-3)) ∧ N_ = xNote M 1) 0 [(0, wm_r G (96)), (1, .int (nI (y))), (2, .int (nI (st))), (3, .int (nI (e))), (4, .int (nI (r)))] [] (M)
  refine wa_iload_n dX10_engrave_0 rfl 1 rfl ?_
  refine wa_iconst (0) dX10_engrave_1 (by decide) ?_
  refine wa_bipush (9) dX10_engrave_2 (by decide) ?_
  refine wa_cSi (x_in (nI y) 0 9) vX10_in iX10_engrave_4 rfl rfl (Nat.le_of_ble_eq_true rfl) ⟨by decide, by decide⟩ ?_
  refine wa_eqi (y := (1)) (by rw [show inC (nI y) 0 9 = wIn (nI y) 10 from inC_w (m := 9) (by decide) _, wIn_nI (by omega), decide_eq_true hy]; rfl) ?_
  refine wa_if_eq 35 dX10_engrave_7 (by decide) (fun c_7 => absurd c_7 (by decide)) (fun c_7 => ?_)
  refine wa_aload_n dX10_engrave_10 rfl 0 rfl ?_
  refine wa_iload_n dX10_engrave_11 rfl 2 rfl ?_
  refine wa_cVi (x_isStreet C w h hX hW (nI st)) vX10_isStreet iX10_engrave_12 (rfl) rfl rfl rfl (Nat.le_of_ble_eq_true rfl) ⟨by decide, by decide⟩ ?_
  refine wa_eqi (y := (1)) (by rw [wIn_nI (by omega), decide_eq_true hst]; rfl) ?_
  refine wa_if_eq 35 dX10_engrave_15 (by decide) (fun c_15 => absurd c_15 (by decide)) (fun c_15 => ?_)
  refine wa_iload_n dX10_engrave_18 rfl 3 rfl ?_
  refine wa_iconst (0) dX10_engrave_19 (by decide) ?_
  refine wa_iconst (1) dX10_engrave_20 (by decide) ?_
  refine wa_cSi (x_in (nI e) 0 1) vX10_in iX10_engrave_21 rfl rfl (Nat.le_of_ble_eq_true rfl) ⟨by decide, by decide⟩ ?_
  refine wa_eqi (y := (1)) (by rw [show inC (nI e) 0 1 = wIn (nI e) 2 from inC_w (m := 1) (by decide) _, wIn_nI (by omega), decide_eq_true he]; rfl) ?_
  refine wa_if_eq 35 dX10_engrave_24 (by decide) (fun c_24 => absurd c_24 (by decide)) (fun c_24 => ?_)
  refine wa_iload dX10_engrave_27 4 rfl ?_
  refine wa_cSi (x_isRow (nI r)) vX10_isRow iX10_engrave_29 rfl rfl (Nat.le_of_ble_eq_true rfl) ⟨by decide, by decide⟩ ?_
  refine wa_eqi (y := (1)) (by rw [wIn_nI (by omega), decide_eq_true (by omega)]; rfl) ?_
  refine wa_if_ne 37 dX10_engrave_32 (by decide) (fun c_32 => ?_) (fun c_32 => absurd c_32 (by decide))
  refine wa_aload_n dX10_engrave_37 rfl 0 rfl ?_
  refine wa_getr gX10_engrave_38 (rfl) rfl ?_
  refine wa_iload dX10_engrave_41 4 rfl ?_
  refine wa_ialdN (e := r) dX10_engrave_43 (rfl) (by omega) (by decide) ?_
  refine wa_eqi (y := (-1)) (hz) ?_
  refine wa_if_ge 53 dX10_engrave_44 (by decide) (fun c_44 => absurd c_44 (by decide)) (fun c_44 => ?_)
  refine wa_aload_n dX10_engrave_47 rfl 0 rfl ?_
  refine wa_iconst (1) dX10_engrave_48 (by decide) ?_
  refine wa_cVi (x_meets 1 (by decide) (by decide)) vX10_meets iX10_engrave_49 (rfl) rfl rfl rfl (Nat.le_of_ble_eq_true rfl) ⟨by decide, by decide⟩ ?_
  exact wa_iret dX10_engrave_52 rfl ⟨congrArg (fun z => some (Value.int z)) (rfl), rfl⟩

theorem x_engr_size {G : wm_G} {M : wm_M} (C : wm_M) (w h : Nat) (hX : xStn C M w h) (hW : TW C w h) (y : Nat) (hy : y < 10) (st e : Nat) (hst : st < w + h) (he : e < 2) (r : Nat) (hr : r < 6) (z : Nat) (hz1 : M.1 98 r = nI z) (hz9 : z ≤ 60) (hne : ¬ z = sLen w h st) : MD G t_X10_engrave [wm_r G (96), .int (nI (y)), .int (nI (st)), .int (nI (e)), .int (nI (r))] (M) (some (.int (-3))) (xNote M 5) := by
  obtain ⟨x10, x11, x12, x103, x104, x105, x106⟩ := id hX
  have hn6 := TW_n hW
  have hw3 := hW.2.2.1
  have hh2 := hW.2.2.2
  have hlen : sLen w h st ≤ 3 := by unfold sLen; split <;> omega
  refine wm_met (by decide) (Nat.le_of_ble_eq_true rfl) ?_
  show WA G t_X10_engrave (fun v_ N_ => v_ = some (.int (-3)) ∧ N_ = xNote M 5) 0 [(0, wm_r G (96)), (1, .int (nI (y))), (2, .int (nI (st))), (3, .int (nI (e))), (4, .int (nI (r)))] [] (M)
  refine wa_iload_n dX10_engrave_0 rfl 1 rfl ?_
  refine wa_iconst (0) dX10_engrave_1 (by decide) ?_
  refine wa_bipush (9) dX10_engrave_2 (by decide) ?_
  refine wa_cSi (x_in (nI y) 0 9) vX10_in iX10_engrave_4 rfl rfl (Nat.le_of_ble_eq_true rfl) ⟨by decide, by decide⟩ ?_
  refine wa_eqi (y := (1)) (by rw [show inC (nI y) 0 9 = wIn (nI y) 10 from inC_w (m := 9) (by decide) _, wIn_nI (by omega), decide_eq_true hy]; rfl) ?_
  refine wa_if_eq 35 dX10_engrave_7 (by decide) (fun c_7 => absurd c_7 (by decide)) (fun c_7 => ?_)
  refine wa_aload_n dX10_engrave_10 rfl 0 rfl ?_
  refine wa_iload_n dX10_engrave_11 rfl 2 rfl ?_
  refine wa_cVi (x_isStreet C w h hX hW (nI st)) vX10_isStreet iX10_engrave_12 (rfl) rfl rfl rfl (Nat.le_of_ble_eq_true rfl) ⟨by decide, by decide⟩ ?_
  refine wa_eqi (y := (1)) (by rw [wIn_nI (by omega), decide_eq_true hst]; rfl) ?_
  refine wa_if_eq 35 dX10_engrave_15 (by decide) (fun c_15 => absurd c_15 (by decide)) (fun c_15 => ?_)
  refine wa_iload_n dX10_engrave_18 rfl 3 rfl ?_
  refine wa_iconst (0) dX10_engrave_19 (by decide) ?_
  refine wa_iconst (1) dX10_engrave_20 (by decide) ?_
  refine wa_cSi (x_in (nI e) 0 1) vX10_in iX10_engrave_21 rfl rfl (Nat.le_of_ble_eq_true rfl) ⟨by decide, by decide⟩ ?_
  refine wa_eqi (y := (1)) (by rw [show inC (nI e) 0 1 = wIn (nI e) 2 from inC_w (m := 1) (by decide) _, wIn_nI (by omega), decide_eq_true he]; rfl) ?_
  refine wa_if_eq 35 dX10_engrave_24 (by decide) (fun c_24 => absurd c_24 (by decide)) (fun c_24 => ?_)
  refine wa_iload dX10_engrave_27 4 rfl ?_
  refine wa_cSi (x_isRow (nI r)) vX10_isRow iX10_engrave_29 rfl rfl (Nat.le_of_ble_eq_true rfl) ⟨by decide, by decide⟩ ?_
  refine wa_eqi (y := (1)) (by rw [wIn_nI (by omega), decide_eq_true (by omega)]; rfl) ?_
  refine wa_if_ne 37 dX10_engrave_32 (by decide) (fun c_32 => ?_) (fun c_32 => absurd c_32 (by decide))
  refine wa_aload_n dX10_engrave_37 rfl 0 rfl ?_
  refine wa_getr gX10_engrave_38 (rfl) rfl ?_
  refine wa_iload dX10_engrave_41 4 rfl ?_
  refine wa_ialdN (e := r) dX10_engrave_43 (rfl) (by omega) (by decide) ?_
  refine wa_eqi (y := (nI (z))) (hz1) ?_
  refine wa_if_geN (a := z) 53 dX10_engrave_44 (by decide) (by omega) (fun c_44 => ?_) (fun c_44 => absurd c_44 (by omega))
  refine wa_aload_n dX10_engrave_53 rfl 0 rfl ?_
  refine wa_getr gX10_engrave_54 (rfl) rfl ?_
  refine wa_iload dX10_engrave_57 4 rfl ?_
  refine wa_ialdN (e := r) dX10_engrave_59 (rfl) (by omega) (by decide) ?_
  refine wa_eqi (y := (nI (z))) (hz1) ?_
  refine wa_aload_n dX10_engrave_60 rfl 0 rfl ?_
  refine wa_iload_n dX10_engrave_61 rfl 2 rfl ?_
  refine wa_cVi (x_longOf C w h hX hW st (by omega)) vX10_longOf iX10_engrave_62 (rfl) rfl rfl rfl (Nat.le_of_ble_eq_true rfl) ⟨by decide, by decide⟩ ?_
  refine wa_icmp_eqN (a := z) (b := sLen w h st) 74 dX10_engrave_65 (by decide) (by omega) (by omega) (fun c_65 => absurd c_65 hne) (fun c_65 => ?_)
  refine wa_aload_n dX10_engrave_68 rfl 0 rfl ?_
  refine wa_iconst (5) dX10_engrave_69 (by decide) ?_
  refine wa_cVi (x_meets 5 (by decide) (by decide)) vX10_meets iX10_engrave_70 (rfl) rfl rfl rfl (Nat.le_of_ble_eq_true rfl) ⟨by decide, by decide⟩ ?_
  exact wa_iret dX10_engrave_73 rfl ⟨congrArg (fun z => some (Value.int z)) (rfl), rfl⟩

theorem x_engr_un {G : wm_G} {M : wm_M} (C : wm_M) (w h : Nat) (hX : xStn C M w h) (hW : TW C w h) (y : Nat) (hy : y < 10) (st e : Nat) (hst : st < w + h) (he : e < 2) (r : Nat) (hr : r < 6) (z : Nat) (hz1 : M.1 98 r = nI z) (hz9 : z ≤ 60) (hze : z = sLen w h st) (hg : wAll (fun i => inC (M.1 99 (60 * r + i)) (-1) 7) z = false) : MD G t_X10_engrave [wm_r G (96), .int (nI (y)), .int (nI (st)), .int (nI (e)), .int (nI (r))] (M) (some (.int (-3))) (xNote M 3) := by
  obtain ⟨x10, x11, x12, x103, x104, x105, x106⟩ := id hX
  have hn6 := TW_n hW
  have hw3 := hW.2.2.1
  have hh2 := hW.2.2.2
  have hlen : sLen w h st ≤ 3 := by unfold sLen; split <;> omega
  refine wm_met (by decide) (Nat.le_of_ble_eq_true rfl) ?_
  show WA G t_X10_engrave (fun v_ N_ => v_ = some (.int (-3)) ∧ N_ = xNote M 3) 0 [(0, wm_r G (96)), (1, .int (nI (y))), (2, .int (nI (st))), (3, .int (nI (e))), (4, .int (nI (r)))] [] (M)
  refine wa_iload_n dX10_engrave_0 rfl 1 rfl ?_
  refine wa_iconst (0) dX10_engrave_1 (by decide) ?_
  refine wa_bipush (9) dX10_engrave_2 (by decide) ?_
  refine wa_cSi (x_in (nI y) 0 9) vX10_in iX10_engrave_4 rfl rfl (Nat.le_of_ble_eq_true rfl) ⟨by decide, by decide⟩ ?_
  refine wa_eqi (y := (1)) (by rw [show inC (nI y) 0 9 = wIn (nI y) 10 from inC_w (m := 9) (by decide) _, wIn_nI (by omega), decide_eq_true hy]; rfl) ?_
  refine wa_if_eq 35 dX10_engrave_7 (by decide) (fun c_7 => absurd c_7 (by decide)) (fun c_7 => ?_)
  refine wa_aload_n dX10_engrave_10 rfl 0 rfl ?_
  refine wa_iload_n dX10_engrave_11 rfl 2 rfl ?_
  refine wa_cVi (x_isStreet C w h hX hW (nI st)) vX10_isStreet iX10_engrave_12 (rfl) rfl rfl rfl (Nat.le_of_ble_eq_true rfl) ⟨by decide, by decide⟩ ?_
  refine wa_eqi (y := (1)) (by rw [wIn_nI (by omega), decide_eq_true hst]; rfl) ?_
  refine wa_if_eq 35 dX10_engrave_15 (by decide) (fun c_15 => absurd c_15 (by decide)) (fun c_15 => ?_)
  refine wa_iload_n dX10_engrave_18 rfl 3 rfl ?_
  refine wa_iconst (0) dX10_engrave_19 (by decide) ?_
  refine wa_iconst (1) dX10_engrave_20 (by decide) ?_
  refine wa_cSi (x_in (nI e) 0 1) vX10_in iX10_engrave_21 rfl rfl (Nat.le_of_ble_eq_true rfl) ⟨by decide, by decide⟩ ?_
  refine wa_eqi (y := (1)) (by rw [show inC (nI e) 0 1 = wIn (nI e) 2 from inC_w (m := 1) (by decide) _, wIn_nI (by omega), decide_eq_true he]; rfl) ?_
  refine wa_if_eq 35 dX10_engrave_24 (by decide) (fun c_24 => absurd c_24 (by decide)) (fun c_24 => ?_)
  refine wa_iload dX10_engrave_27 4 rfl ?_
  refine wa_cSi (x_isRow (nI r)) vX10_isRow iX10_engrave_29 rfl rfl (Nat.le_of_ble_eq_true rfl) ⟨by decide, by decide⟩ ?_
  refine wa_eqi (y := (1)) (by rw [wIn_nI (by omega), decide_eq_true (by omega)]; rfl) ?_
  refine wa_if_ne 37 dX10_engrave_32 (by decide) (fun c_32 => ?_) (fun c_32 => absurd c_32 (by decide))
  refine wa_aload_n dX10_engrave_37 rfl 0 rfl ?_
  refine wa_getr gX10_engrave_38 (rfl) rfl ?_
  refine wa_iload dX10_engrave_41 4 rfl ?_
  refine wa_ialdN (e := r) dX10_engrave_43 (rfl) (by omega) (by decide) ?_
  refine wa_eqi (y := (nI (z))) (hz1) ?_
  refine wa_if_geN (a := z) 53 dX10_engrave_44 (by decide) (by omega) (fun c_44 => ?_) (fun c_44 => absurd c_44 (by omega))
  refine wa_aload_n dX10_engrave_53 rfl 0 rfl ?_
  refine wa_getr gX10_engrave_54 (rfl) rfl ?_
  refine wa_iload dX10_engrave_57 4 rfl ?_
  refine wa_ialdN (e := r) dX10_engrave_59 (rfl) (by omega) (by decide) ?_
  refine wa_eqi (y := (nI (z))) (hz1) ?_
  refine wa_aload_n dX10_engrave_60 rfl 0 rfl ?_
  refine wa_iload_n dX10_engrave_61 rfl 2 rfl ?_
  refine wa_cVi (x_longOf C w h hX hW st (by omega)) vX10_longOf iX10_engrave_62 (rfl) rfl rfl rfl (Nat.le_of_ble_eq_true rfl) ⟨by decide, by decide⟩ ?_
  refine wa_icmp_eqN (a := z) (b := sLen w h st) 74 dX10_engrave_65 (by decide) (by omega) (by omega) (fun c_65 => ?_) (fun c_65 => absurd hze c_65)
  refine wa_iconst (1) dX10_engrave_74 (by decide) ?_
  refine wa_eqi (y := (wB (wAll (fun i => inC (M.1 99 (60 * r + i)) (-1) 7) 0))) (rfl) ?_
  refine wa_istore [(5, .int (wB (wAll (fun i => inC (M.1 99 (60 * r + i)) (-1) 7) 0))), (0, wm_r G (96)), (1, .int (nI (y))), (2, .int (nI (st))), (3, .int (nI (e))), (4, .int (nI (r)))] dX10_engrave_75 (by decide) rfl ?_
  refine wa_iconst (0) dX10_engrave_77 (by decide) ?_
  refine wa_istore [(6, .int (0)), (5, .int (wB (wAll (fun i => inC (M.1 99 (60 * r + i)) (-1) 7) 0))), (0, wm_r G (96)), (1, .int (nI (y))), (2, .int (nI (st))), (3, .int (nI (e))), (4, .int (nI (r)))] dX10_engrave_78 (by decide) rfl ?_
  have L_80 : ∀ (n_ : Nat) (i : Nat), (z - i) < n_ → (i ≤ z) → WA G t_X10_engrave (fun v_ N_ => v_ = some (.int (-3)) ∧ N_ = xNote M 3) 80 [(6, .int (nI (i))), (5, .int (wB (wAll (fun i => inC (M.1 99 (60 * r + i)) (-1) 7) i))), (0, wm_r G (96)), (1, .int (nI (y))), (2, .int (nI (st))), (3, .int (nI (e))), (4, .int (nI (r)))] [] (M) := by
    intro n_
    induction n_ with
    | zero => intro i h_; exact absurd h_ (Nat.not_lt_zero _)
    | succ n_ ih_80 =>
      intro i h_ hi
      refine wa_iload dX10_engrave_80 0 rfl ?_
      refine wa_aload_n dX10_engrave_82 rfl 2 rfl ?_
      refine wa_getr gX10_engrave_83 (rfl) rfl ?_
      refine wa_iload dX10_engrave_86 6 rfl ?_
      refine wa_ialdN (e := r) dX10_engrave_88 (rfl) (by omega) (by decide) ?_
      refine wa_eqi (y := (nI (z))) (hz1) ?_
      refine wa_icmp_geN (a := i) (b := z) 127 dX10_engrave_89 (by decide) (by omega) (by omega) (fun c_89 => ?_) (fun c_89 => ?_)
      · refine wa_iload dX10_engrave_127 1 rfl ?_
        refine wa_if_neB 138 dX10_engrave_129 (by decide) (fun c_129 => absurd c_129 (by rw [show i = z by omega, hg]; decide)) (fun c_129 => ?_)
        refine wa_aload_n dX10_engrave_132 rfl 2 rfl ?_
        refine wa_iconst (3) dX10_engrave_133 (by decide) ?_
        refine wa_cVi (x_meets 3 (by decide) (by decide)) vX10_meets iX10_engrave_134 (rfl) rfl rfl rfl (Nat.le_of_ble_eq_true rfl) ⟨by decide, by decide⟩ ?_
        exact wa_iret dX10_engrave_137 rfl ⟨congrArg (fun z => some (Value.int z)) (rfl), rfl⟩
      · refine wa_iload dX10_engrave_92 1 rfl ?_
        refine wa_if_eqB 118 dX10_engrave_94 (by decide) (fun (c_94 : (wAll (fun i => inC (M.1 99 (60 * r + i)) (-1) 7) i) = false) => ?_) (fun (c_94 : (wAll (fun i => inC (M.1 99 (60 * r + i)) (-1) 7) i) = true) => ?_)
        · refine wa_iconst (0) dX10_engrave_118 (by decide) ?_
          refine wa_eqi (y := (wB (wAll (fun i => inC (M.1 99 (60 * r + i)) (-1) 7) (i + 1)))) (by rw [wAll_s]; first | (rw [c_94]; rfl) | (rw [c_94, c_111]; rfl)) ?_
          refine wa_istore [(5, .int (wB (wAll (fun i => inC (M.1 99 (60 * r + i)) (-1) 7) (i + 1)))), (6, .int (nI (i))), (0, wm_r G (96)), (1, .int (nI (y))), (2, .int (nI (st))), (3, .int (nI (e))), (4, .int (nI (r)))] dX10_engrave_119 (by decide) rfl ?_
          refine wa_iinc ((nI (i + 1))) [(6, .int (nI (i + 1))), (5, .int (wB (wAll (fun i => inC (M.1 99 (60 * r + i)) (-1) 7) (i + 1)))), (0, wm_r G (96)), (1, .int (nI (y))), (2, .int (nI (st))), (3, .int (nI (e))), (4, .int (nI (r)))] dX10_engrave_121 1 rfl (nI_inc _) (by decide) rfl ?_
          refine wa_goto 80 dX10_engrave_124 (by decide) ?_
          exact ih_80 (i + 1) (by omega) (by omega)
        · refine wa_aload_n dX10_engrave_97 rfl 2 rfl ?_
          refine wa_iload dX10_engrave_98 6 rfl ?_
          refine wa_iload dX10_engrave_100 0 rfl ?_
          refine wa_cVi (x_rowAt r i hr (by omega)) vX10_rowAt iX10_engrave_102 (rfl) rfl rfl rfl (Nat.le_of_ble_eq_true rfl) ⟨by decide, by decide⟩ ?_
          refine wa_iconst (-1) dX10_engrave_105 (by decide) ?_
          refine wa_bipush (7) dX10_engrave_106 (by decide) ?_
          refine wa_cSi (x_in (M.1 99 (60 * r + i)) (-1) 7) vX10_in iX10_engrave_108 rfl rfl (Nat.le_of_ble_eq_true rfl) ⟨by decide, by decide⟩ ?_
          refine wa_if_eqB 118 dX10_engrave_111 (by decide) (fun (c_111 : (inC (M.1 99 (60 * r + i)) (-1) 7) = false) => ?_) (fun (c_111 : (inC (M.1 99 (60 * r + i)) (-1) 7) = true) => ?_)
          · refine wa_iconst (0) dX10_engrave_118 (by decide) ?_
            refine wa_eqi (y := (wB (wAll (fun i => inC (M.1 99 (60 * r + i)) (-1) 7) (i + 1)))) (by rw [wAll_s]; first | (rw [c_94]; rfl) | (rw [c_94, c_111]; rfl)) ?_
            refine wa_istore [(5, .int (wB (wAll (fun i => inC (M.1 99 (60 * r + i)) (-1) 7) (i + 1)))), (6, .int (nI (i))), (0, wm_r G (96)), (1, .int (nI (y))), (2, .int (nI (st))), (3, .int (nI (e))), (4, .int (nI (r)))] dX10_engrave_119 (by decide) rfl ?_
            refine wa_iinc ((nI (i + 1))) [(6, .int (nI (i + 1))), (5, .int (wB (wAll (fun i => inC (M.1 99 (60 * r + i)) (-1) 7) (i + 1)))), (0, wm_r G (96)), (1, .int (nI (y))), (2, .int (nI (st))), (3, .int (nI (e))), (4, .int (nI (r)))] dX10_engrave_121 1 rfl (nI_inc _) (by decide) rfl ?_
            refine wa_goto 80 dX10_engrave_124 (by decide) ?_
            exact ih_80 (i + 1) (by omega) (by omega)
          · refine wa_iconst (1) dX10_engrave_114 (by decide) ?_
            refine wa_goto 119 dX10_engrave_115 (by decide) ?_
            refine wa_eqi (y := (wB (wAll (fun i => inC (M.1 99 (60 * r + i)) (-1) 7) (i + 1)))) (by rw [wAll_s]; first | (rw [c_94]; rfl) | (rw [c_94, c_111]; rfl)) ?_
            refine wa_istore [(5, .int (wB (wAll (fun i => inC (M.1 99 (60 * r + i)) (-1) 7) (i + 1)))), (6, .int (nI (i))), (0, wm_r G (96)), (1, .int (nI (y))), (2, .int (nI (st))), (3, .int (nI (e))), (4, .int (nI (r)))] dX10_engrave_119 (by decide) rfl ?_
            refine wa_iinc ((nI (i + 1))) [(6, .int (nI (i + 1))), (5, .int (wB (wAll (fun i => inC (M.1 99 (60 * r + i)) (-1) 7) (i + 1)))), (0, wm_r G (96)), (1, .int (nI (y))), (2, .int (nI (st))), (3, .int (nI (e))), (4, .int (nI (r)))] dX10_engrave_121 1 rfl (nI_inc _) (by decide) rfl ?_
            refine wa_goto 80 dX10_engrave_124 (by decide) ?_
            exact ih_80 (i + 1) (by omega) (by omega)
  exact L_80 _ 0 (Nat.lt_succ_self _) (Nat.zero_le _)

theorem x_engr_full {G : wm_G} {M : wm_M} (C : wm_M) (w h : Nat) (hX : xStn C M w h) (hW : TW C w h) (y : Nat) (hy : y < 10) (st e : Nat) (hst : st < w + h) (he : e < 2) (r : Nat) (hr : r < 6) (z : Nat) (hz1 : M.1 98 r = nI z) (hz9 : z ≤ 60) (hze : z = sLen w h st) (hg : wAll (fun i => inC (M.1 99 (60 * r + i)) (-1) 7) z = true) (rn : Nat) (h36 : M.1 96 36 = nI rn) (hf : rn = 4) : MD G t_X10_engrave [wm_r G (96), .int (nI (y)), .int (nI (st)), .int (nI (e)), .int (nI (r))] (M) (some (.int (-2))) (M) := by
  obtain ⟨x10, x11, x12, x103, x104, x105, x106⟩ := id hX
  have hn6 := TW_n hW
  have hw3 := hW.2.2.1
  have hh2 := hW.2.2.2
  have hlen : sLen w h st ≤ 3 := by unfold sLen; split <;> omega
  refine wm_met (by decide) (Nat.le_of_ble_eq_true rfl) ?_
  show WA G t_X10_engrave (fun v_ N_ => v_ = some (.int (-2)) ∧ N_ = M) 0 [(0, wm_r G (96)), (1, .int (nI (y))), (2, .int (nI (st))), (3, .int (nI (e))), (4, .int (nI (r)))] [] (M)
  refine wa_iload_n dX10_engrave_0 rfl 1 rfl ?_
  refine wa_iconst (0) dX10_engrave_1 (by decide) ?_
  refine wa_bipush (9) dX10_engrave_2 (by decide) ?_
  refine wa_cSi (x_in (nI y) 0 9) vX10_in iX10_engrave_4 rfl rfl (Nat.le_of_ble_eq_true rfl) ⟨by decide, by decide⟩ ?_
  refine wa_eqi (y := (1)) (by rw [show inC (nI y) 0 9 = wIn (nI y) 10 from inC_w (m := 9) (by decide) _, wIn_nI (by omega), decide_eq_true hy]; rfl) ?_
  refine wa_if_eq 35 dX10_engrave_7 (by decide) (fun c_7 => absurd c_7 (by decide)) (fun c_7 => ?_)
  refine wa_aload_n dX10_engrave_10 rfl 0 rfl ?_
  refine wa_iload_n dX10_engrave_11 rfl 2 rfl ?_
  refine wa_cVi (x_isStreet C w h hX hW (nI st)) vX10_isStreet iX10_engrave_12 (rfl) rfl rfl rfl (Nat.le_of_ble_eq_true rfl) ⟨by decide, by decide⟩ ?_
  refine wa_eqi (y := (1)) (by rw [wIn_nI (by omega), decide_eq_true hst]; rfl) ?_
  refine wa_if_eq 35 dX10_engrave_15 (by decide) (fun c_15 => absurd c_15 (by decide)) (fun c_15 => ?_)
  refine wa_iload_n dX10_engrave_18 rfl 3 rfl ?_
  refine wa_iconst (0) dX10_engrave_19 (by decide) ?_
  refine wa_iconst (1) dX10_engrave_20 (by decide) ?_
  refine wa_cSi (x_in (nI e) 0 1) vX10_in iX10_engrave_21 rfl rfl (Nat.le_of_ble_eq_true rfl) ⟨by decide, by decide⟩ ?_
  refine wa_eqi (y := (1)) (by rw [show inC (nI e) 0 1 = wIn (nI e) 2 from inC_w (m := 1) (by decide) _, wIn_nI (by omega), decide_eq_true he]; rfl) ?_
  refine wa_if_eq 35 dX10_engrave_24 (by decide) (fun c_24 => absurd c_24 (by decide)) (fun c_24 => ?_)
  refine wa_iload dX10_engrave_27 4 rfl ?_
  refine wa_cSi (x_isRow (nI r)) vX10_isRow iX10_engrave_29 rfl rfl (Nat.le_of_ble_eq_true rfl) ⟨by decide, by decide⟩ ?_
  refine wa_eqi (y := (1)) (by rw [wIn_nI (by omega), decide_eq_true (by omega)]; rfl) ?_
  refine wa_if_ne 37 dX10_engrave_32 (by decide) (fun c_32 => ?_) (fun c_32 => absurd c_32 (by decide))
  refine wa_aload_n dX10_engrave_37 rfl 0 rfl ?_
  refine wa_getr gX10_engrave_38 (rfl) rfl ?_
  refine wa_iload dX10_engrave_41 4 rfl ?_
  refine wa_ialdN (e := r) dX10_engrave_43 (rfl) (by omega) (by decide) ?_
  refine wa_eqi (y := (nI (z))) (hz1) ?_
  refine wa_if_geN (a := z) 53 dX10_engrave_44 (by decide) (by omega) (fun c_44 => ?_) (fun c_44 => absurd c_44 (by omega))
  refine wa_aload_n dX10_engrave_53 rfl 0 rfl ?_
  refine wa_getr gX10_engrave_54 (rfl) rfl ?_
  refine wa_iload dX10_engrave_57 4 rfl ?_
  refine wa_ialdN (e := r) dX10_engrave_59 (rfl) (by omega) (by decide) ?_
  refine wa_eqi (y := (nI (z))) (hz1) ?_
  refine wa_aload_n dX10_engrave_60 rfl 0 rfl ?_
  refine wa_iload_n dX10_engrave_61 rfl 2 rfl ?_
  refine wa_cVi (x_longOf C w h hX hW st (by omega)) vX10_longOf iX10_engrave_62 (rfl) rfl rfl rfl (Nat.le_of_ble_eq_true rfl) ⟨by decide, by decide⟩ ?_
  refine wa_icmp_eqN (a := z) (b := sLen w h st) 74 dX10_engrave_65 (by decide) (by omega) (by omega) (fun c_65 => ?_) (fun c_65 => absurd hze c_65)
  refine wa_iconst (1) dX10_engrave_74 (by decide) ?_
  refine wa_eqi (y := (wB (wAll (fun i => inC (M.1 99 (60 * r + i)) (-1) 7) 0))) (rfl) ?_
  refine wa_istore [(5, .int (wB (wAll (fun i => inC (M.1 99 (60 * r + i)) (-1) 7) 0))), (0, wm_r G (96)), (1, .int (nI (y))), (2, .int (nI (st))), (3, .int (nI (e))), (4, .int (nI (r)))] dX10_engrave_75 (by decide) rfl ?_
  refine wa_iconst (0) dX10_engrave_77 (by decide) ?_
  refine wa_istore [(6, .int (0)), (5, .int (wB (wAll (fun i => inC (M.1 99 (60 * r + i)) (-1) 7) 0))), (0, wm_r G (96)), (1, .int (nI (y))), (2, .int (nI (st))), (3, .int (nI (e))), (4, .int (nI (r)))] dX10_engrave_78 (by decide) rfl ?_
  have L_80 : ∀ (n_ : Nat) (i : Nat), (z - i) < n_ → (i ≤ z) → WA G t_X10_engrave (fun v_ N_ => v_ = some (.int (-2)) ∧ N_ = M) 80 [(6, .int (nI (i))), (5, .int (wB (wAll (fun i => inC (M.1 99 (60 * r + i)) (-1) 7) i))), (0, wm_r G (96)), (1, .int (nI (y))), (2, .int (nI (st))), (3, .int (nI (e))), (4, .int (nI (r)))] [] (M) := by
    intro n_
    induction n_ with
    | zero => intro i h_; exact absurd h_ (Nat.not_lt_zero _)
    | succ n_ ih_80 =>
      intro i h_ hi
      refine wa_iload dX10_engrave_80 0 rfl ?_
      refine wa_aload_n dX10_engrave_82 rfl 2 rfl ?_
      refine wa_getr gX10_engrave_83 (rfl) rfl ?_
      refine wa_iload dX10_engrave_86 6 rfl ?_
      refine wa_ialdN (e := r) dX10_engrave_88 (rfl) (by omega) (by decide) ?_
      refine wa_eqi (y := (nI (z))) (hz1) ?_
      refine wa_icmp_geN (a := i) (b := z) 127 dX10_engrave_89 (by decide) (by omega) (by omega) (fun c_89 => ?_) (fun c_89 => ?_)
      · refine wa_iload dX10_engrave_127 1 rfl ?_
        refine wa_if_neB 138 dX10_engrave_129 (by decide) (fun c_129 => ?_) (fun c_129 => absurd c_129 (by rw [show i = z by omega, hg]; decide))
        refine wa_aload_n dX10_engrave_138 rfl 2 rfl ?_
        refine wa_geti gX10_engrave_139 (rfl) rfl ?_
        refine wa_eqi (y := (nI (rn))) (h36) ?_
        refine wa_iconst (4) dX10_engrave_142 (by decide) ?_
        refine wa_icmp_neN (a := rn) (b := 4) 149 dX10_engrave_143 (by decide) (by omega) (by omega) (fun c_143 => absurd hf c_143) (fun c_143 => ?_)
        refine wa_bipush (-2) dX10_engrave_146 (by decide) ?_
        exact wa_iret dX10_engrave_148 rfl ⟨congrArg (fun z => some (Value.int z)) (rfl), rfl⟩
      · refine wa_iload dX10_engrave_92 1 rfl ?_
        refine wa_if_eqB 118 dX10_engrave_94 (by decide) (fun (c_94 : (wAll (fun i => inC (M.1 99 (60 * r + i)) (-1) 7) i) = false) => ?_) (fun (c_94 : (wAll (fun i => inC (M.1 99 (60 * r + i)) (-1) 7) i) = true) => ?_)
        · refine wa_iconst (0) dX10_engrave_118 (by decide) ?_
          refine wa_eqi (y := (wB (wAll (fun i => inC (M.1 99 (60 * r + i)) (-1) 7) (i + 1)))) (by rw [wAll_s]; first | (rw [c_94]; rfl) | (rw [c_94, c_111]; rfl)) ?_
          refine wa_istore [(5, .int (wB (wAll (fun i => inC (M.1 99 (60 * r + i)) (-1) 7) (i + 1)))), (6, .int (nI (i))), (0, wm_r G (96)), (1, .int (nI (y))), (2, .int (nI (st))), (3, .int (nI (e))), (4, .int (nI (r)))] dX10_engrave_119 (by decide) rfl ?_
          refine wa_iinc ((nI (i + 1))) [(6, .int (nI (i + 1))), (5, .int (wB (wAll (fun i => inC (M.1 99 (60 * r + i)) (-1) 7) (i + 1)))), (0, wm_r G (96)), (1, .int (nI (y))), (2, .int (nI (st))), (3, .int (nI (e))), (4, .int (nI (r)))] dX10_engrave_121 1 rfl (nI_inc _) (by decide) rfl ?_
          refine wa_goto 80 dX10_engrave_124 (by decide) ?_
          exact ih_80 (i + 1) (by omega) (by omega)
        · refine wa_aload_n dX10_engrave_97 rfl 2 rfl ?_
          refine wa_iload dX10_engrave_98 6 rfl ?_
          refine wa_iload dX10_engrave_100 0 rfl ?_
          refine wa_cVi (x_rowAt r i hr (by omega)) vX10_rowAt iX10_engrave_102 (rfl) rfl rfl rfl (Nat.le_of_ble_eq_true rfl) ⟨by decide, by decide⟩ ?_
          refine wa_iconst (-1) dX10_engrave_105 (by decide) ?_
          refine wa_bipush (7) dX10_engrave_106 (by decide) ?_
          refine wa_cSi (x_in (M.1 99 (60 * r + i)) (-1) 7) vX10_in iX10_engrave_108 rfl rfl (Nat.le_of_ble_eq_true rfl) ⟨by decide, by decide⟩ ?_
          refine wa_if_eqB 118 dX10_engrave_111 (by decide) (fun (c_111 : (inC (M.1 99 (60 * r + i)) (-1) 7) = false) => ?_) (fun (c_111 : (inC (M.1 99 (60 * r + i)) (-1) 7) = true) => ?_)
          · refine wa_iconst (0) dX10_engrave_118 (by decide) ?_
            refine wa_eqi (y := (wB (wAll (fun i => inC (M.1 99 (60 * r + i)) (-1) 7) (i + 1)))) (by rw [wAll_s]; first | (rw [c_94]; rfl) | (rw [c_94, c_111]; rfl)) ?_
            refine wa_istore [(5, .int (wB (wAll (fun i => inC (M.1 99 (60 * r + i)) (-1) 7) (i + 1)))), (6, .int (nI (i))), (0, wm_r G (96)), (1, .int (nI (y))), (2, .int (nI (st))), (3, .int (nI (e))), (4, .int (nI (r)))] dX10_engrave_119 (by decide) rfl ?_
            refine wa_iinc ((nI (i + 1))) [(6, .int (nI (i + 1))), (5, .int (wB (wAll (fun i => inC (M.1 99 (60 * r + i)) (-1) 7) (i + 1)))), (0, wm_r G (96)), (1, .int (nI (y))), (2, .int (nI (st))), (3, .int (nI (e))), (4, .int (nI (r)))] dX10_engrave_121 1 rfl (nI_inc _) (by decide) rfl ?_
            refine wa_goto 80 dX10_engrave_124 (by decide) ?_
            exact ih_80 (i + 1) (by omega) (by omega)
          · refine wa_iconst (1) dX10_engrave_114 (by decide) ?_
            refine wa_goto 119 dX10_engrave_115 (by decide) ?_
            refine wa_eqi (y := (wB (wAll (fun i => inC (M.1 99 (60 * r + i)) (-1) 7) (i + 1)))) (by rw [wAll_s]; first | (rw [c_94]; rfl) | (rw [c_94, c_111]; rfl)) ?_
            refine wa_istore [(5, .int (wB (wAll (fun i => inC (M.1 99 (60 * r + i)) (-1) 7) (i + 1)))), (6, .int (nI (i))), (0, wm_r G (96)), (1, .int (nI (y))), (2, .int (nI (st))), (3, .int (nI (e))), (4, .int (nI (r)))] dX10_engrave_119 (by decide) rfl ?_
            refine wa_iinc ((nI (i + 1))) [(6, .int (nI (i + 1))), (5, .int (wB (wAll (fun i => inC (M.1 99 (60 * r + i)) (-1) 7) (i + 1)))), (0, wm_r G (96)), (1, .int (nI (y))), (2, .int (nI (st))), (3, .int (nI (e))), (4, .int (nI (r)))] dX10_engrave_121 1 rfl (nI_inc _) (by decide) rfl ?_
            refine wa_goto 80 dX10_engrave_124 (by decide) ?_
            exact ih_80 (i + 1) (by omega) (by omega)
  exact L_80 _ 0 (Nat.lt_succ_self _) (Nat.zero_le _)

theorem x_engr_ok {G : wm_G} {M : wm_M} (C : wm_M) (w h : Nat) (hX : xStn C M w h) (hW : TW C w h) (y : Nat) (hy : y < 10) (st e : Nat) (hst : st < w + h) (he : e < 2) (r : Nat) (hr : r < 6) (z : Nat) (hz1 : M.1 98 r = nI z) (hz9 : z ≤ 60) (hze : z = sLen w h st) (hg : wAll (fun i => inC (M.1 99 (60 * r + i)) (-1) 7) z = true) (rn : Nat) (h36 : M.1 96 36 = nI rn) (hf : rn < 4) : MD G t_X10_engrave [wm_r G (96), .int (nI (y)), .int (nI (st)), .int (nI (e)), .int (nI (r))] (M) (some (.int (nI (rn)))) (exM M rn y st e (fun i => if i < z then M.1 99 (60 * r + i) else 0)) := by
  obtain ⟨x10, x11, x12, x103, x104, x105, x106⟩ := id hX
  have hn6 := TW_n hW
  have hw3 := hW.2.2.1
  have hh2 := hW.2.2.2
  have hlen : sLen w h st ≤ 3 := by unfold sLen; split <;> omega
  refine wm_met (by decide) (Nat.le_of_ble_eq_true rfl) ?_
  show WA G t_X10_engrave (fun v_ N_ => v_ = some (.int (nI (rn))) ∧ N_ = exM M rn y st e (fun i => if i < z then M.1 99 (60 * r + i) else 0)) 0 [(0, wm_r G (96)), (1, .int (nI (y))), (2, .int (nI (st))), (3, .int (nI (e))), (4, .int (nI (r)))] [] (M)
  refine wa_iload_n dX10_engrave_0 rfl 1 rfl ?_
  refine wa_iconst (0) dX10_engrave_1 (by decide) ?_
  refine wa_bipush (9) dX10_engrave_2 (by decide) ?_
  refine wa_cSi (x_in (nI y) 0 9) vX10_in iX10_engrave_4 rfl rfl (Nat.le_of_ble_eq_true rfl) ⟨by decide, by decide⟩ ?_
  refine wa_eqi (y := (1)) (by rw [show inC (nI y) 0 9 = wIn (nI y) 10 from inC_w (m := 9) (by decide) _, wIn_nI (by omega), decide_eq_true hy]; rfl) ?_
  refine wa_if_eq 35 dX10_engrave_7 (by decide) (fun c_7 => absurd c_7 (by decide)) (fun c_7 => ?_)
  refine wa_aload_n dX10_engrave_10 rfl 0 rfl ?_
  refine wa_iload_n dX10_engrave_11 rfl 2 rfl ?_
  refine wa_cVi (x_isStreet C w h hX hW (nI st)) vX10_isStreet iX10_engrave_12 (rfl) rfl rfl rfl (Nat.le_of_ble_eq_true rfl) ⟨by decide, by decide⟩ ?_
  refine wa_eqi (y := (1)) (by rw [wIn_nI (by omega), decide_eq_true hst]; rfl) ?_
  refine wa_if_eq 35 dX10_engrave_15 (by decide) (fun c_15 => absurd c_15 (by decide)) (fun c_15 => ?_)
  refine wa_iload_n dX10_engrave_18 rfl 3 rfl ?_
  refine wa_iconst (0) dX10_engrave_19 (by decide) ?_
  refine wa_iconst (1) dX10_engrave_20 (by decide) ?_
  refine wa_cSi (x_in (nI e) 0 1) vX10_in iX10_engrave_21 rfl rfl (Nat.le_of_ble_eq_true rfl) ⟨by decide, by decide⟩ ?_
  refine wa_eqi (y := (1)) (by rw [show inC (nI e) 0 1 = wIn (nI e) 2 from inC_w (m := 1) (by decide) _, wIn_nI (by omega), decide_eq_true he]; rfl) ?_
  refine wa_if_eq 35 dX10_engrave_24 (by decide) (fun c_24 => absurd c_24 (by decide)) (fun c_24 => ?_)
  refine wa_iload dX10_engrave_27 4 rfl ?_
  refine wa_cSi (x_isRow (nI r)) vX10_isRow iX10_engrave_29 rfl rfl (Nat.le_of_ble_eq_true rfl) ⟨by decide, by decide⟩ ?_
  refine wa_eqi (y := (1)) (by rw [wIn_nI (by omega), decide_eq_true (by omega)]; rfl) ?_
  refine wa_if_ne 37 dX10_engrave_32 (by decide) (fun c_32 => ?_) (fun c_32 => absurd c_32 (by decide))
  refine wa_aload_n dX10_engrave_37 rfl 0 rfl ?_
  refine wa_getr gX10_engrave_38 (rfl) rfl ?_
  refine wa_iload dX10_engrave_41 4 rfl ?_
  refine wa_ialdN (e := r) dX10_engrave_43 (rfl) (by omega) (by decide) ?_
  refine wa_eqi (y := (nI (z))) (hz1) ?_
  refine wa_if_geN (a := z) 53 dX10_engrave_44 (by decide) (by omega) (fun c_44 => ?_) (fun c_44 => absurd c_44 (by omega))
  refine wa_aload_n dX10_engrave_53 rfl 0 rfl ?_
  refine wa_getr gX10_engrave_54 (rfl) rfl ?_
  refine wa_iload dX10_engrave_57 4 rfl ?_
  refine wa_ialdN (e := r) dX10_engrave_59 (rfl) (by omega) (by decide) ?_
  refine wa_eqi (y := (nI (z))) (hz1) ?_
  refine wa_aload_n dX10_engrave_60 rfl 0 rfl ?_
  refine wa_iload_n dX10_engrave_61 rfl 2 rfl ?_
  refine wa_cVi (x_longOf C w h hX hW st (by omega)) vX10_longOf iX10_engrave_62 (rfl) rfl rfl rfl (Nat.le_of_ble_eq_true rfl) ⟨by decide, by decide⟩ ?_
  refine wa_icmp_eqN (a := z) (b := sLen w h st) 74 dX10_engrave_65 (by decide) (by omega) (by omega) (fun c_65 => ?_) (fun c_65 => absurd hze c_65)
  refine wa_iconst (1) dX10_engrave_74 (by decide) ?_
  refine wa_eqi (y := (wB (wAll (fun i => inC (M.1 99 (60 * r + i)) (-1) 7) 0))) (rfl) ?_
  refine wa_istore [(5, .int (wB (wAll (fun i => inC (M.1 99 (60 * r + i)) (-1) 7) 0))), (0, wm_r G (96)), (1, .int (nI (y))), (2, .int (nI (st))), (3, .int (nI (e))), (4, .int (nI (r)))] dX10_engrave_75 (by decide) rfl ?_
  refine wa_iconst (0) dX10_engrave_77 (by decide) ?_
  refine wa_istore [(6, .int (0)), (5, .int (wB (wAll (fun i => inC (M.1 99 (60 * r + i)) (-1) 7) 0))), (0, wm_r G (96)), (1, .int (nI (y))), (2, .int (nI (st))), (3, .int (nI (e))), (4, .int (nI (r)))] dX10_engrave_78 (by decide) rfl ?_
  have L_80 : ∀ (n_ : Nat) (i : Nat), (z - i) < n_ → (i ≤ z) → WA G t_X10_engrave (fun v_ N_ => v_ = some (.int (nI (rn))) ∧ N_ = exM M rn y st e (fun i => if i < z then M.1 99 (60 * r + i) else 0)) 80 [(6, .int (nI (i))), (5, .int (wB (wAll (fun i => inC (M.1 99 (60 * r + i)) (-1) 7) i))), (0, wm_r G (96)), (1, .int (nI (y))), (2, .int (nI (st))), (3, .int (nI (e))), (4, .int (nI (r)))] [] (M) := by
    intro n_
    induction n_ with
    | zero => intro i h_; exact absurd h_ (Nat.not_lt_zero _)
    | succ n_ ih_80 =>
      intro i h_ hi
      refine wa_iload dX10_engrave_80 0 rfl ?_
      refine wa_aload_n dX10_engrave_82 rfl 2 rfl ?_
      refine wa_getr gX10_engrave_83 (rfl) rfl ?_
      refine wa_iload dX10_engrave_86 6 rfl ?_
      refine wa_ialdN (e := r) dX10_engrave_88 (rfl) (by omega) (by decide) ?_
      refine wa_eqi (y := (nI (z))) (hz1) ?_
      refine wa_icmp_geN (a := i) (b := z) 127 dX10_engrave_89 (by decide) (by omega) (by omega) (fun c_89 => ?_) (fun c_89 => ?_)
      · refine wa_iload dX10_engrave_127 1 rfl ?_
        refine wa_if_neB 138 dX10_engrave_129 (by decide) (fun c_129 => ?_) (fun c_129 => absurd c_129 (by rw [show i = z by omega, hg]; decide))
        refine wa_aload_n dX10_engrave_138 rfl 2 rfl ?_
        refine wa_geti gX10_engrave_139 (rfl) rfl ?_
        refine wa_eqi (y := (nI (rn))) (h36) ?_
        refine wa_iconst (4) dX10_engrave_142 (by decide) ?_
        refine wa_icmp_neN (a := rn) (b := 4) 149 dX10_engrave_143 (by decide) (by omega) (by omega) (fun c_143 => ?_) (fun c_143 => absurd c_143 (by omega))
        refine wa_bipush (6) dX10_engrave_149 (by decide) ?_
        refine wa_aload_n dX10_engrave_151 rfl 2 rfl ?_
        refine wa_geti gX10_engrave_152 (rfl) rfl ?_
        refine wa_eqi (y := (nI (rn))) (h36) ?_
        refine wa_imulN (a := 6) (b := rn) dX10_engrave_155 ?_
        refine wa_istore [(6, .int (nI (6 * rn))), (5, .int (wB (wAll (fun i => inC (M.1 99 (60 * r + i)) (-1) 7) i))), (0, wm_r G (96)), (1, .int (nI (y))), (2, .int (nI (st))), (3, .int (nI (e))), (4, .int (nI (r)))] dX10_engrave_156 (by decide) rfl ?_
        refine wa_aload_n dX10_engrave_158 rfl 2 rfl ?_
        refine wa_getr gX10_engrave_159 (rfl) rfl ?_
        refine wa_iload dX10_engrave_162 0 rfl ?_
        refine wa_iload_n dX10_engrave_164 rfl 3 rfl ?_
        refine wa_iastN (e := 6 * rn) dX10_engrave_165 (rfl) (by omega) (by decide) ?_
        refine wa_aload_n dX10_engrave_166 rfl 2 rfl ?_
        refine wa_getr gX10_engrave_167 (rfl) rfl ?_
        refine wa_iload dX10_engrave_170 0 rfl ?_
        refine wa_iconst (1) dX10_engrave_172 (by decide) ?_
        refine wa_iaddN (a := 6 * rn) (b := 1) dX10_engrave_173 ?_
        refine wa_iload_n dX10_engrave_174 rfl 4 rfl ?_
        refine wa_iastN (e := 6 * rn + 1) dX10_engrave_175 (rfl) (by omega) (by decide) ?_
        refine wa_aload_n dX10_engrave_176 rfl 2 rfl ?_
        refine wa_getr gX10_engrave_177 (rfl) rfl ?_
        refine wa_iload dX10_engrave_180 0 rfl ?_
        refine wa_iconst (2) dX10_engrave_182 (by decide) ?_
        refine wa_iaddN (a := 6 * rn) (b := 2) dX10_engrave_183 ?_
        refine wa_iload_n dX10_engrave_184 rfl 5 rfl ?_
        refine wa_iastN (e := 6 * rn + 2) dX10_engrave_185 (rfl) (by omega) (by decide) ?_
        refine wa_eqm (M' := wIa M 119 (upd (upd (upd (M.1 119) (6 * rn) (nI y)) (6 * rn + 1) (nI st)) (6 * rn + 2) (nI e))) (wI3) ?_
        refine wa_iconst (0) dX10_engrave_186 (by decide) ?_
        refine wa_istore [(7, .int (0)), (6, .int (nI (6 * rn))), (5, .int (wB (wAll (fun i => inC (M.1 99 (60 * r + i)) (-1) 7) i))), (0, wm_r G (96)), (1, .int (nI (y))), (2, .int (nI (st))), (3, .int (nI (e))), (4, .int (nI (r)))] dX10_engrave_187 (by decide) rfl ?_
        have L_189 : ∀ (n_ : Nat) (j : Nat), (3 - j) < n_ → (j ≤ 3) → WA G t_X10_engrave (fun v_ N_ => v_ = some (.int (nI (rn))) ∧ N_ = exM M rn y st e (fun i => if i < z then M.1 99 (60 * r + i) else 0)) 189 [(7, .int (nI (j))), (6, .int (nI (6 * rn))), (0, wm_r G (96)), (4, .int (nI (r)))] [] (wIa (wIa M 119 (upd (upd (upd (M.1 119) (6 * rn) (nI y)) (6 * rn + 1) (nI st)) (6 * rn + 2) (nI e))) 119 (sgF (upd (upd (upd (M.1 119) (6 * rn) (nI y)) (6 * rn + 1) (nI st)) (6 * rn + 2) (nI e)) (fun i => if i < z then M.1 99 (60 * r + i) else 0) (6 * rn + 3) (j))) := by
          intro n_
          induction n_ with
          | zero => intro j h_; exact absurd h_ (Nat.not_lt_zero _)
          | succ n_ ih_189 =>
            intro j h_ hj
            refine wa_iload dX10_engrave_189 0 rfl ?_
            refine wa_iconst (3) dX10_engrave_191 (by decide) ?_
            refine wa_icmp_geN (a := j) (b := 3) 237 dX10_engrave_192 (by decide) (by omega) (by omega) (fun c_192 => ?_) (fun c_192 => ?_)
            · refine wa_aload_n dX10_engrave_237 rfl 2 rfl ?_
              refine wa_dup dX10_engrave_238 rfl ?_
              refine wa_geti gX10_engrave_239 (rfl) rfl ?_
              refine wa_eqi (y := (nI (rn))) (by rw [wIa_n (by decide), wIa_n (by decide)]; exact h36) ?_
              refine wa_iconst (1) dX10_engrave_242 (by decide) ?_
              refine wa_iaddN (a := rn) (b := 1) dX10_engrave_243 ?_
              refine wa_puti gX10_engrave_244 (rfl) rfl ?_
              refine wa_aload_n dX10_engrave_247 rfl 2 rfl ?_
              refine wa_geti gX10_engrave_248 (rfl) rfl ?_
              refine wa_eqi (y := (nI (rn + 1))) (wI_at) ?_
              refine wa_iconst (1) dX10_engrave_251 (by decide) ?_
              refine wa_isubN (a := rn + 1) (b := 1) dX10_engrave_252 (by omega) ?_
              exact wa_iret dX10_engrave_253 rfl ⟨congrArg (fun z => some (Value.int z)) (rfl), by rw [show j = 3 by omega, wIa_wIa]; rfl⟩
            · refine wa_aload_n dX10_engrave_195 rfl 2 rfl ?_
              refine wa_getr gX10_engrave_196 (rfl) rfl ?_
              refine wa_iload dX10_engrave_199 1 rfl ?_
              refine wa_iconst (3) dX10_engrave_201 (by decide) ?_
              refine wa_iaddN (a := 6 * rn) (b := 3) dX10_engrave_202 ?_
              refine wa_iload dX10_engrave_203 0 rfl ?_
              refine wa_iaddN (a := 6 * rn + 3) (b := j) dX10_engrave_205 ?_
              refine wa_iload dX10_engrave_206 0 rfl ?_
              refine wa_aload_n dX10_engrave_208 rfl 2 rfl ?_
              refine wa_getr gX10_engrave_209 (rfl) rfl ?_
              refine wa_iload dX10_engrave_212 3 rfl ?_
              refine wa_ialdN (e := r) dX10_engrave_214 (rfl) (by omega) (by decide) ?_
              refine wa_eqi (y := (nI (z))) (by rw [wIa_n (by decide), wIa_n (by decide)]; exact hz1) ?_
              refine wa_icmp_geN (a := j) (b := z) 229 dX10_engrave_215 (by decide) (by omega) (by omega) (fun c_215 => ?_) (fun c_215 => ?_)
              · refine wa_iconst (0) dX10_engrave_229 (by decide) ?_
                refine wa_iastN (e := 6 * rn + 3 + j) dX10_engrave_230 (rfl) (by omega) (by decide) ?_
                refine wa_eqm (M' := wIa (wIa M 119 (upd (upd (upd (M.1 119) (6 * rn) (nI y)) (6 * rn + 1) (nI st)) (6 * rn + 2) (nI e))) 119 (sgF (upd (upd (upd (M.1 119) (6 * rn) (nI y)) (6 * rn + 1) (nI st)) (6 * rn + 2) (nI e)) (fun i => if i < z then M.1 99 (60 * r + i) else 0) (6 * rn + 3) (j + 1))) (wI_wIa.trans (congrArg (wIa _ 119) (sgF_s (f := upd (upd (upd (M.1 119) (6 * rn) (nI y)) (6 * rn + 1) (nI st)) (6 * rn + 2) (nI e)) (g := (fun i => if i < z then M.1 99 (60 * r + i) else 0)) (a := 6 * rn + 3) (n := j) (by first | (show _ = (if j < z then _ else _); rw [if_pos (show j < z by omega)]; done) | (show _ = (if j < z then _ else _); rw [if_neg (show ¬ j < z by omega)]; done))))) ?_
                refine wa_iinc ((nI (j + 1))) [(7, .int (nI (j + 1))), (6, .int (nI (6 * rn))), (0, wm_r G (96)), (4, .int (nI (r)))] dX10_engrave_231 0 rfl (nI_inc _) (by decide) rfl ?_
                refine wa_goto 189 dX10_engrave_234 (by decide) ?_
                exact ih_189 (j + 1) (by omega) (by omega)
              · refine wa_aload_n dX10_engrave_218 rfl 2 rfl ?_
                refine wa_iload dX10_engrave_219 3 rfl ?_
                refine wa_iload dX10_engrave_221 0 rfl ?_
                refine wa_cVi (x_rowAt (M := wIa (wIa M 119 (upd (upd (upd (M.1 119) (6 * rn) (nI y)) (6 * rn + 1) (nI st)) (6 * rn + 2) (nI e))) 119 (sgF (upd (upd (upd (M.1 119) (6 * rn) (nI y)) (6 * rn + 1) (nI st)) (6 * rn + 2) (nI e)) (fun i => if i < z then M.1 99 (60 * r + i) else 0) (6 * rn + 3) (j))) r j hr (by omega)) vX10_rowAt iX10_engrave_223 (rfl) rfl rfl rfl (Nat.le_of_ble_eq_true rfl) ⟨by decide, by decide⟩ ?_
                refine wa_eqi (y := (M.1 99 (60 * r + j))) (by rw [wIa_n (by decide), wIa_n (by decide)]) ?_
                refine wa_goto 230 dX10_engrave_226 (by decide) ?_
                refine wa_iastN (e := 6 * rn + 3 + j) dX10_engrave_230 (rfl) (by omega) (by decide) ?_
                refine wa_eqm (M' := wIa (wIa M 119 (upd (upd (upd (M.1 119) (6 * rn) (nI y)) (6 * rn + 1) (nI st)) (6 * rn + 2) (nI e))) 119 (sgF (upd (upd (upd (M.1 119) (6 * rn) (nI y)) (6 * rn + 1) (nI st)) (6 * rn + 2) (nI e)) (fun i => if i < z then M.1 99 (60 * r + i) else 0) (6 * rn + 3) (j + 1))) (wI_wIa.trans (congrArg (wIa _ 119) (sgF_s (f := upd (upd (upd (M.1 119) (6 * rn) (nI y)) (6 * rn + 1) (nI st)) (6 * rn + 2) (nI e)) (g := (fun i => if i < z then M.1 99 (60 * r + i) else 0)) (a := 6 * rn + 3) (n := j) (by first | (show _ = (if j < z then _ else _); rw [if_pos (show j < z by omega)]; done) | (show _ = (if j < z then _ else _); rw [if_neg (show ¬ j < z by omega)]; done))))) ?_
                refine wa_iinc ((nI (j + 1))) [(7, .int (nI (j + 1))), (6, .int (nI (6 * rn))), (0, wm_r G (96)), (4, .int (nI (r)))] dX10_engrave_231 0 rfl (nI_inc _) (by decide) rfl ?_
                refine wa_goto 189 dX10_engrave_234 (by decide) ?_
                exact ih_189 (j + 1) (by omega) (by omega)
        refine wa_sub [0, 1, 3, 7] rfl ?_
        refine wa_eqm (M' := wIa (wIa M 119 (upd (upd (upd (M.1 119) (6 * rn) (nI y)) (6 * rn + 1) (nI st)) (6 * rn + 2) (nI e))) 119 (sgF (upd (upd (upd (M.1 119) (6 * rn) (nI y)) (6 * rn + 1) (nI st)) (6 * rn + 2) (nI e)) (fun i => if i < z then M.1 99 (60 * r + i) else 0) (6 * rn + 3) (0))) (sg_start wIa_s) ?_
        exact L_189 _ 0 (Nat.lt_succ_self _) (Nat.zero_le _)
      · refine wa_iload dX10_engrave_92 1 rfl ?_
        refine wa_if_eqB 118 dX10_engrave_94 (by decide) (fun (c_94 : (wAll (fun i => inC (M.1 99 (60 * r + i)) (-1) 7) i) = false) => ?_) (fun (c_94 : (wAll (fun i => inC (M.1 99 (60 * r + i)) (-1) 7) i) = true) => ?_)
        · refine wa_iconst (0) dX10_engrave_118 (by decide) ?_
          refine wa_eqi (y := (wB (wAll (fun i => inC (M.1 99 (60 * r + i)) (-1) 7) (i + 1)))) (by rw [wAll_s]; first | (rw [c_94]; rfl) | (rw [c_94, c_111]; rfl)) ?_
          refine wa_istore [(5, .int (wB (wAll (fun i => inC (M.1 99 (60 * r + i)) (-1) 7) (i + 1)))), (6, .int (nI (i))), (0, wm_r G (96)), (1, .int (nI (y))), (2, .int (nI (st))), (3, .int (nI (e))), (4, .int (nI (r)))] dX10_engrave_119 (by decide) rfl ?_
          refine wa_iinc ((nI (i + 1))) [(6, .int (nI (i + 1))), (5, .int (wB (wAll (fun i => inC (M.1 99 (60 * r + i)) (-1) 7) (i + 1)))), (0, wm_r G (96)), (1, .int (nI (y))), (2, .int (nI (st))), (3, .int (nI (e))), (4, .int (nI (r)))] dX10_engrave_121 1 rfl (nI_inc _) (by decide) rfl ?_
          refine wa_goto 80 dX10_engrave_124 (by decide) ?_
          exact ih_80 (i + 1) (by omega) (by omega)
        · refine wa_aload_n dX10_engrave_97 rfl 2 rfl ?_
          refine wa_iload dX10_engrave_98 6 rfl ?_
          refine wa_iload dX10_engrave_100 0 rfl ?_
          refine wa_cVi (x_rowAt r i hr (by omega)) vX10_rowAt iX10_engrave_102 (rfl) rfl rfl rfl (Nat.le_of_ble_eq_true rfl) ⟨by decide, by decide⟩ ?_
          refine wa_iconst (-1) dX10_engrave_105 (by decide) ?_
          refine wa_bipush (7) dX10_engrave_106 (by decide) ?_
          refine wa_cSi (x_in (M.1 99 (60 * r + i)) (-1) 7) vX10_in iX10_engrave_108 rfl rfl (Nat.le_of_ble_eq_true rfl) ⟨by decide, by decide⟩ ?_
          refine wa_if_eqB 118 dX10_engrave_111 (by decide) (fun (c_111 : (inC (M.1 99 (60 * r + i)) (-1) 7) = false) => ?_) (fun (c_111 : (inC (M.1 99 (60 * r + i)) (-1) 7) = true) => ?_)
          · refine wa_iconst (0) dX10_engrave_118 (by decide) ?_
            refine wa_eqi (y := (wB (wAll (fun i => inC (M.1 99 (60 * r + i)) (-1) 7) (i + 1)))) (by rw [wAll_s]; first | (rw [c_94]; rfl) | (rw [c_94, c_111]; rfl)) ?_
            refine wa_istore [(5, .int (wB (wAll (fun i => inC (M.1 99 (60 * r + i)) (-1) 7) (i + 1)))), (6, .int (nI (i))), (0, wm_r G (96)), (1, .int (nI (y))), (2, .int (nI (st))), (3, .int (nI (e))), (4, .int (nI (r)))] dX10_engrave_119 (by decide) rfl ?_
            refine wa_iinc ((nI (i + 1))) [(6, .int (nI (i + 1))), (5, .int (wB (wAll (fun i => inC (M.1 99 (60 * r + i)) (-1) 7) (i + 1)))), (0, wm_r G (96)), (1, .int (nI (y))), (2, .int (nI (st))), (3, .int (nI (e))), (4, .int (nI (r)))] dX10_engrave_121 1 rfl (nI_inc _) (by decide) rfl ?_
            refine wa_goto 80 dX10_engrave_124 (by decide) ?_
            exact ih_80 (i + 1) (by omega) (by omega)
          · refine wa_iconst (1) dX10_engrave_114 (by decide) ?_
            refine wa_goto 119 dX10_engrave_115 (by decide) ?_
            refine wa_eqi (y := (wB (wAll (fun i => inC (M.1 99 (60 * r + i)) (-1) 7) (i + 1)))) (by rw [wAll_s]; first | (rw [c_94]; rfl) | (rw [c_94, c_111]; rfl)) ?_
            refine wa_istore [(5, .int (wB (wAll (fun i => inC (M.1 99 (60 * r + i)) (-1) 7) (i + 1)))), (6, .int (nI (i))), (0, wm_r G (96)), (1, .int (nI (y))), (2, .int (nI (st))), (3, .int (nI (e))), (4, .int (nI (r)))] dX10_engrave_119 (by decide) rfl ?_
            refine wa_iinc ((nI (i + 1))) [(6, .int (nI (i + 1))), (5, .int (wB (wAll (fun i => inC (M.1 99 (60 * r + i)) (-1) 7) (i + 1)))), (0, wm_r G (96)), (1, .int (nI (y))), (2, .int (nI (st))), (3, .int (nI (e))), (4, .int (nI (r)))] dX10_engrave_121 1 rfl (nI_inc _) (by decide) rfl ?_
            refine wa_goto 80 dX10_engrave_124 (by decide) ?_
            exact ih_80 (i + 1) (by omega) (by omega)
  exact L_80 _ 0 (Nat.lt_succ_self _) (Nat.zero_le _)

theorem x_lose_bad {G : wm_G} {M : wm_M} (rn : Nat) (h36 : M.1 96 36 = nI rn) (hr4 : rn ≤ 4) (n : Int32) (hn : wIn n (rn + 1) = false) : MD G t_X10_lose [wm_r G (96), .int (n)] (M) (some (.int (-1))) (M) := by
  refine wm_met (by decide) (Nat.le_of_ble_eq_true rfl) ?_
  show WA G t_X10_lose (fun v_ N_ => v_ = some (.int (-1)) ∧ N_ = M) 0 [(0, wm_r G (96)), (1, .int (n))] [] (M)
  refine wa_iload_n dX10_lose_0 rfl 1 rfl ?_
  refine wa_iconst (0) dX10_lose_1 (by decide) ?_
  refine wa_aload_n dX10_lose_2 rfl 0 rfl ?_
  refine wa_geti gX10_lose_3 (rfl) rfl ?_
  refine wa_eqi (y := (nI (rn))) (h36) ?_
  refine wa_cSi (x_in n 0 (nI rn)) vX10_in iX10_lose_6 rfl rfl (Nat.le_of_ble_eq_true rfl) ⟨by decide, by decide⟩ ?_
  refine wa_eqi (y := (0)) (by rw [inC_w (by omega), hn]; rfl) ?_
  refine wa_if_ne 14 dX10_lose_9 (by decide) (fun c_9 => absurd c_9 (by decide)) (fun c_9 => ?_)
  refine wa_iconst (-1) dX10_lose_12 (by decide) ?_
  exact wa_iret dX10_lose_13 rfl ⟨congrArg (fun z => some (Value.int z)) (rfl), rfl⟩

theorem x_lose_ok {G : wm_G} {M : wm_M} (rn : Nat) (h36 : M.1 96 36 = nI rn) (hr4 : rn ≤ 4) (n : Nat) (hn : n ≤ rn) : MD G t_X10_lose [wm_r G (96), .int (nI (n))] (M) (some (.int (nI (rn - n)))) (wI M 96 36 (nI n)) := by
  refine wm_met (by decide) (Nat.le_of_ble_eq_true rfl) ?_
  show WA G t_X10_lose (fun v_ N_ => v_ = some (.int (nI (rn - n))) ∧ N_ = wI M 96 36 (nI n)) 0 [(0, wm_r G (96)), (1, .int (nI (n)))] [] (M)
  refine wa_iload_n dX10_lose_0 rfl 1 rfl ?_
  refine wa_iconst (0) dX10_lose_1 (by decide) ?_
  refine wa_aload_n dX10_lose_2 rfl 0 rfl ?_
  refine wa_geti gX10_lose_3 (rfl) rfl ?_
  refine wa_eqi (y := (nI (rn))) (h36) ?_
  refine wa_cSi (x_in (nI n) 0 (nI rn)) vX10_in iX10_lose_6 rfl rfl (Nat.le_of_ble_eq_true rfl) ⟨by decide, by decide⟩ ?_
  refine wa_eqi (y := (1)) (by rw [inC_w (by omega), wIn_nI (by omega), decide_eq_true (by omega)]; rfl) ?_
  refine wa_if_ne 14 dX10_lose_9 (by decide) (fun c_9 => ?_) (fun c_9 => absurd c_9 (by decide))
  refine wa_aload_n dX10_lose_14 rfl 0 rfl ?_
  refine wa_geti gX10_lose_15 (rfl) rfl ?_
  refine wa_eqi (y := (nI (rn))) (h36) ?_
  refine wa_iload_n dX10_lose_18 rfl 1 rfl ?_
  refine wa_isubN (a := rn) (b := n) dX10_lose_19 (by omega) ?_
  refine wa_istore_n [(2, .int (nI ((rn) - (n)))), (0, wm_r G (96)), (1, .int (nI (n)))] dX10_lose_20 rfl (by decide) rfl ?_
  refine wa_aload_n dX10_lose_21 rfl 1 rfl ?_
  refine wa_iload_n dX10_lose_22 rfl 2 rfl ?_
  refine wa_puti gX10_lose_23 (rfl) rfl ?_
  refine wa_iload_n dX10_lose_26 rfl 0 rfl ?_
  exact wa_iret dX10_lose_27 rfl ⟨congrArg (fun z => some (Value.int z)) (rfl), rfl⟩

theorem x_counted {G : wm_G} {M : wm_M} (C : wm_M) (w h rn : Nat) (hX : xStn C M w h) (hW : TW C w h) (hRo : cRow C) (hTx : cTxt C) (hLw : cLaw C) (h98 : ∀ r, r < 6 → M.1 98 r = C.1 9 r) (h101 : ∀ r, r < 4 → M.1 101 r = C.1 16 r) (h109 : ∀ r, r < 4 → M.1 109 r = C.1 35 r) (h36 : M.1 96 36 = nI rn) (what : Nat) (h8 : what < 8) : MD G t_X10_counted [wm_r G (96), .int (nI (what))] (M) (some (.int (tal C w h rn what))) (M) := by
  obtain ⟨x10, x11, x12, x103, x104, x105, x106⟩ := id hX
  have hn6 := TW_n hW
  have hw3 := hW.2.2.1
  have hh2 := hW.2.2.2
  refine wm_met (by decide) (Nat.le_of_ble_eq_true rfl) ?_
  show WA G t_X10_counted (fun v_ N_ => v_ = some (.int (tal C w h rn what)) ∧ N_ = M) 0 [(0, wm_r G (96)), (1, .int (nI (what)))] [] (M)
  refine wa_iconst (0) dX10_counted_0 (by decide) ?_
  refine wa_eqi (y := (nI (wCnt (ct1 C what) 0))) (rfl) ?_
  refine wa_istore_n [(2, .int (nI (wCnt (ct1 C what) 0))), (0, wm_r G (96)), (1, .int (nI (what)))] dX10_counted_1 rfl (by decide) rfl ?_
  refine wa_iconst (0) dX10_counted_2 (by decide) ?_
  refine wa_istore_n [(3, .int (0)), (2, .int (nI (wCnt (ct1 C what) 0))), (0, wm_r G (96)), (1, .int (nI (what)))] dX10_counted_3 rfl (by decide) rfl ?_
  have L_4 : ∀ (n_ : Nat) (k : Nat), (w * h - k) < n_ → (k ≤ w * h) → WA G t_X10_counted (fun v_ N_ => v_ = some (.int (tal C w h rn what)) ∧ N_ = M) 4 [(3, .int (nI (k))), (2, .int (nI (wCnt (ct1 C what) k))), (0, wm_r G (96)), (1, .int (nI (what)))] [] (M) := by
    intro n_
    induction n_ with
    | zero => intro k h_; exact absurd h_ (Nat.not_lt_zero _)
    | succ n_ ih_4 =>
      intro k h_ hk
      refine wa_iload_n dX10_counted_4 rfl 0 rfl ?_
      refine wa_aload_n dX10_counted_5 rfl 2 rfl ?_
      refine wa_geti gX10_counted_6 (rfl) rfl ?_
      refine wa_eqi (y := (nI (w * h))) (x12) ?_
      refine wa_icmp_geN (a := k) (b := w * h) 64 dX10_counted_9 (by decide) (by omega) (by omega) (fun c_9 => ?_) (fun c_9 => ?_)
      · refine wa_iconst (0) dX10_counted_64 (by decide) ?_
        refine wa_istore_n [(3, .int (0)), (2, .int (nI (wCnt (ct1 C what) k))), (0, wm_r G (96)), (1, .int (nI (what)))] dX10_counted_65 rfl (by decide) rfl ?_
        have L_66 : ∀ (n_ : Nat) (k : Nat), (4 - k) < n_ → (k ≤ 4) → WA G t_X10_counted (fun v_ N_ => v_ = some (.int (tal C w h rn what)) ∧ N_ = M) 66 [(3, .int (nI (k))), (2, .int (nI (wCnt (ct1 C what) (w * h) + wCnt (ct2 C what) k))), (0, wm_r G (96)), (1, .int (nI (what)))] [] (M) := by
          intro n_
          induction n_ with
          | zero => intro k h_; exact absurd h_ (Nat.not_lt_zero _)
          | succ n_ ih_66 =>
            intro k h_ hk
            refine wa_iload_n dX10_counted_66 rfl 0 rfl ?_
            refine wa_iconst (4) dX10_counted_67 (by decide) ?_
            refine wa_icmp_geN (a := k) (b := 4) 114 dX10_counted_68 (by decide) (by omega) (by omega) (fun c_68 => ?_) (fun c_68 => ?_)
            · refine wa_iconst (0) dX10_counted_114 (by decide) ?_
              refine wa_istore_n [(3, .int (0)), (2, .int (nI (wCnt (ct1 C what) (w * h) + wCnt (ct2 C what) k))), (0, wm_r G (96)), (1, .int (nI (what)))] dX10_counted_115 rfl (by decide) rfl ?_
              have L_116 : ∀ (n_ : Nat) (k : Nat), (6 - k) < n_ → (k ≤ 6) → WA G t_X10_counted (fun v_ N_ => v_ = some (.int (tal C w h rn what)) ∧ N_ = M) 116 [(3, .int (nI (k))), (2, .int (nI (wCnt (ct1 C what) (w * h) + wCnt (ct2 C what) 4 + wCnt (ct3 C what) k))), (0, wm_r G (96)), (1, .int (nI (what)))] [] (M) := by
                intro n_
                induction n_ with
                | zero => intro k h_; exact absurd h_ (Nat.not_lt_zero _)
                | succ n_ ih_116 =>
                  intro k h_ hk
                  refine wa_iload_n dX10_counted_116 rfl 0 rfl ?_
                  refine wa_bipush (6) dX10_counted_117 (by decide) ?_
                  refine wa_icmp_geN (a := k) (b := 6) 151 dX10_counted_119 (by decide) (by omega) (by omega) (fun c_119 => ?_) (fun c_119 => ?_)
                  · refine wa_iload_n dX10_counted_151 rfl 3 rfl ?_
                    refine wa_if_neN (a := what) 162 dX10_counted_152 (by decide) (by omega) (fun c_152 => ?_) (fun c_152 => ?_)
                    · refine wa_iload_n dX10_counted_162 rfl 3 rfl ?_
                      refine wa_iconst (1) dX10_counted_163 (by decide) ?_
                      refine wa_icmp_neN (a := what) (b := 1) 174 dX10_counted_164 (by decide) (by omega) (by omega) (fun c_164 => ?_) (fun c_164 => ?_)
                      · refine wa_iload_n dX10_counted_174 rfl 3 rfl ?_
                        refine wa_iconst (5) dX10_counted_175 (by decide) ?_
                        refine wa_icmp_neN (a := what) (b := 5) 186 dX10_counted_176 (by decide) (by omega) (by omega) (fun c_176 => ?_) (fun c_176 => ?_)
                        · refine wa_iload_n dX10_counted_186 rfl 1 rfl ?_
                          exact wa_iret dX10_counted_187 rfl ⟨congrArg (fun z => some (Value.int z)) (by first | (rw [show what = 0 from c_152]; rfl) | (rw [show what = 1 from c_164]; rfl) | (rw [show what = 5 from c_176]; rfl) | (rw [show k = 6 by omega]; exact ct_tal h8 c_152 c_164 c_176)), rfl⟩
                        · refine wa_aload_n dX10_counted_179 rfl 2 rfl ?_
                          refine wa_geti gX10_counted_180 (rfl) rfl ?_
                          refine wa_eqi (y := (nI (rn))) (h36) ?_
                          refine wa_goto 187 dX10_counted_183 (by decide) ?_
                          exact wa_iret dX10_counted_187 rfl ⟨congrArg (fun z => some (Value.int z)) (by first | (rw [show what = 0 from c_152]; rfl) | (rw [show what = 1 from c_164]; rfl) | (rw [show what = 5 from c_176]; rfl) | (rw [show k = 6 by omega]; exact ct_tal h8 c_152 c_164 c_176)), rfl⟩
                      · refine wa_aload_n dX10_counted_167 rfl 2 rfl ?_
                        refine wa_cVi (x_streetMany C w h hX hW) vX10_streetMany iX10_counted_168 (rfl) rfl rfl rfl (Nat.le_of_ble_eq_true rfl) ⟨by decide, by decide⟩ ?_
                        refine wa_goto 187 dX10_counted_171 (by decide) ?_
                        exact wa_iret dX10_counted_187 rfl ⟨congrArg (fun z => some (Value.int z)) (by first | (rw [show what = 0 from c_152]; rfl) | (rw [show what = 1 from c_164]; rfl) | (rw [show what = 5 from c_176]; rfl) | (rw [show k = 6 by omega]; exact ct_tal h8 c_152 c_164 c_176)), rfl⟩
                    · refine wa_aload_n dX10_counted_155 rfl 2 rfl ?_
                      refine wa_geti gX10_counted_156 (rfl) rfl ?_
                      refine wa_eqi (y := (nI (w * h))) (x12) ?_
                      refine wa_goto 187 dX10_counted_159 (by decide) ?_
                      exact wa_iret dX10_counted_187 rfl ⟨congrArg (fun z => some (Value.int z)) (by first | (rw [show what = 0 from c_152]; rfl) | (rw [show what = 1 from c_164]; rfl) | (rw [show what = 5 from c_176]; rfl) | (rw [show k = 6 by omega]; exact ct_tal h8 c_152 c_164 c_176)), rfl⟩
                  · refine wa_iload_n dX10_counted_122 rfl 1 rfl ?_
                    refine wa_iload_n dX10_counted_123 rfl 3 rfl ?_
                    refine wa_bipush (6) dX10_counted_124 (by decide) ?_
                    refine wa_icmp_neN (a := what) (b := 6) 142 dX10_counted_126 (by decide) (by omega) (by omega) (fun c_126 => ?_) (fun c_126 => ?_)
                    · refine wa_iconst (0) dX10_counted_142 (by decide) ?_
                      refine wa_iaddN (a := wCnt (ct1 C what) (w * h) + wCnt (ct2 C what) 4 + wCnt (ct3 C what) k) (b := 0) dX10_counted_143 ?_
                      refine wa_eqi (y := (nI (wCnt (ct1 C what) (w * h) + wCnt (ct2 C what) 4 + wCnt (ct3 C what) (k + 1)))) (congrArg nI (by
                        have e : wCnt (ct3 C what) (k + 1) = wCnt (ct3 C what) k + (if ct3 C what k then 1 else 0) := rfl
                        rw [e, ← Nat.add_assoc]; congr 1
                        have s1 := sz_neg (m := 60) (by decide) (hRo k (by omega))
                        unfold ct3; first | (rw [decide_eq_true c_126, decide_eq_false (fun q => c_135 (s1.mpr q))]; rfl) | (rw [decide_eq_false c_126]; rfl) | (rw [decide_eq_true (s1.mp c_135)]; simp))) ?_
                      refine wa_istore_n [(2, .int (nI (wCnt (ct1 C what) (w * h) + wCnt (ct2 C what) 4 + wCnt (ct3 C what) (k + 1)))), (3, .int (nI (k))), (0, wm_r G (96)), (1, .int (nI (what)))] dX10_counted_144 rfl (by decide) rfl ?_
                      refine wa_iinc ((nI (k + 1))) [(3, .int (nI (k + 1))), (2, .int (nI (wCnt (ct1 C what) (w * h) + wCnt (ct2 C what) 4 + wCnt (ct3 C what) (k + 1)))), (0, wm_r G (96)), (1, .int (nI (what)))] dX10_counted_145 1 rfl (nI_inc _) (by decide) rfl ?_
                      refine wa_goto 116 dX10_counted_148 (by decide) ?_
                      exact ih_116 (k + 1) (by omega) (by omega)
                    · refine wa_aload_n dX10_counted_129 rfl 2 rfl ?_
                      refine wa_getr gX10_counted_130 (rfl) rfl ?_
                      refine wa_iload_n dX10_counted_133 rfl 0 rfl ?_
                      refine wa_ialdN (e := k) dX10_counted_134 (rfl) (by omega) (by decide) ?_
                      refine wa_eqi (y := (C.1 9 k)) (h98 k (by omega)) ?_
                      refine wa_if_lt 142 dX10_counted_135 (by decide) (fun c_135 => ?_) (fun c_135 => ?_)
                      · refine wa_iconst (0) dX10_counted_142 (by decide) ?_
                        refine wa_iaddN (a := wCnt (ct1 C what) (w * h) + wCnt (ct2 C what) 4 + wCnt (ct3 C what) k) (b := 0) dX10_counted_143 ?_
                        refine wa_eqi (y := (nI (wCnt (ct1 C what) (w * h) + wCnt (ct2 C what) 4 + wCnt (ct3 C what) (k + 1)))) (congrArg nI (by
                          have e : wCnt (ct3 C what) (k + 1) = wCnt (ct3 C what) k + (if ct3 C what k then 1 else 0) := rfl
                          rw [e, ← Nat.add_assoc]; congr 1
                          have s1 := sz_neg (m := 60) (by decide) (hRo k (by omega))
                          unfold ct3; first | (rw [decide_eq_true c_126, decide_eq_false (fun q => c_135 (s1.mpr q))]; rfl) | (rw [decide_eq_false c_126]; rfl) | (rw [decide_eq_true (s1.mp c_135)]; simp))) ?_
                        refine wa_istore_n [(2, .int (nI (wCnt (ct1 C what) (w * h) + wCnt (ct2 C what) 4 + wCnt (ct3 C what) (k + 1)))), (3, .int (nI (k))), (0, wm_r G (96)), (1, .int (nI (what)))] dX10_counted_144 rfl (by decide) rfl ?_
                        refine wa_iinc ((nI (k + 1))) [(3, .int (nI (k + 1))), (2, .int (nI (wCnt (ct1 C what) (w * h) + wCnt (ct2 C what) 4 + wCnt (ct3 C what) (k + 1)))), (0, wm_r G (96)), (1, .int (nI (what)))] dX10_counted_145 1 rfl (nI_inc _) (by decide) rfl ?_
                        refine wa_goto 116 dX10_counted_148 (by decide) ?_
                        exact ih_116 (k + 1) (by omega) (by omega)
                      · refine wa_iconst (1) dX10_counted_138 (by decide) ?_
                        refine wa_goto 143 dX10_counted_139 (by decide) ?_
                        refine wa_iaddN (a := wCnt (ct1 C what) (w * h) + wCnt (ct2 C what) 4 + wCnt (ct3 C what) k) (b := 1) dX10_counted_143 ?_
                        refine wa_eqi (y := (nI (wCnt (ct1 C what) (w * h) + wCnt (ct2 C what) 4 + wCnt (ct3 C what) (k + 1)))) (congrArg nI (by
                          have e : wCnt (ct3 C what) (k + 1) = wCnt (ct3 C what) k + (if ct3 C what k then 1 else 0) := rfl
                          rw [e, ← Nat.add_assoc]; congr 1
                          have s1 := sz_neg (m := 60) (by decide) (hRo k (by omega))
                          unfold ct3; first | (rw [decide_eq_true c_126, decide_eq_false (fun q => c_135 (s1.mpr q))]; rfl) | (rw [decide_eq_false c_126]; rfl) | (rw [decide_eq_true (s1.mp c_135)]; simp))) ?_
                        refine wa_istore_n [(2, .int (nI (wCnt (ct1 C what) (w * h) + wCnt (ct2 C what) 4 + wCnt (ct3 C what) (k + 1)))), (3, .int (nI (k))), (0, wm_r G (96)), (1, .int (nI (what)))] dX10_counted_144 rfl (by decide) rfl ?_
                        refine wa_iinc ((nI (k + 1))) [(3, .int (nI (k + 1))), (2, .int (nI (wCnt (ct1 C what) (w * h) + wCnt (ct2 C what) 4 + wCnt (ct3 C what) (k + 1)))), (0, wm_r G (96)), (1, .int (nI (what)))] dX10_counted_145 1 rfl (nI_inc _) (by decide) rfl ?_
                        refine wa_goto 116 dX10_counted_148 (by decide) ?_
                        exact ih_116 (k + 1) (by omega) (by omega)
              rw [show wCnt (ct1 C what) (w * h) + wCnt (ct2 C what) k = wCnt (ct1 C what) (w * h) + wCnt (ct2 C what) 4 + wCnt (ct3 C what) 0 by rw [show k = 4 by omega]; rfl]
              exact L_116 _ 0 (Nat.lt_succ_self _) (Nat.zero_le _)
            · refine wa_iload_n dX10_counted_71 rfl 1 rfl ?_
              refine wa_iload_n dX10_counted_72 rfl 3 rfl ?_
              refine wa_iconst (2) dX10_counted_73 (by decide) ?_
              refine wa_icmp_neN (a := what) (b := 2) 86 dX10_counted_74 (by decide) (by omega) (by omega) (fun c_74 => ?_) (fun c_74 => ?_)
              · refine wa_iload_n dX10_counted_86 rfl 3 rfl ?_
                refine wa_bipush (7) dX10_counted_87 (by decide) ?_
                refine wa_icmp_neN (a := what) (b := 7) 105 dX10_counted_89 (by decide) (by omega) (by omega) (fun c_89 => ?_) (fun c_89 => ?_)
                · refine wa_iconst (0) dX10_counted_105 (by decide) ?_
                  refine wa_iaddN (a := wCnt (ct1 C what) (w * h) + wCnt (ct2 C what) k) (b := 0) dX10_counted_106 ?_
                  refine wa_eqi (y := (nI (wCnt (ct1 C what) (w * h) + wCnt (ct2 C what) (k + 1)))) (congrArg nI (by
                    have e : wCnt (ct2 C what) (k + 1) = wCnt (ct2 C what) k + (if ct2 C what k then 1 else 0) := rfl
                    rw [e, ← Nat.add_assoc]; congr 1
                    have s1 := sz_neg (m := 3) (by decide) (cLaw_sz hLw (r := k) (by omega))
                    have s2 := sz_neg (m := 80) (by decide) (hTx k (by omega))
                    unfold ct2; first | (rw [decide_eq_true c_74, decide_eq_false (fun q => absurd (s1.mpr q) (Int32.not_lt.mpr c_83))]; rfl) | (rw [decide_eq_true c_89, decide_eq_false (fun q => c_98 (s2.mpr q))]; simp; done) | (rw [show (decide (what = 2) && !decide (C.1 35 k = -1)) = false from by first | (rw [decide_eq_false c_74]; rfl) | (rw [decide_eq_true (s1.mp (Int32.not_le.mp c_83))]; simp), show (decide (what = 7) && !decide (C.1 16 k = -1)) = false from by first | (rw [decide_eq_false c_89]; rfl) | (rw [decide_eq_true (s2.mp c_98)]; simp)]; rfl))) ?_
                  refine wa_istore_n [(2, .int (nI (wCnt (ct1 C what) (w * h) + wCnt (ct2 C what) (k + 1)))), (3, .int (nI (k))), (0, wm_r G (96)), (1, .int (nI (what)))] dX10_counted_107 rfl (by decide) rfl ?_
                  refine wa_iinc ((nI (k + 1))) [(3, .int (nI (k + 1))), (2, .int (nI (wCnt (ct1 C what) (w * h) + wCnt (ct2 C what) (k + 1)))), (0, wm_r G (96)), (1, .int (nI (what)))] dX10_counted_108 1 rfl (nI_inc _) (by decide) rfl ?_
                  refine wa_goto 66 dX10_counted_111 (by decide) ?_
                  exact ih_66 (k + 1) (by omega) (by omega)
                · refine wa_aload_n dX10_counted_92 rfl 2 rfl ?_
                  refine wa_getr gX10_counted_93 (rfl) rfl ?_
                  refine wa_iload_n dX10_counted_96 rfl 0 rfl ?_
                  refine wa_ialdN (e := k) dX10_counted_97 (rfl) (by omega) (by decide) ?_
                  refine wa_eqi (y := (C.1 16 k)) (h101 k (by omega)) ?_
                  refine wa_if_lt 105 dX10_counted_98 (by decide) (fun c_98 => ?_) (fun c_98 => ?_)
                  · refine wa_iconst (0) dX10_counted_105 (by decide) ?_
                    refine wa_iaddN (a := wCnt (ct1 C what) (w * h) + wCnt (ct2 C what) k) (b := 0) dX10_counted_106 ?_
                    refine wa_eqi (y := (nI (wCnt (ct1 C what) (w * h) + wCnt (ct2 C what) (k + 1)))) (congrArg nI (by
                      have e : wCnt (ct2 C what) (k + 1) = wCnt (ct2 C what) k + (if ct2 C what k then 1 else 0) := rfl
                      rw [e, ← Nat.add_assoc]; congr 1
                      have s1 := sz_neg (m := 3) (by decide) (cLaw_sz hLw (r := k) (by omega))
                      have s2 := sz_neg (m := 80) (by decide) (hTx k (by omega))
                      unfold ct2; first | (rw [decide_eq_true c_74, decide_eq_false (fun q => absurd (s1.mpr q) (Int32.not_lt.mpr c_83))]; rfl) | (rw [decide_eq_true c_89, decide_eq_false (fun q => c_98 (s2.mpr q))]; simp; done) | (rw [show (decide (what = 2) && !decide (C.1 35 k = -1)) = false from by first | (rw [decide_eq_false c_74]; rfl) | (rw [decide_eq_true (s1.mp (Int32.not_le.mp c_83))]; simp), show (decide (what = 7) && !decide (C.1 16 k = -1)) = false from by first | (rw [decide_eq_false c_89]; rfl) | (rw [decide_eq_true (s2.mp c_98)]; simp)]; rfl))) ?_
                    refine wa_istore_n [(2, .int (nI (wCnt (ct1 C what) (w * h) + wCnt (ct2 C what) (k + 1)))), (3, .int (nI (k))), (0, wm_r G (96)), (1, .int (nI (what)))] dX10_counted_107 rfl (by decide) rfl ?_
                    refine wa_iinc ((nI (k + 1))) [(3, .int (nI (k + 1))), (2, .int (nI (wCnt (ct1 C what) (w * h) + wCnt (ct2 C what) (k + 1)))), (0, wm_r G (96)), (1, .int (nI (what)))] dX10_counted_108 1 rfl (nI_inc _) (by decide) rfl ?_
                    refine wa_goto 66 dX10_counted_111 (by decide) ?_
                    exact ih_66 (k + 1) (by omega) (by omega)
                  · refine wa_iconst (1) dX10_counted_101 (by decide) ?_
                    refine wa_goto 106 dX10_counted_102 (by decide) ?_
                    refine wa_iaddN (a := wCnt (ct1 C what) (w * h) + wCnt (ct2 C what) k) (b := 1) dX10_counted_106 ?_
                    refine wa_eqi (y := (nI (wCnt (ct1 C what) (w * h) + wCnt (ct2 C what) (k + 1)))) (congrArg nI (by
                      have e : wCnt (ct2 C what) (k + 1) = wCnt (ct2 C what) k + (if ct2 C what k then 1 else 0) := rfl
                      rw [e, ← Nat.add_assoc]; congr 1
                      have s1 := sz_neg (m := 3) (by decide) (cLaw_sz hLw (r := k) (by omega))
                      have s2 := sz_neg (m := 80) (by decide) (hTx k (by omega))
                      unfold ct2; first | (rw [decide_eq_true c_74, decide_eq_false (fun q => absurd (s1.mpr q) (Int32.not_lt.mpr c_83))]; rfl) | (rw [decide_eq_true c_89, decide_eq_false (fun q => c_98 (s2.mpr q))]; simp; done) | (rw [show (decide (what = 2) && !decide (C.1 35 k = -1)) = false from by first | (rw [decide_eq_false c_74]; rfl) | (rw [decide_eq_true (s1.mp (Int32.not_le.mp c_83))]; simp), show (decide (what = 7) && !decide (C.1 16 k = -1)) = false from by first | (rw [decide_eq_false c_89]; rfl) | (rw [decide_eq_true (s2.mp c_98)]; simp)]; rfl))) ?_
                    refine wa_istore_n [(2, .int (nI (wCnt (ct1 C what) (w * h) + wCnt (ct2 C what) (k + 1)))), (3, .int (nI (k))), (0, wm_r G (96)), (1, .int (nI (what)))] dX10_counted_107 rfl (by decide) rfl ?_
                    refine wa_iinc ((nI (k + 1))) [(3, .int (nI (k + 1))), (2, .int (nI (wCnt (ct1 C what) (w * h) + wCnt (ct2 C what) (k + 1)))), (0, wm_r G (96)), (1, .int (nI (what)))] dX10_counted_108 1 rfl (nI_inc _) (by decide) rfl ?_
                    refine wa_goto 66 dX10_counted_111 (by decide) ?_
                    exact ih_66 (k + 1) (by omega) (by omega)
              · refine wa_aload_n dX10_counted_77 rfl 2 rfl ?_
                refine wa_getr gX10_counted_78 (rfl) rfl ?_
                refine wa_iload_n dX10_counted_81 rfl 0 rfl ?_
                refine wa_ialdN (e := k) dX10_counted_82 (rfl) (by omega) (by decide) ?_
                refine wa_eqi (y := (C.1 35 k)) (h109 k (by omega)) ?_
                refine wa_if_ge 101 dX10_counted_83 (by decide) (fun c_83 => ?_) (fun c_83 => ?_)
                · refine wa_iconst (1) dX10_counted_101 (by decide) ?_
                  refine wa_goto 106 dX10_counted_102 (by decide) ?_
                  refine wa_iaddN (a := wCnt (ct1 C what) (w * h) + wCnt (ct2 C what) k) (b := 1) dX10_counted_106 ?_
                  refine wa_eqi (y := (nI (wCnt (ct1 C what) (w * h) + wCnt (ct2 C what) (k + 1)))) (congrArg nI (by
                    have e : wCnt (ct2 C what) (k + 1) = wCnt (ct2 C what) k + (if ct2 C what k then 1 else 0) := rfl
                    rw [e, ← Nat.add_assoc]; congr 1
                    have s1 := sz_neg (m := 3) (by decide) (cLaw_sz hLw (r := k) (by omega))
                    have s2 := sz_neg (m := 80) (by decide) (hTx k (by omega))
                    unfold ct2; first | (rw [decide_eq_true c_74, decide_eq_false (fun q => absurd (s1.mpr q) (Int32.not_lt.mpr c_83))]; rfl) | (rw [decide_eq_true c_89, decide_eq_false (fun q => c_98 (s2.mpr q))]; simp; done) | (rw [show (decide (what = 2) && !decide (C.1 35 k = -1)) = false from by first | (rw [decide_eq_false c_74]; rfl) | (rw [decide_eq_true (s1.mp (Int32.not_le.mp c_83))]; simp), show (decide (what = 7) && !decide (C.1 16 k = -1)) = false from by first | (rw [decide_eq_false c_89]; rfl) | (rw [decide_eq_true (s2.mp c_98)]; simp)]; rfl))) ?_
                  refine wa_istore_n [(2, .int (nI (wCnt (ct1 C what) (w * h) + wCnt (ct2 C what) (k + 1)))), (3, .int (nI (k))), (0, wm_r G (96)), (1, .int (nI (what)))] dX10_counted_107 rfl (by decide) rfl ?_
                  refine wa_iinc ((nI (k + 1))) [(3, .int (nI (k + 1))), (2, .int (nI (wCnt (ct1 C what) (w * h) + wCnt (ct2 C what) (k + 1)))), (0, wm_r G (96)), (1, .int (nI (what)))] dX10_counted_108 1 rfl (nI_inc _) (by decide) rfl ?_
                  refine wa_goto 66 dX10_counted_111 (by decide) ?_
                  exact ih_66 (k + 1) (by omega) (by omega)
                · refine wa_iload_n dX10_counted_86 rfl 3 rfl ?_
                  refine wa_bipush (7) dX10_counted_87 (by decide) ?_
                  refine wa_icmp_neN (a := what) (b := 7) 105 dX10_counted_89 (by decide) (by omega) (by omega) (fun c_89 => ?_) (fun c_89 => ?_)
                  · refine wa_iconst (0) dX10_counted_105 (by decide) ?_
                    refine wa_iaddN (a := wCnt (ct1 C what) (w * h) + wCnt (ct2 C what) k) (b := 0) dX10_counted_106 ?_
                    refine wa_eqi (y := (nI (wCnt (ct1 C what) (w * h) + wCnt (ct2 C what) (k + 1)))) (congrArg nI (by
                      have e : wCnt (ct2 C what) (k + 1) = wCnt (ct2 C what) k + (if ct2 C what k then 1 else 0) := rfl
                      rw [e, ← Nat.add_assoc]; congr 1
                      have s1 := sz_neg (m := 3) (by decide) (cLaw_sz hLw (r := k) (by omega))
                      have s2 := sz_neg (m := 80) (by decide) (hTx k (by omega))
                      unfold ct2; first | (rw [decide_eq_true c_74, decide_eq_false (fun q => absurd (s1.mpr q) (Int32.not_lt.mpr c_83))]; rfl) | (rw [decide_eq_true c_89, decide_eq_false (fun q => c_98 (s2.mpr q))]; simp; done) | (rw [show (decide (what = 2) && !decide (C.1 35 k = -1)) = false from by first | (rw [decide_eq_false c_74]; rfl) | (rw [decide_eq_true (s1.mp (Int32.not_le.mp c_83))]; simp), show (decide (what = 7) && !decide (C.1 16 k = -1)) = false from by first | (rw [decide_eq_false c_89]; rfl) | (rw [decide_eq_true (s2.mp c_98)]; simp)]; rfl))) ?_
                    refine wa_istore_n [(2, .int (nI (wCnt (ct1 C what) (w * h) + wCnt (ct2 C what) (k + 1)))), (3, .int (nI (k))), (0, wm_r G (96)), (1, .int (nI (what)))] dX10_counted_107 rfl (by decide) rfl ?_
                    refine wa_iinc ((nI (k + 1))) [(3, .int (nI (k + 1))), (2, .int (nI (wCnt (ct1 C what) (w * h) + wCnt (ct2 C what) (k + 1)))), (0, wm_r G (96)), (1, .int (nI (what)))] dX10_counted_108 1 rfl (nI_inc _) (by decide) rfl ?_
                    refine wa_goto 66 dX10_counted_111 (by decide) ?_
                    exact ih_66 (k + 1) (by omega) (by omega)
                  · refine wa_aload_n dX10_counted_92 rfl 2 rfl ?_
                    refine wa_getr gX10_counted_93 (rfl) rfl ?_
                    refine wa_iload_n dX10_counted_96 rfl 0 rfl ?_
                    refine wa_ialdN (e := k) dX10_counted_97 (rfl) (by omega) (by decide) ?_
                    refine wa_eqi (y := (C.1 16 k)) (h101 k (by omega)) ?_
                    refine wa_if_lt 105 dX10_counted_98 (by decide) (fun c_98 => ?_) (fun c_98 => ?_)
                    · refine wa_iconst (0) dX10_counted_105 (by decide) ?_
                      refine wa_iaddN (a := wCnt (ct1 C what) (w * h) + wCnt (ct2 C what) k) (b := 0) dX10_counted_106 ?_
                      refine wa_eqi (y := (nI (wCnt (ct1 C what) (w * h) + wCnt (ct2 C what) (k + 1)))) (congrArg nI (by
                        have e : wCnt (ct2 C what) (k + 1) = wCnt (ct2 C what) k + (if ct2 C what k then 1 else 0) := rfl
                        rw [e, ← Nat.add_assoc]; congr 1
                        have s1 := sz_neg (m := 3) (by decide) (cLaw_sz hLw (r := k) (by omega))
                        have s2 := sz_neg (m := 80) (by decide) (hTx k (by omega))
                        unfold ct2; first | (rw [decide_eq_true c_74, decide_eq_false (fun q => absurd (s1.mpr q) (Int32.not_lt.mpr c_83))]; rfl) | (rw [decide_eq_true c_89, decide_eq_false (fun q => c_98 (s2.mpr q))]; simp; done) | (rw [show (decide (what = 2) && !decide (C.1 35 k = -1)) = false from by first | (rw [decide_eq_false c_74]; rfl) | (rw [decide_eq_true (s1.mp (Int32.not_le.mp c_83))]; simp), show (decide (what = 7) && !decide (C.1 16 k = -1)) = false from by first | (rw [decide_eq_false c_89]; rfl) | (rw [decide_eq_true (s2.mp c_98)]; simp)]; rfl))) ?_
                      refine wa_istore_n [(2, .int (nI (wCnt (ct1 C what) (w * h) + wCnt (ct2 C what) (k + 1)))), (3, .int (nI (k))), (0, wm_r G (96)), (1, .int (nI (what)))] dX10_counted_107 rfl (by decide) rfl ?_
                      refine wa_iinc ((nI (k + 1))) [(3, .int (nI (k + 1))), (2, .int (nI (wCnt (ct1 C what) (w * h) + wCnt (ct2 C what) (k + 1)))), (0, wm_r G (96)), (1, .int (nI (what)))] dX10_counted_108 1 rfl (nI_inc _) (by decide) rfl ?_
                      refine wa_goto 66 dX10_counted_111 (by decide) ?_
                      exact ih_66 (k + 1) (by omega) (by omega)
                    · refine wa_iconst (1) dX10_counted_101 (by decide) ?_
                      refine wa_goto 106 dX10_counted_102 (by decide) ?_
                      refine wa_iaddN (a := wCnt (ct1 C what) (w * h) + wCnt (ct2 C what) k) (b := 1) dX10_counted_106 ?_
                      refine wa_eqi (y := (nI (wCnt (ct1 C what) (w * h) + wCnt (ct2 C what) (k + 1)))) (congrArg nI (by
                        have e : wCnt (ct2 C what) (k + 1) = wCnt (ct2 C what) k + (if ct2 C what k then 1 else 0) := rfl
                        rw [e, ← Nat.add_assoc]; congr 1
                        have s1 := sz_neg (m := 3) (by decide) (cLaw_sz hLw (r := k) (by omega))
                        have s2 := sz_neg (m := 80) (by decide) (hTx k (by omega))
                        unfold ct2; first | (rw [decide_eq_true c_74, decide_eq_false (fun q => absurd (s1.mpr q) (Int32.not_lt.mpr c_83))]; rfl) | (rw [decide_eq_true c_89, decide_eq_false (fun q => c_98 (s2.mpr q))]; simp; done) | (rw [show (decide (what = 2) && !decide (C.1 35 k = -1)) = false from by first | (rw [decide_eq_false c_74]; rfl) | (rw [decide_eq_true (s1.mp (Int32.not_le.mp c_83))]; simp), show (decide (what = 7) && !decide (C.1 16 k = -1)) = false from by first | (rw [decide_eq_false c_89]; rfl) | (rw [decide_eq_true (s2.mp c_98)]; simp)]; rfl))) ?_
                      refine wa_istore_n [(2, .int (nI (wCnt (ct1 C what) (w * h) + wCnt (ct2 C what) (k + 1)))), (3, .int (nI (k))), (0, wm_r G (96)), (1, .int (nI (what)))] dX10_counted_107 rfl (by decide) rfl ?_
                      refine wa_iinc ((nI (k + 1))) [(3, .int (nI (k + 1))), (2, .int (nI (wCnt (ct1 C what) (w * h) + wCnt (ct2 C what) (k + 1)))), (0, wm_r G (96)), (1, .int (nI (what)))] dX10_counted_108 1 rfl (nI_inc _) (by decide) rfl ?_
                      refine wa_goto 66 dX10_counted_111 (by decide) ?_
                      exact ih_66 (k + 1) (by omega) (by omega)
        rw [show wCnt (ct1 C what) k = wCnt (ct1 C what) (w * h) + wCnt (ct2 C what) 0 by rw [show k = w * h by omega]; rfl]
        exact L_66 _ 0 (Nat.lt_succ_self _) (Nat.zero_le _)
      · refine wa_iload_n dX10_counted_12 rfl 1 rfl ?_
        refine wa_iload_n dX10_counted_13 rfl 3 rfl ?_
        refine wa_iconst (3) dX10_counted_14 (by decide) ?_
        refine wa_icmp_neN (a := what) (b := 3) 38 dX10_counted_15 (by decide) (by omega) (by omega) (fun c_15 => ?_) (fun c_15 => ?_)
        · refine wa_iload_n dX10_counted_38 rfl 3 rfl ?_
          refine wa_iconst (4) dX10_counted_39 (by decide) ?_
          refine wa_icmp_neN (a := what) (b := 4) 55 dX10_counted_40 (by decide) (by omega) (by omega) (fun c_40 => ?_) (fun c_40 => ?_)
          · refine wa_iconst (0) dX10_counted_55 (by decide) ?_
            refine wa_iaddN (a := wCnt (ct1 C what) k) (b := 0) dX10_counted_56 ?_
            refine wa_eqi (y := (nI (wCnt (ct1 C what) (k + 1)))) (congrArg nI (by
              have e : wCnt (ct1 C what) (k + 1) = wCnt (ct1 C what) k + (if ct1 C what k then 1 else 0) := rfl
              rw [e]; congr 1
              unfold ct1; first | (rw [decide_eq_true c_15, show isOfB (C.1 18 k) 1 = true from by (unfold isOfB; rw [c_25]; rfl)]; rfl) | (rw [decide_eq_true c_15, show isOfB (C.1 18 k) 1 = true from by (unfold isOfB; rw [c_35]; rfl)]; rfl) | (rw [decide_eq_true c_40, c_48]; simp; done) | (rw [show (decide (what = 3) && isOfB (C.1 18 k) 1) = false from by first | (rw [decide_eq_false c_15]; rfl) | (unfold isOfB; rw [decide_eq_false c_25, decide_eq_false c_35]; simp), show (decide (what = 4) && sFix (C.1 18 k)) = false from by first | (rw [decide_eq_false c_40]; rfl) | (rw [c_48]; simp)]; rfl))) ?_
            refine wa_istore_n [(2, .int (nI (wCnt (ct1 C what) (k + 1)))), (3, .int (nI (k))), (0, wm_r G (96)), (1, .int (nI (what)))] dX10_counted_57 rfl (by decide) rfl ?_
            refine wa_iinc ((nI (k + 1))) [(3, .int (nI (k + 1))), (2, .int (nI (wCnt (ct1 C what) (k + 1)))), (0, wm_r G (96)), (1, .int (nI (what)))] dX10_counted_58 1 rfl (nI_inc _) (by decide) rfl ?_
            refine wa_goto 4 dX10_counted_61 (by decide) ?_
            exact ih_4 (k + 1) (by omega) (by omega)
          · refine wa_aload_n dX10_counted_43 rfl 2 rfl ?_
            refine wa_iload_n dX10_counted_44 rfl 0 rfl ?_
            refine wa_cVi (x_isFixed C w h hX hW k (by omega)) vX10_isFixed iX10_counted_45 (rfl) rfl rfl rfl (Nat.le_of_ble_eq_true rfl) ⟨by decide, by decide⟩ ?_
            refine wa_if_eqB 55 dX10_counted_48 (by decide) (fun (c_48 : (sFix (C.1 18 k)) = false) => ?_) (fun (c_48 : (sFix (C.1 18 k)) = true) => ?_)
            · refine wa_iconst (0) dX10_counted_55 (by decide) ?_
              refine wa_iaddN (a := wCnt (ct1 C what) k) (b := 0) dX10_counted_56 ?_
              refine wa_eqi (y := (nI (wCnt (ct1 C what) (k + 1)))) (congrArg nI (by
                have e : wCnt (ct1 C what) (k + 1) = wCnt (ct1 C what) k + (if ct1 C what k then 1 else 0) := rfl
                rw [e]; congr 1
                unfold ct1; first | (rw [decide_eq_true c_15, show isOfB (C.1 18 k) 1 = true from by (unfold isOfB; rw [c_25]; rfl)]; rfl) | (rw [decide_eq_true c_15, show isOfB (C.1 18 k) 1 = true from by (unfold isOfB; rw [c_35]; rfl)]; rfl) | (rw [decide_eq_true c_40, c_48]; simp; done) | (rw [show (decide (what = 3) && isOfB (C.1 18 k) 1) = false from by first | (rw [decide_eq_false c_15]; rfl) | (unfold isOfB; rw [decide_eq_false c_25, decide_eq_false c_35]; simp), show (decide (what = 4) && sFix (C.1 18 k)) = false from by first | (rw [decide_eq_false c_40]; rfl) | (rw [c_48]; simp)]; rfl))) ?_
              refine wa_istore_n [(2, .int (nI (wCnt (ct1 C what) (k + 1)))), (3, .int (nI (k))), (0, wm_r G (96)), (1, .int (nI (what)))] dX10_counted_57 rfl (by decide) rfl ?_
              refine wa_iinc ((nI (k + 1))) [(3, .int (nI (k + 1))), (2, .int (nI (wCnt (ct1 C what) (k + 1)))), (0, wm_r G (96)), (1, .int (nI (what)))] dX10_counted_58 1 rfl (nI_inc _) (by decide) rfl ?_
              refine wa_goto 4 dX10_counted_61 (by decide) ?_
              exact ih_4 (k + 1) (by omega) (by omega)
            · refine wa_iconst (1) dX10_counted_51 (by decide) ?_
              refine wa_goto 56 dX10_counted_52 (by decide) ?_
              refine wa_iaddN (a := wCnt (ct1 C what) k) (b := 1) dX10_counted_56 ?_
              refine wa_eqi (y := (nI (wCnt (ct1 C what) (k + 1)))) (congrArg nI (by
                have e : wCnt (ct1 C what) (k + 1) = wCnt (ct1 C what) k + (if ct1 C what k then 1 else 0) := rfl
                rw [e]; congr 1
                unfold ct1; first | (rw [decide_eq_true c_15, show isOfB (C.1 18 k) 1 = true from by (unfold isOfB; rw [c_25]; rfl)]; rfl) | (rw [decide_eq_true c_15, show isOfB (C.1 18 k) 1 = true from by (unfold isOfB; rw [c_35]; rfl)]; rfl) | (rw [decide_eq_true c_40, c_48]; simp; done) | (rw [show (decide (what = 3) && isOfB (C.1 18 k) 1) = false from by first | (rw [decide_eq_false c_15]; rfl) | (unfold isOfB; rw [decide_eq_false c_25, decide_eq_false c_35]; simp), show (decide (what = 4) && sFix (C.1 18 k)) = false from by first | (rw [decide_eq_false c_40]; rfl) | (rw [c_48]; simp)]; rfl))) ?_
              refine wa_istore_n [(2, .int (nI (wCnt (ct1 C what) (k + 1)))), (3, .int (nI (k))), (0, wm_r G (96)), (1, .int (nI (what)))] dX10_counted_57 rfl (by decide) rfl ?_
              refine wa_iinc ((nI (k + 1))) [(3, .int (nI (k + 1))), (2, .int (nI (wCnt (ct1 C what) (k + 1)))), (0, wm_r G (96)), (1, .int (nI (what)))] dX10_counted_58 1 rfl (nI_inc _) (by decide) rfl ?_
              refine wa_goto 4 dX10_counted_61 (by decide) ?_
              exact ih_4 (k + 1) (by omega) (by omega)
        · refine wa_aload_n dX10_counted_18 rfl 2 rfl ?_
          refine wa_getr gX10_counted_19 (rfl) rfl ?_
          refine wa_iload_n dX10_counted_22 rfl 0 rfl ?_
          refine wa_ialdN (e := k) dX10_counted_23 (rfl) (by omega) (by decide) ?_
          refine wa_eqi (y := (C.1 18 (k))) (x103 _ (by omega)) ?_
          refine wa_iconst (1) dX10_counted_24 (by decide) ?_
          refine wa_icmp_eq 51 dX10_counted_25 (by decide) (fun c_25 => ?_) (fun c_25 => ?_)
          · refine wa_iconst (1) dX10_counted_51 (by decide) ?_
            refine wa_goto 56 dX10_counted_52 (by decide) ?_
            refine wa_iaddN (a := wCnt (ct1 C what) k) (b := 1) dX10_counted_56 ?_
            refine wa_eqi (y := (nI (wCnt (ct1 C what) (k + 1)))) (congrArg nI (by
              have e : wCnt (ct1 C what) (k + 1) = wCnt (ct1 C what) k + (if ct1 C what k then 1 else 0) := rfl
              rw [e]; congr 1
              unfold ct1; first | (rw [decide_eq_true c_15, show isOfB (C.1 18 k) 1 = true from by (unfold isOfB; rw [c_25]; rfl)]; rfl) | (rw [decide_eq_true c_15, show isOfB (C.1 18 k) 1 = true from by (unfold isOfB; rw [c_35]; rfl)]; rfl) | (rw [decide_eq_true c_40, c_48]; simp; done) | (rw [show (decide (what = 3) && isOfB (C.1 18 k) 1) = false from by first | (rw [decide_eq_false c_15]; rfl) | (unfold isOfB; rw [decide_eq_false c_25, decide_eq_false c_35]; simp), show (decide (what = 4) && sFix (C.1 18 k)) = false from by first | (rw [decide_eq_false c_40]; rfl) | (rw [c_48]; simp)]; rfl))) ?_
            refine wa_istore_n [(2, .int (nI (wCnt (ct1 C what) (k + 1)))), (3, .int (nI (k))), (0, wm_r G (96)), (1, .int (nI (what)))] dX10_counted_57 rfl (by decide) rfl ?_
            refine wa_iinc ((nI (k + 1))) [(3, .int (nI (k + 1))), (2, .int (nI (wCnt (ct1 C what) (k + 1)))), (0, wm_r G (96)), (1, .int (nI (what)))] dX10_counted_58 1 rfl (nI_inc _) (by decide) rfl ?_
            refine wa_goto 4 dX10_counted_61 (by decide) ?_
            exact ih_4 (k + 1) (by omega) (by omega)
          · refine wa_aload_n dX10_counted_28 rfl 2 rfl ?_
            refine wa_getr gX10_counted_29 (rfl) rfl ?_
            refine wa_iload_n dX10_counted_32 rfl 0 rfl ?_
            refine wa_ialdN (e := k) dX10_counted_33 (rfl) (by omega) (by decide) ?_
            refine wa_eqi (y := (C.1 18 (k))) (x103 _ (by omega)) ?_
            refine wa_iconst (4) dX10_counted_34 (by decide) ?_
            refine wa_icmp_eq 51 dX10_counted_35 (by decide) (fun c_35 => ?_) (fun c_35 => ?_)
            · refine wa_iconst (1) dX10_counted_51 (by decide) ?_
              refine wa_goto 56 dX10_counted_52 (by decide) ?_
              refine wa_iaddN (a := wCnt (ct1 C what) k) (b := 1) dX10_counted_56 ?_
              refine wa_eqi (y := (nI (wCnt (ct1 C what) (k + 1)))) (congrArg nI (by
                have e : wCnt (ct1 C what) (k + 1) = wCnt (ct1 C what) k + (if ct1 C what k then 1 else 0) := rfl
                rw [e]; congr 1
                unfold ct1; first | (rw [decide_eq_true c_15, show isOfB (C.1 18 k) 1 = true from by (unfold isOfB; rw [c_25]; rfl)]; rfl) | (rw [decide_eq_true c_15, show isOfB (C.1 18 k) 1 = true from by (unfold isOfB; rw [c_35]; rfl)]; rfl) | (rw [decide_eq_true c_40, c_48]; simp; done) | (rw [show (decide (what = 3) && isOfB (C.1 18 k) 1) = false from by first | (rw [decide_eq_false c_15]; rfl) | (unfold isOfB; rw [decide_eq_false c_25, decide_eq_false c_35]; simp), show (decide (what = 4) && sFix (C.1 18 k)) = false from by first | (rw [decide_eq_false c_40]; rfl) | (rw [c_48]; simp)]; rfl))) ?_
              refine wa_istore_n [(2, .int (nI (wCnt (ct1 C what) (k + 1)))), (3, .int (nI (k))), (0, wm_r G (96)), (1, .int (nI (what)))] dX10_counted_57 rfl (by decide) rfl ?_
              refine wa_iinc ((nI (k + 1))) [(3, .int (nI (k + 1))), (2, .int (nI (wCnt (ct1 C what) (k + 1)))), (0, wm_r G (96)), (1, .int (nI (what)))] dX10_counted_58 1 rfl (nI_inc _) (by decide) rfl ?_
              refine wa_goto 4 dX10_counted_61 (by decide) ?_
              exact ih_4 (k + 1) (by omega) (by omega)
            · refine wa_iload_n dX10_counted_38 rfl 3 rfl ?_
              refine wa_iconst (4) dX10_counted_39 (by decide) ?_
              refine wa_icmp_neN (a := what) (b := 4) 55 dX10_counted_40 (by decide) (by omega) (by omega) (fun c_40 => ?_) (fun c_40 => ?_)
              · refine wa_iconst (0) dX10_counted_55 (by decide) ?_
                refine wa_iaddN (a := wCnt (ct1 C what) k) (b := 0) dX10_counted_56 ?_
                refine wa_eqi (y := (nI (wCnt (ct1 C what) (k + 1)))) (congrArg nI (by
                  have e : wCnt (ct1 C what) (k + 1) = wCnt (ct1 C what) k + (if ct1 C what k then 1 else 0) := rfl
                  rw [e]; congr 1
                  unfold ct1; first | (rw [decide_eq_true c_15, show isOfB (C.1 18 k) 1 = true from by (unfold isOfB; rw [c_25]; rfl)]; rfl) | (rw [decide_eq_true c_15, show isOfB (C.1 18 k) 1 = true from by (unfold isOfB; rw [c_35]; rfl)]; rfl) | (rw [decide_eq_true c_40, c_48]; simp; done) | (rw [show (decide (what = 3) && isOfB (C.1 18 k) 1) = false from by first | (rw [decide_eq_false c_15]; rfl) | (unfold isOfB; rw [decide_eq_false c_25, decide_eq_false c_35]; simp), show (decide (what = 4) && sFix (C.1 18 k)) = false from by first | (rw [decide_eq_false c_40]; rfl) | (rw [c_48]; simp)]; rfl))) ?_
                refine wa_istore_n [(2, .int (nI (wCnt (ct1 C what) (k + 1)))), (3, .int (nI (k))), (0, wm_r G (96)), (1, .int (nI (what)))] dX10_counted_57 rfl (by decide) rfl ?_
                refine wa_iinc ((nI (k + 1))) [(3, .int (nI (k + 1))), (2, .int (nI (wCnt (ct1 C what) (k + 1)))), (0, wm_r G (96)), (1, .int (nI (what)))] dX10_counted_58 1 rfl (nI_inc _) (by decide) rfl ?_
                refine wa_goto 4 dX10_counted_61 (by decide) ?_
                exact ih_4 (k + 1) (by omega) (by omega)
              · refine wa_aload_n dX10_counted_43 rfl 2 rfl ?_
                refine wa_iload_n dX10_counted_44 rfl 0 rfl ?_
                refine wa_cVi (x_isFixed C w h hX hW k (by omega)) vX10_isFixed iX10_counted_45 (rfl) rfl rfl rfl (Nat.le_of_ble_eq_true rfl) ⟨by decide, by decide⟩ ?_
                refine wa_if_eqB 55 dX10_counted_48 (by decide) (fun (c_48 : (sFix (C.1 18 k)) = false) => ?_) (fun (c_48 : (sFix (C.1 18 k)) = true) => ?_)
                · refine wa_iconst (0) dX10_counted_55 (by decide) ?_
                  refine wa_iaddN (a := wCnt (ct1 C what) k) (b := 0) dX10_counted_56 ?_
                  refine wa_eqi (y := (nI (wCnt (ct1 C what) (k + 1)))) (congrArg nI (by
                    have e : wCnt (ct1 C what) (k + 1) = wCnt (ct1 C what) k + (if ct1 C what k then 1 else 0) := rfl
                    rw [e]; congr 1
                    unfold ct1; first | (rw [decide_eq_true c_15, show isOfB (C.1 18 k) 1 = true from by (unfold isOfB; rw [c_25]; rfl)]; rfl) | (rw [decide_eq_true c_15, show isOfB (C.1 18 k) 1 = true from by (unfold isOfB; rw [c_35]; rfl)]; rfl) | (rw [decide_eq_true c_40, c_48]; simp; done) | (rw [show (decide (what = 3) && isOfB (C.1 18 k) 1) = false from by first | (rw [decide_eq_false c_15]; rfl) | (unfold isOfB; rw [decide_eq_false c_25, decide_eq_false c_35]; simp), show (decide (what = 4) && sFix (C.1 18 k)) = false from by first | (rw [decide_eq_false c_40]; rfl) | (rw [c_48]; simp)]; rfl))) ?_
                  refine wa_istore_n [(2, .int (nI (wCnt (ct1 C what) (k + 1)))), (3, .int (nI (k))), (0, wm_r G (96)), (1, .int (nI (what)))] dX10_counted_57 rfl (by decide) rfl ?_
                  refine wa_iinc ((nI (k + 1))) [(3, .int (nI (k + 1))), (2, .int (nI (wCnt (ct1 C what) (k + 1)))), (0, wm_r G (96)), (1, .int (nI (what)))] dX10_counted_58 1 rfl (nI_inc _) (by decide) rfl ?_
                  refine wa_goto 4 dX10_counted_61 (by decide) ?_
                  exact ih_4 (k + 1) (by omega) (by omega)
                · refine wa_iconst (1) dX10_counted_51 (by decide) ?_
                  refine wa_goto 56 dX10_counted_52 (by decide) ?_
                  refine wa_iaddN (a := wCnt (ct1 C what) k) (b := 1) dX10_counted_56 ?_
                  refine wa_eqi (y := (nI (wCnt (ct1 C what) (k + 1)))) (congrArg nI (by
                    have e : wCnt (ct1 C what) (k + 1) = wCnt (ct1 C what) k + (if ct1 C what k then 1 else 0) := rfl
                    rw [e]; congr 1
                    unfold ct1; first | (rw [decide_eq_true c_15, show isOfB (C.1 18 k) 1 = true from by (unfold isOfB; rw [c_25]; rfl)]; rfl) | (rw [decide_eq_true c_15, show isOfB (C.1 18 k) 1 = true from by (unfold isOfB; rw [c_35]; rfl)]; rfl) | (rw [decide_eq_true c_40, c_48]; simp; done) | (rw [show (decide (what = 3) && isOfB (C.1 18 k) 1) = false from by first | (rw [decide_eq_false c_15]; rfl) | (unfold isOfB; rw [decide_eq_false c_25, decide_eq_false c_35]; simp), show (decide (what = 4) && sFix (C.1 18 k)) = false from by first | (rw [decide_eq_false c_40]; rfl) | (rw [c_48]; simp)]; rfl))) ?_
                  refine wa_istore_n [(2, .int (nI (wCnt (ct1 C what) (k + 1)))), (3, .int (nI (k))), (0, wm_r G (96)), (1, .int (nI (what)))] dX10_counted_57 rfl (by decide) rfl ?_
                  refine wa_iinc ((nI (k + 1))) [(3, .int (nI (k + 1))), (2, .int (nI (wCnt (ct1 C what) (k + 1)))), (0, wm_r G (96)), (1, .int (nI (what)))] dX10_counted_58 1 rfl (nI_inc _) (by decide) rfl ?_
                  refine wa_goto 4 dX10_counted_61 (by decide) ?_
                  exact ih_4 (k + 1) (by omega) (by omega)
  exact L_4 _ 0 (Nat.lt_succ_self _) (Nat.zero_le _)

theorem x_count_bad {G : wm_G} {M : wm_M} (what : Int32) (hw : wIn what 8 = false) : MD G t_X10_count [wm_r G (96), .int (what)] (M) (some (.int (-1))) (M) := by
  refine wm_met (by decide) (Nat.le_of_ble_eq_true rfl) ?_
  show WA G t_X10_count (fun v_ N_ => v_ = some (.int (-1)) ∧ N_ = M) 0 [(0, wm_r G (96)), (1, .int (what))] [] (M)
  refine wa_iload_n dX10_count_0 rfl 1 rfl ?_
  refine wa_iconst (0) dX10_count_1 (by decide) ?_
  refine wa_bipush (7) dX10_count_2 (by decide) ?_
  refine wa_cSi (x_in what 0 7) vX10_in iX10_count_4 rfl rfl (Nat.le_of_ble_eq_true rfl) ⟨by decide, by decide⟩ ?_
  refine wa_eqi (y := (0)) (by rw [show inC what 0 7 = wIn what 8 from inC_w (m := 7) (by decide) _, hw]; rfl) ?_
  refine wa_if_eq 18 dX10_count_7 (by decide) (fun c_7 => ?_) (fun c_7 => absurd c_7 (by decide))
  refine wa_iconst (-1) dX10_count_18 (by decide) ?_
  exact wa_iret dX10_count_19 rfl ⟨congrArg (fun z => some (Value.int z)) (rfl), rfl⟩

theorem x_count_ok {G : wm_G} {M : wm_M} (C : wm_M) (w h rn : Nat) (hX : xStn C M w h) (hW : TW C w h) (hRo : cRow C) (hTx : cTxt C) (hLw : cLaw C) (h98 : ∀ r, r < 6 → M.1 98 r = C.1 9 r) (h101 : ∀ r, r < 4 → M.1 101 r = C.1 16 r) (h109 : ∀ r, r < 4 → M.1 109 r = C.1 35 r) (h36 : M.1 96 36 = nI rn) (what : Nat) (h8 : what < 8) : MD G t_X10_count [wm_r G (96), .int (nI (what))] (M) (some (.int (tal C w h rn what))) (M) := by
  refine wm_met (by decide) (Nat.le_of_ble_eq_true rfl) ?_
  show WA G t_X10_count (fun v_ N_ => v_ = some (.int (tal C w h rn what)) ∧ N_ = M) 0 [(0, wm_r G (96)), (1, .int (nI (what)))] [] (M)
  refine wa_iload_n dX10_count_0 rfl 1 rfl ?_
  refine wa_iconst (0) dX10_count_1 (by decide) ?_
  refine wa_bipush (7) dX10_count_2 (by decide) ?_
  refine wa_cSi (x_in (nI what) 0 7) vX10_in iX10_count_4 rfl rfl (Nat.le_of_ble_eq_true rfl) ⟨by decide, by decide⟩ ?_
  refine wa_eqi (y := (1)) (by rw [show inC (nI what) 0 7 = wIn (nI what) 8 from inC_w (m := 7) (by decide) _, wIn_nI (by omega), decide_eq_true h8]; rfl) ?_
  refine wa_if_eq 18 dX10_count_7 (by decide) (fun c_7 => absurd c_7 (by decide)) (fun c_7 => ?_)
  refine wa_aload_n dX10_count_10 rfl 0 rfl ?_
  refine wa_iload_n dX10_count_11 rfl 1 rfl ?_
  refine wa_cVi (x_counted C w h rn hX hW hRo hTx hLw h98 h101 h109 h36 what h8) vX10_counted iX10_count_12 (rfl) rfl rfl rfl (Nat.le_of_ble_eq_true rfl) ⟨by decide, by decide⟩ ?_
  refine wa_goto 19 dX10_count_15 (by decide) ?_
  exact wa_iret dX10_count_19 rfl ⟨congrArg (fun z => some (Value.int z)) (rfl), rfl⟩

theorem x_mix {G : wm_G} {M : wm_M} (v : Int64) : MD G t_X10_mix [wm_r G (96), .long (v)] (M) (none) (wJ M 96 40 (31 * M.2.1 96 40 + v)) := by
  refine wm_met (by decide) (Nat.le_of_ble_eq_true rfl) ?_
  show WA G t_X10_mix (fun v_ N_ => v_ = none ∧ N_ = wJ M 96 40 (31 * M.2.1 96 40 + v)) 0 [(0, wm_r G (96)), (1, .long (v))] [] (M)
  refine wa_aload_n dX10_mix_0 rfl 0 rfl ?_
  refine wa_ldc2 (31) dX10_mix_1 kX10_mix_1 ?_
  refine wa_aload_n dX10_mix_4 rfl 0 rfl ?_
  refine wa_getl gX10_mix_5 (rfl) rfl ?_
  refine wa_lmul dX10_mix_8 ?_
  refine wa_lload_n dX10_mix_9 rfl 1 rfl ?_
  refine wa_ladd dX10_mix_10 ?_
  refine wa_putl gX10_mix_11 (rfl) rfl ?_
  exact wa_vret dX10_mix_14 rfl ⟨rfl, rfl⟩

set_option maxHeartbeats 8000000 in
theorem x_mixTown {G : wm_G} {M : wm_M} (C : wm_M) (w h rn : Nat) (hX : xStn C M w h) (hW : TW C w h) (hRo : cRow C) (hTx : cTxt C) (hLw : cLaw C) (h98 : ∀ r, r < 6 → M.1 98 r = C.1 9 r) (h101 : ∀ r, r < 4 → M.1 101 r = C.1 16 r) (h109 : ∀ r, r < 4 → M.1 109 r = C.1 35 r) (h36 : M.1 96 36 = nI rn) (s yr : Nat) (hN : xNow M (w * h) s yr) (hXL : xLaw C M) (hK : xKep C M) (hRO : RecOk C w h rn) (hE : xEng C M w h rn) (hKp : cKep C (w * h)) : MD G t_X10_mixTown [wm_r G (96)] (hsM M (hFold 17 (fun i => (tal C w h rn i).toInt64) 8)) (none) (hsM M (dgK C (eFold C (tFold (dgS C w h rn s yr (w * h)) (C.1 35) (fun r => C.1 (31 + r)) 4) rn) 3)) := by
  obtain ⟨x10, x11, x12, x103, x104, x105, x106⟩ := id hX
  have hn6 := TW_n hW
  have hw3 := hW.2.2.1
  have hh2 := hW.2.2.2
  have hr4 := hRO.2.1
  refine wm_met (by decide) (Nat.le_of_ble_eq_true rfl) ?_
  show WA G t_X10_mixTown (fun v_ N_ => v_ = none ∧ N_ = hsM M (dgK C (eFold C (tFold (dgS C w h rn s yr (w * h)) (C.1 35) (fun r => C.1 (31 + r)) 4) rn) 3)) 0 [(0, wm_r G (96))] [] (hsM M (hFold 17 (fun i => (tal C w h rn i).toInt64) 8))
  refine wa_aload_n dX10_mixTown_0 rfl 0 rfl ?_
  refine wa_aload_n dX10_mixTown_1 rfl 0 rfl ?_
  refine wa_geti gX10_mixTown_2 (rfl) rfl ?_
  refine wa_eqi (y := (nI (yr))) (hN.2) ?_
  refine wa_i2l dX10_mixTown_5 ?_
  refine wa_cVv (x_mix (M := hsM M (hFold 17 (fun i => (tal C w h rn i).toInt64) 8)) ((nI yr).toInt64)) vX10_mix iX10_mixTown_6 (rfl) rfl rfl rfl (Nat.le_of_ble_eq_true rfl) ⟨by decide, by decide⟩ ?_
  refine wa_eqm (M' := hsM M (dgS C w h rn s yr 0)) (hsM_2.trans (congrArg (hsM M) (mixE.trans (rfl)))) ?_
  refine wa_iconst (0) dX10_mixTown_9 (by decide) ?_
  refine wa_istore_n [(1, .int (0)), (0, wm_r G (96))] dX10_mixTown_10 rfl (by decide) rfl ?_
  have L_11 : ∀ (n_ : Nat) (k : Nat), (w * h - k) < n_ → (k ≤ w * h) → WA G t_X10_mixTown (fun v_ N_ => v_ = none ∧ N_ = hsM M (dgK C (eFold C (tFold (dgS C w h rn s yr (w * h)) (C.1 35) (fun r => C.1 (31 + r)) 4) rn) 3)) 11 [(1, .int (nI (k))), (0, wm_r G (96))] [] (hsM M (dgS C w h rn s yr k)) := by
    intro n_
    induction n_ with
    | zero => intro k h_; exact absurd h_ (Nat.not_lt_zero _)
    | succ n_ ih_11 =>
      intro k h_ hk
      refine wa_iload_n dX10_mixTown_11 rfl 0 rfl ?_
      refine wa_aload_n dX10_mixTown_12 rfl 1 rfl ?_
      refine wa_geti gX10_mixTown_13 (rfl) rfl ?_
      refine wa_eqi (y := (nI (w * h))) (x12) ?_
      refine wa_icmp_geN (a := k) (b := w * h) 50 dX10_mixTown_16 (by decide) (by omega) (by omega) (fun c_16 => ?_) (fun c_16 => ?_)
      · refine wa_iconst (0) dX10_mixTown_50 (by decide) ?_
        refine wa_istore_n [(1, .int (0)), (0, wm_r G (96))] dX10_mixTown_51 rfl (by decide) rfl ?_
        have L_52 : ∀ (n_ : Nat) (l : Nat), (4 - l) < n_ → (l ≤ 4) → WA G t_X10_mixTown (fun v_ N_ => v_ = none ∧ N_ = hsM M (dgK C (eFold C (tFold (dgS C w h rn s yr (w * h)) (C.1 35) (fun r => C.1 (31 + r)) 4) rn) 3)) 52 [(1, .int (nI (l))), (0, wm_r G (96))] [] (hsM M (tFold (dgS C w h rn s yr (w * h)) (C.1 35) (fun r => C.1 (31 + r)) l)) := by
          intro n_
          induction n_ with
          | zero => intro l h_; exact absurd h_ (Nat.not_lt_zero _)
          | succ n_ ih_52 =>
            intro l h_ hl
            refine wa_iload_n dX10_mixTown_52 rfl 0 rfl ?_
            refine wa_iconst (4) dX10_mixTown_53 (by decide) ?_
            refine wa_icmp_geN (a := l) (b := 4) 107 dX10_mixTown_54 (by decide) (by omega) (by omega) (fun c_54 => ?_) (fun c_54 => ?_)
            · refine wa_iconst (0) dX10_mixTown_107 (by decide) ?_
              refine wa_istore_n [(1, .int (0)), (0, wm_r G (96))] dX10_mixTown_108 rfl (by decide) rfl ?_
              have L_109 : ∀ (n_ : Nat) (e : Nat), (rn - e) < n_ → (e ≤ rn) → WA G t_X10_mixTown (fun v_ N_ => v_ = none ∧ N_ = hsM M (dgK C (eFold C (tFold (dgS C w h rn s yr (w * h)) (C.1 35) (fun r => C.1 (31 + r)) 4) rn) 3)) 109 [(1, .int (nI (e))), (0, wm_r G (96))] [] (hsM M (eFold C (tFold (dgS C w h rn s yr (w * h)) (C.1 35) (fun r => C.1 (31 + r)) 4) e)) := by
                intro n_
                induction n_ with
                | zero => intro e h_; exact absurd h_ (Nat.not_lt_zero _)
                | succ n_ ih_109 =>
                  intro e h_ he
                  refine wa_iload_n dX10_mixTown_109 rfl 0 rfl ?_
                  refine wa_aload_n dX10_mixTown_110 rfl 1 rfl ?_
                  refine wa_geti gX10_mixTown_111 (rfl) rfl ?_
                  refine wa_eqi (y := (nI (rn))) (h36) ?_
                  refine wa_icmp_geN (a := e) (b := rn) 168 dX10_mixTown_114 (by decide) (by omega) (by omega) (fun c_114 => ?_) (fun c_114 => ?_)
                  · refine wa_iconst (0) dX10_mixTown_168 (by decide) ?_
                    refine wa_istore_n [(1, .int (0)), (0, wm_r G (96))] dX10_mixTown_169 rfl (by decide) rfl ?_
                    have L_170 : ∀ (n_ : Nat) (k : Nat), (3 - k) < n_ → (k ≤ 3) → WA G t_X10_mixTown (fun v_ N_ => v_ = none ∧ N_ = hsM M (dgK C (eFold C (tFold (dgS C w h rn s yr (w * h)) (C.1 35) (fun r => C.1 (31 + r)) 4) rn) 3)) 170 [(1, .int (nI (k))), (0, wm_r G (96))] [] (hsM M (dgK C (eFold C (tFold (dgS C w h rn s yr (w * h)) (C.1 35) (fun r => C.1 (31 + r)) 4) rn) k)) := by
                      intro n_
                      induction n_ with
                      | zero => intro k h_; exact absurd h_ (Nat.not_lt_zero _)
                      | succ n_ ih_170 =>
                        intro k h_ hk
                        refine wa_iload_n dX10_mixTown_170 rfl 0 rfl ?_
                        refine wa_iconst (3) dX10_mixTown_171 (by decide) ?_
                        refine wa_icmp_geN (a := k) (b := 3) 212 dX10_mixTown_172 (by decide) (by omega) (by omega) (fun c_172 => ?_) (fun c_172 => ?_)
                        · exact wa_vret dX10_mixTown_212 rfl ⟨rfl, by rw [show k = 3 by omega]⟩
                        · refine wa_aload_n dX10_mixTown_175 rfl 1 rfl ?_
                          refine wa_aload_n dX10_mixTown_176 rfl 1 rfl ?_
                          refine wa_getr gX10_mixTown_177 (rfl) rfl ?_
                          refine wa_iload_n dX10_mixTown_180 rfl 0 rfl ?_
                          refine wa_ialdN (e := k) dX10_mixTown_181 (rfl) (by omega) (by decide) ?_
                          refine wa_eqi (y := (keI C k)) (keI_112 hK (by omega)) ?_
                          refine wa_i2l dX10_mixTown_182 ?_
                          refine wa_cVv (x_mix (M := hsM M (dgK C (eFold C (tFold (dgS C w h rn s yr (w * h)) (C.1 35) (fun r => C.1 (31 + r)) 4) rn) k)) ((keI C k).toInt64)) vX10_mix iX10_mixTown_183 (rfl) rfl rfl rfl (Nat.le_of_ble_eq_true rfl) ⟨by decide, by decide⟩ ?_
                          refine wa_eqm (M' := hsM M (31 * (dgK C (eFold C (tFold (dgS C w h rn s yr (w * h)) (C.1 35) (fun r => C.1 (31 + r)) 4) rn) k) + (keI C k).toInt64)) (hsM_2.trans (congrArg (hsM M) (mixE.trans (rfl)))) ?_
                          refine wa_aload_n dX10_mixTown_186 rfl 1 rfl ?_
                          refine wa_getr gX10_mixTown_187 (rfl) rfl ?_
                          refine wa_iload_n dX10_mixTown_190 rfl 0 rfl ?_
                          refine wa_ialdN (e := k) dX10_mixTown_191 (rfl) (by omega) (by decide) ?_
                          refine wa_eqi (y := (keI C k)) (keI_112 hK (by omega)) ?_
                          refine wa_if_lt 206 dX10_mixTown_192 (by decide) (fun c_192 => ?_) (fun c_192 => ?_)
                          · have hk9 := keI_neg hn6 hKp (by omega) c_192
                            refine wa_iinc ((nI (k + 1))) [(1, .int (nI (k + 1))), (0, wm_r G (96))] dX10_mixTown_206 0 rfl (nI_inc _) (by decide) rfl ?_
                            refine wa_goto 170 dX10_mixTown_209 (by decide) ?_
                            first | rw [show 31 * (dgK C (eFold C (tFold (dgS C w h rn s yr (w * h)) (C.1 35) (fun r => C.1 (31 + r)) 4) rn) k) + (keI C k).toInt64 = dgK C (eFold C (tFold (dgS C w h rn s yr (w * h)) (C.1 35) (fun r => C.1 (31 + r)) 4) rn) (k + 1) from keI_n hk9] | skip
                            exact ih_170 (k + 1) (by omega) (by omega)
                          · have hk9 := keI_pos hKp (by omega) c_192
                            refine wa_aload_n dX10_mixTown_195 rfl 1 rfl ?_
                            refine wa_aload_n dX10_mixTown_196 rfl 1 rfl ?_
                            refine wa_getr gX10_mixTown_197 (rfl) rfl ?_
                            refine wa_iload_n dX10_mixTown_200 rfl 0 rfl ?_
                            refine wa_ialdN (e := k) dX10_mixTown_201 (rfl) (by omega) (by decide) ?_
                            refine wa_eqi (y := (C.1 95 k)) (keI_113 hK (by omega) hk9) ?_
                            refine wa_i2l dX10_mixTown_202 ?_
                            refine wa_cVv (x_mix (M := hsM M (31 * (dgK C (eFold C (tFold (dgS C w h rn s yr (w * h)) (C.1 35) (fun r => C.1 (31 + r)) 4) rn) k) + (keI C k).toInt64)) ((C.1 95 k).toInt64)) vX10_mix iX10_mixTown_203 (rfl) rfl rfl rfl (Nat.le_of_ble_eq_true rfl) ⟨by decide, by decide⟩ ?_
                            refine wa_eqm (M' := hsM M (dgK C (eFold C (tFold (dgS C w h rn s yr (w * h)) (C.1 35) (fun r => C.1 (31 + r)) 4) rn) (k + 1))) (hsM_2.trans (congrArg (hsM M) (mixE.trans (keI_s hk9)))) ?_
                            refine wa_iinc ((nI (k + 1))) [(1, .int (nI (k + 1))), (0, wm_r G (96))] dX10_mixTown_206 0 rfl (nI_inc _) (by decide) rfl ?_
                            refine wa_goto 170 dX10_mixTown_209 (by decide) ?_
                            first | rw [show 31 * (dgK C (eFold C (tFold (dgS C w h rn s yr (w * h)) (C.1 35) (fun r => C.1 (31 + r)) 4) rn) k) + (keI C k).toInt64 = dgK C (eFold C (tFold (dgS C w h rn s yr (w * h)) (C.1 35) (fun r => C.1 (31 + r)) 4) rn) (k + 1) from keI_n hk9] | skip
                            exact ih_170 (k + 1) (by omega) (by omega)
                    rw [show eFold C (tFold (dgS C w h rn s yr (w * h)) (C.1 35) (fun r => C.1 (31 + r)) 4) e = dgK C (eFold C (tFold (dgS C w h rn s yr (w * h)) (C.1 35) (fun r => C.1 (31 + r)) 4) rn) 0 by rw [show e = rn by omega]; rfl]
                    exact L_170 _ 0 (Nat.lt_succ_self _) (Nat.zero_le _)
                  · obtain ⟨y, st, en, hre⟩ := hRO.2.2 e (by omega)
                    have heS : eS C e = st := by unfold eS; rw [hre.2.2.1, nI_clamp (by have := hre.2.2.2.1; omega)]
                    have hlen : sLen w h st ≤ 3 := by unfold sLen; split <;> omega
                    have hst := hre.2.2.2.1
                    obtain ⟨g0, g1, g2, g3⟩ := hE.2 e (by omega)
                    rw [heS] at g3
                    have hr4 := hRO.2.1
                    refine wa_iconst (0) dX10_mixTown_117 (by decide) ?_
                    refine wa_istore_n [(2, .int (0)), (1, .int (nI (e))), (0, wm_r G (96))] dX10_mixTown_118 rfl (by decide) rfl ?_
                    have L_119 : ∀ (n_ : Nat) (j : Nat), (3 + sLen w h st - j) < n_ → (j ≤ 3 + sLen w h st) → WA G t_X10_mixTown (fun v_ N_ => v_ = none ∧ N_ = hsM M (dgK C (eFold C (tFold (dgS C w h rn s yr (w * h)) (C.1 35) (fun r => C.1 (31 + r)) 4) rn) 3)) 119 [(2, .int (nI (j))), (1, .int (nI (e))), (0, wm_r G (96))] [] (hsM M (hFold (eFold C (tFold (dgS C w h rn s yr (w * h)) (C.1 35) (fun r => C.1 (31 + r)) 4) e) (fun j => if j = 0 then (C.1 55 e).toInt64 else if j = 1 then (C.1 56 e).toInt64 else if j = 2 then (C.1 57 e).toInt64 else (C.1 (60 + e) (j - 3)).toInt64) j)) := by
                      intro n_
                      induction n_ with
                      | zero => intro j h_; exact absurd h_ (Nat.not_lt_zero _)
                      | succ n_ ih_119 =>
                        intro j h_ hj
                        refine wa_iload_n dX10_mixTown_119 rfl 0 rfl ?_
                        refine wa_iconst (3) dX10_mixTown_120 (by decide) ?_
                        refine wa_aload_n dX10_mixTown_121 rfl 2 rfl ?_
                        refine wa_aload_n dX10_mixTown_122 rfl 2 rfl ?_
                        refine wa_getr gX10_mixTown_123 (rfl) rfl ?_
                        refine wa_bipush (6) dX10_mixTown_126 (by decide) ?_
                        refine wa_iload_n dX10_mixTown_128 rfl 1 rfl ?_
                        refine wa_imulN (a := 6) (b := e) dX10_mixTown_129 ?_
                        refine wa_iconst (1) dX10_mixTown_130 (by decide) ?_
                        refine wa_iaddN (a := 6 * e) (b := 1) dX10_mixTown_131 ?_
                        refine wa_ialdN (e := 6 * e + 1) dX10_mixTown_132 (rfl) (by omega) (by decide) ?_
                        refine wa_eqi (y := (nI (st))) (g1.trans hre.2.2.1) ?_
                        refine wa_cVi (x_longOf (M := hsM M (hFold (eFold C (tFold (dgS C w h rn s yr (w * h)) (C.1 35) (fun r => C.1 (31 + r)) 4) e) (fun j => if j = 0 then (C.1 55 e).toInt64 else if j = 1 then (C.1 56 e).toInt64 else if j = 2 then (C.1 57 e).toInt64 else (C.1 (60 + e) (j - 3)).toInt64) j)) C w h hX hW st (by omega)) vX10_longOf iX10_mixTown_133 (rfl) rfl rfl rfl (Nat.le_of_ble_eq_true rfl) ⟨by decide, by decide⟩ ?_
                        refine wa_iaddN (a := 3) (b := sLen w h st) dX10_mixTown_136 ?_
                        refine wa_icmp_geN (a := j) (b := 3 + (sLen w h st)) 162 dX10_mixTown_137 (by decide) (by omega) (by omega) (fun c_137 => ?_) (fun c_137 => ?_)
                        · refine wa_iinc ((nI (e + 1))) [(1, .int (nI (e + 1))), (2, .int (nI (j))), (0, wm_r G (96))] dX10_mixTown_162 1 rfl (nI_inc _) (by decide) rfl ?_
                          refine wa_goto 109 dX10_mixTown_165 (by decide) ?_
                          refine wa_sub [0, 2] rfl ?_
                          rw [show hFold (eFold C (tFold (dgS C w h rn s yr (w * h)) (C.1 35) (fun r => C.1 (31 + r)) 4) e) (fun j => if j = 0 then (C.1 55 e).toInt64 else if j = 1 then (C.1 56 e).toInt64 else if j = 2 then (C.1 57 e).toInt64 else (C.1 (60 + e) (j - 3)).toInt64) j = eFold C (tFold (dgS C w h rn s yr (w * h)) (C.1 35) (fun r => C.1 (31 + r)) 4) (e + 1) from by rw [show j = 3 + sLen w h st by omega]; exact eg_fold hw3 hh2 hre]
                          exact ih_109 (e + 1) (by omega) (by omega)
                        · refine wa_aload_n dX10_mixTown_140 rfl 2 rfl ?_
                          refine wa_aload_n dX10_mixTown_141 rfl 2 rfl ?_
                          refine wa_getr gX10_mixTown_142 (rfl) rfl ?_
                          refine wa_bipush (6) dX10_mixTown_145 (by decide) ?_
                          refine wa_iload_n dX10_mixTown_147 rfl 1 rfl ?_
                          refine wa_imulN (a := 6) (b := e) dX10_mixTown_148 ?_
                          refine wa_iload_n dX10_mixTown_149 rfl 0 rfl ?_
                          refine wa_iaddN (a := 6 * e) (b := j) dX10_mixTown_150 ?_
                          refine wa_ialdN (e := 6 * e + j) dX10_mixTown_151 (rfl) (by omega) (by decide) ?_
                          refine wa_eqi (y := (engI C e j)) (engI_eq g0 g1 g2 g3 (by omega)) ?_
                          refine wa_i2l dX10_mixTown_152 ?_
                          refine wa_eql (y := (fun j => if j = 0 then (C.1 55 e).toInt64 else if j = 1 then (C.1 56 e).toInt64 else if j = 2 then (C.1 57 e).toInt64 else (C.1 (60 + e) (j - 3)).toInt64) j) (engI_l C e j) ?_
                          refine wa_cVv (x_mix (M := hsM M (hFold (eFold C (tFold (dgS C w h rn s yr (w * h)) (C.1 35) (fun r => C.1 (31 + r)) 4) e) (fun j => if j = 0 then (C.1 55 e).toInt64 else if j = 1 then (C.1 56 e).toInt64 else if j = 2 then (C.1 57 e).toInt64 else (C.1 (60 + e) (j - 3)).toInt64) j)) ((fun j => if j = 0 then (C.1 55 e).toInt64 else if j = 1 then (C.1 56 e).toInt64 else if j = 2 then (C.1 57 e).toInt64 else (C.1 (60 + e) (j - 3)).toInt64) j)) vX10_mix iX10_mixTown_153 (rfl) rfl rfl rfl (Nat.le_of_ble_eq_true rfl) ⟨by decide, by decide⟩ ?_
                          refine wa_eqm (M' := hsM M (hFold (eFold C (tFold (dgS C w h rn s yr (w * h)) (C.1 35) (fun r => C.1 (31 + r)) 4) e) (fun j => if j = 0 then (C.1 55 e).toInt64 else if j = 1 then (C.1 56 e).toInt64 else if j = 2 then (C.1 57 e).toInt64 else (C.1 (60 + e) (j - 3)).toInt64) (j + 1))) (hsM_2.trans (congrArg (hsM M) (mixE.trans (rfl)))) ?_
                          refine wa_iinc ((nI (j + 1))) [(2, .int (nI (j + 1))), (1, .int (nI (e))), (0, wm_r G (96))] dX10_mixTown_156 0 rfl (nI_inc _) (by decide) rfl ?_
                          refine wa_goto 119 dX10_mixTown_159 (by decide) ?_
                          exact ih_119 (j + 1) (by omega) (by omega)
                    exact L_119 _ 0 (Nat.lt_succ_self _) (Nat.zero_le _)
              rw [show tFold (dgS C w h rn s yr (w * h)) (C.1 35) (fun r => C.1 (31 + r)) l = eFold C (tFold (dgS C w h rn s yr (w * h)) (C.1 35) (fun r => C.1 (31 + r)) 4) 0 by rw [show l = 4 by omega]; rfl]
              exact L_109 _ 0 (Nat.lt_succ_self _) (Nat.zero_le _)
            · refine wa_aload_n dX10_mixTown_57 rfl 1 rfl ?_
              refine wa_aload_n dX10_mixTown_58 rfl 1 rfl ?_
              refine wa_getr gX10_mixTown_59 (rfl) rfl ?_
              refine wa_iload_n dX10_mixTown_62 rfl 0 rfl ?_
              refine wa_ialdN (e := l) dX10_mixTown_63 (rfl) (by omega) (by decide) ?_
              refine wa_eqi (y := (C.1 35 l)) (h109 l (by omega)) ?_
              refine wa_i2l dX10_mixTown_64 ?_
              refine wa_cVv (x_mix (M := hsM M (tFold (dgS C w h rn s yr (w * h)) (C.1 35) (fun r => C.1 (31 + r)) l)) ((C.1 35 l).toInt64)) vX10_mix iX10_mixTown_65 (rfl) rfl rfl rfl (Nat.le_of_ble_eq_true rfl) ⟨by decide, by decide⟩ ?_
              refine wa_eqm (M' := hsM M (hFold (31 * tFold (dgS C w h rn s yr (w * h)) (C.1 35) (fun r => C.1 (31 + r)) l + (C.1 35 l).toInt64) (fun i => (C.1 (31 + l) i).toInt64) 0)) (hsM_2.trans (congrArg (hsM M) (mixE.trans (rfl)))) ?_
              refine wa_iconst (0) dX10_mixTown_68 (by decide) ?_
              refine wa_istore_n [(2, .int (0)), (1, .int (nI (l))), (0, wm_r G (96))] dX10_mixTown_69 rfl (by decide) rfl ?_
              have L_70 : ∀ (n_ : Nat) (i : Nat), ((C.1 35 l).toNatClampNeg - i) < n_ → (i ≤ (C.1 35 l).toNatClampNeg) → WA G t_X10_mixTown (fun v_ N_ => v_ = none ∧ N_ = hsM M (dgK C (eFold C (tFold (dgS C w h rn s yr (w * h)) (C.1 35) (fun r => C.1 (31 + r)) 4) rn) 3)) 70 [(2, .int (nI (i))), (1, .int (nI (l))), (0, wm_r G (96))] [] (hsM M (hFold (31 * tFold (dgS C w h rn s yr (w * h)) (C.1 35) (fun r => C.1 (31 + r)) l + (C.1 35 l).toInt64) (fun i => (C.1 (31 + l) i).toInt64) i)) := by
                intro n_
                induction n_ with
                | zero => intro i h_; exact absurd h_ (Nat.not_lt_zero _)
                | succ n_ ih_70 =>
                  intro i h_ hi
                  have hl3 := law_sz hLw l (by omega)
                  have hl3 : (C.1 35 l).toNatClampNeg ≤ 3 := hl3
                  refine wa_iload_n dX10_mixTown_70 rfl 0 rfl ?_
                  refine wa_aload_n dX10_mixTown_71 rfl 2 rfl ?_
                  refine wa_getr gX10_mixTown_72 (rfl) rfl ?_
                  refine wa_iload_n dX10_mixTown_75 rfl 1 rfl ?_
                  refine wa_ialdN (e := l) dX10_mixTown_76 (rfl) (by omega) (by decide) ?_
                  refine wa_eqi (y := (C.1 35 l)) (h109 l (by omega)) ?_
                  refine wa_icmp_ge 101 dX10_mixTown_77 (by decide) (fun c_77 => ?_) (fun c_77 => ?_)
                  · have hiz : ¬ i < (C.1 35 l).toNatClampNeg := ge_of c_77 (by omega)
                    refine wa_iinc ((nI (l + 1))) [(1, .int (nI (l + 1))), (2, .int (nI (i))), (0, wm_r G (96))] dX10_mixTown_101 1 rfl (nI_inc _) (by decide) rfl ?_
                    refine wa_goto 52 dX10_mixTown_104 (by decide) ?_
                    refine wa_sub [0, 2] rfl ?_
                    rw [show hFold (31 * tFold (dgS C w h rn s yr (w * h)) (C.1 35) (fun r => C.1 (31 + r)) l + (C.1 35 l).toInt64) (fun i => (C.1 (31 + l) i).toInt64) i = tFold (dgS C w h rn s yr (w * h)) (C.1 35) (fun r => C.1 (31 + r)) (l + 1) by rw [show i = (C.1 35 l).toNatClampNeg by omega]; rfl]
                    exact ih_52 (l + 1) (by omega) (by omega)
                  · have hiz : i < (C.1 35 l).toNatClampNeg := lt_of_not (by omega) c_77
                    refine wa_aload_n dX10_mixTown_80 rfl 2 rfl ?_
                    refine wa_aload_n dX10_mixTown_81 rfl 2 rfl ?_
                    refine wa_getr gX10_mixTown_82 (rfl) rfl ?_
                    refine wa_iconst (3) dX10_mixTown_85 (by decide) ?_
                    refine wa_iload_n dX10_mixTown_86 rfl 1 rfl ?_
                    refine wa_imulN (a := 3) (b := l) dX10_mixTown_87 ?_
                    refine wa_iload_n dX10_mixTown_88 rfl 0 rfl ?_
                    refine wa_iaddN (a := 3 * l) (b := i) dX10_mixTown_89 ?_
                    refine wa_ialdN (e := 3 * l + i) dX10_mixTown_90 (rfl) (by have := law_sz hLw l (by omega); have : (C.1 (29 + 2 + 4) l).toNatClampNeg = (C.1 35 l).toNatClampNeg := rfl; omega) (by decide) ?_
                    refine wa_eqi (y := (C.1 (31 + l) i)) (lawW hXL hLw (by omega) hiz) ?_
                    refine wa_i2l dX10_mixTown_91 ?_
                    refine wa_cVv (x_mix (M := hsM M (hFold (31 * tFold (dgS C w h rn s yr (w * h)) (C.1 35) (fun r => C.1 (31 + r)) l + (C.1 35 l).toInt64) (fun i => (C.1 (31 + l) i).toInt64) i)) ((C.1 (31 + l) i).toInt64)) vX10_mix iX10_mixTown_92 (rfl) rfl rfl rfl (Nat.le_of_ble_eq_true rfl) ⟨by decide, by decide⟩ ?_
                    refine wa_eqm (M' := hsM M (hFold (31 * tFold (dgS C w h rn s yr (w * h)) (C.1 35) (fun r => C.1 (31 + r)) l + (C.1 35 l).toInt64) (fun i => (C.1 (31 + l) i).toInt64) (i + 1))) (hsM_2.trans (congrArg (hsM M) (mixE.trans (rfl)))) ?_
                    refine wa_iinc ((nI (i + 1))) [(2, .int (nI (i + 1))), (1, .int (nI (l))), (0, wm_r G (96))] dX10_mixTown_95 0 rfl (nI_inc _) (by decide) rfl ?_
                    refine wa_goto 70 dX10_mixTown_98 (by decide) ?_
                    exact ih_70 (i + 1) (by omega) (by omega)
              exact L_70 _ 0 (Nat.lt_succ_self _) (Nat.zero_le _)
        rw [show dgS C w h rn s yr k = tFold (dgS C w h rn s yr (w * h)) (C.1 35) (fun r => C.1 (31 + r)) 0 by rw [show k = w * h by omega]; rfl]
        exact L_52 _ 0 (Nat.lt_succ_self _) (Nat.zero_le _)
      · refine wa_iconst (0) dX10_mixTown_19 (by decide) ?_
        refine wa_istore_n [(2, .int (0)), (1, .int (nI (k))), (0, wm_r G (96))] dX10_mixTown_20 rfl (by decide) rfl ?_
        have L_21 : ∀ (n_ : Nat) (i : Nat), (6 - i) < n_ → (i ≤ 6) → WA G t_X10_mixTown (fun v_ N_ => v_ = none ∧ N_ = hsM M (dgK C (eFold C (tFold (dgS C w h rn s yr (w * h)) (C.1 35) (fun r => C.1 (31 + r)) 4) rn) 3)) 21 [(2, .int (nI (i))), (1, .int (nI (k))), (0, wm_r G (96))] [] (hsM M (hFold (dgS C w h rn s yr k) (fun i => (stTl C s k i).toInt64) i)) := by
          intro n_
          induction n_ with
          | zero => intro i h_; exact absurd h_ (Nat.not_lt_zero _)
          | succ n_ ih_21 =>
            intro i h_ hi
            refine wa_iload_n dX10_mixTown_21 rfl 0 rfl ?_
            refine wa_bipush (6) dX10_mixTown_22 (by decide) ?_
            refine wa_icmp_geN (a := i) (b := 6) 44 dX10_mixTown_24 (by decide) (by omega) (by omega) (fun c_24 => ?_) (fun c_24 => ?_)
            · refine wa_iinc ((nI (k + 1))) [(1, .int (nI (k + 1))), (2, .int (nI (i))), (0, wm_r G (96))] dX10_mixTown_44 1 rfl (nI_inc _) (by decide) rfl ?_
              refine wa_goto 11 dX10_mixTown_47 (by decide) ?_
              refine wa_sub [0, 2] rfl ?_
              rw [show hFold (dgS C w h rn s yr k) (fun i => (stTl C s k i).toInt64) i = dgS C w h rn s yr (k + 1) by rw [show i = 6 by omega]; rfl]
              exact ih_11 (k + 1) (by omega) (by omega)
            · refine wa_aload_n dX10_mixTown_27 rfl 2 rfl ?_
              refine wa_aload_n dX10_mixTown_28 rfl 2 rfl ?_
              refine wa_iload_n dX10_mixTown_29 rfl 1 rfl ?_
              refine wa_iload_n dX10_mixTown_30 rfl 0 rfl ?_
              refine wa_cVi (x_stTl (M := hsM M (hFold (dgS C w h rn s yr k) (fun i => (stTl C s k i).toInt64) i)) C w h hX hW s hN.1 k (by omega) i (by omega)) vX10_stoneTells iX10_mixTown_31 (rfl) rfl rfl rfl (Nat.le_of_ble_eq_true rfl) ⟨by decide, by decide⟩ ?_
              refine wa_i2l dX10_mixTown_34 ?_
              refine wa_cVv (x_mix (M := hsM M (hFold (dgS C w h rn s yr k) (fun i => (stTl C s k i).toInt64) i)) ((stTl C s k i).toInt64)) vX10_mix iX10_mixTown_35 (rfl) rfl rfl rfl (Nat.le_of_ble_eq_true rfl) ⟨by decide, by decide⟩ ?_
              refine wa_eqm (M' := hsM M (hFold (dgS C w h rn s yr k) (fun i => (stTl C s k i).toInt64) (i + 1))) (hsM_2.trans (congrArg (hsM M) (mixE.trans (rfl)))) ?_
              refine wa_iinc ((nI (i + 1))) [(2, .int (nI (i + 1))), (1, .int (nI (k))), (0, wm_r G (96))] dX10_mixTown_38 0 rfl (nI_inc _) (by decide) rfl ?_
              refine wa_goto 21 dX10_mixTown_41 (by decide) ?_
              exact ih_21 (i + 1) (by omega) (by omega)
        exact L_21 _ 0 (Nat.lt_succ_self _) (Nat.zero_le _)
  exact L_11 _ 0 (Nat.lt_succ_self _) (Nat.zero_le _)

set_option maxHeartbeats 8000000 in
theorem x_digest {G : wm_G} {M : wm_M} (C : wm_M) (w h rn : Nat) (hX : xStn C M w h) (hW : TW C w h) (hRo : cRow C) (hTx : cTxt C) (hLw : cLaw C) (h98 : ∀ r, r < 6 → M.1 98 r = C.1 9 r) (h101 : ∀ r, r < 4 → M.1 101 r = C.1 16 r) (h109 : ∀ r, r < 4 → M.1 109 r = C.1 35 r) (h36 : M.1 96 36 = nI rn) (s yr : Nat) (hN : xNow M (w * h) s yr) (hXL : xLaw C M) (hK : xKep C M) (hRO : RecOk C w h rn) (hE : xEng C M w h rn) (hKp : cKep C (w * h)) (hR : xRow C M) (hT : xTxt C M) : MD G t_X10_digest [wm_r G (96)] (M) (some (.long (dgC C w h rn s yr))) (hsM M (dgC C w h rn s yr)) := by
  have hn6 := TW_n hW
  refine wm_met (by decide) (Nat.le_of_ble_eq_true rfl) ?_
  show WA G t_X10_digest (fun v_ N_ => v_ = some (.long (dgC C w h rn s yr)) ∧ N_ = hsM M (dgC C w h rn s yr)) 0 [(0, wm_r G (96))] [] (M)
  refine wa_aload_n dX10_digest_0 rfl 0 rfl ?_
  refine wa_ldc2 (17) dX10_digest_1 kX10_digest_1 ?_
  refine wa_putl gX10_digest_4 (rfl) rfl ?_
  refine wa_eqm (M' := hsM M (hFold 17 (fun i => (tal C w h rn i).toInt64) 0)) (rfl) ?_
  refine wa_iconst (0) dX10_digest_7 (by decide) ?_
  refine wa_istore_n [(1, .int (0)), (0, wm_r G (96))] dX10_digest_8 rfl (by decide) rfl ?_
  have L_9 : ∀ (n_ : Nat) (i : Nat), (8 - i) < n_ → (i ≤ 8) → WA G t_X10_digest (fun v_ N_ => v_ = some (.long (dgC C w h rn s yr)) ∧ N_ = hsM M (dgC C w h rn s yr)) 9 [(1, .int (nI (i))), (0, wm_r G (96))] [] (hsM M (hFold 17 (fun i => (tal C w h rn i).toInt64) i)) := by
    intro n_
    induction n_ with
    | zero => intro i h_; exact absurd h_ (Nat.not_lt_zero _)
    | succ n_ ih_9 =>
      intro i h_ hi
      refine wa_iload_n dX10_digest_9 rfl 0 rfl ?_
      refine wa_bipush (8) dX10_digest_10 (by decide) ?_
      refine wa_icmp_geN (a := i) (b := 8) 31 dX10_digest_12 (by decide) (by omega) (by omega) (fun c_12 => ?_) (fun c_12 => ?_)
      · refine wa_eqm (M' := hsM M (hFold 17 (fun i => (tal C w h rn i).toInt64) 8)) (by rw [show i = 8 by omega]) ?_
        refine wa_aload_n dX10_digest_31 rfl 1 rfl ?_
        refine wa_cVv (x_mixTown (M := M) C w h rn hX hW hRo hTx hLw h98 h101 h109 h36 s yr hN hXL hK hRO hE hKp) vX10_mixTown iX10_digest_32 (rfl) rfl rfl rfl (Nat.le_of_ble_eq_true rfl) ⟨by decide, by decide⟩ ?_
        refine wa_iconst (0) dX10_digest_35 (by decide) ?_
        refine wa_istore_n [(1, .int (0)), (0, wm_r G (96))] dX10_digest_36 rfl (by decide) rfl ?_
        have L_37 : ∀ (n_ : Nat) (r : Nat), (6 - r) < n_ → (r ≤ 6) → WA G t_X10_digest (fun v_ N_ => v_ = some (.long (dgC C w h rn s yr)) ∧ N_ = hsM M (dgC C w h rn s yr)) 37 [(1, .int (nI (r))), (0, wm_r G (96))] [] (hsM M (tFold (dgK C (eFold C (tFold (dgS C w h rn s yr (w * h)) (C.1 35) (fun r => C.1 (31 + r)) 4) rn) 3) (C.1 9) (fun r => C.1 (3 + r)) r)) := by
          intro n_
          induction n_ with
          | zero => intro r h_; exact absurd h_ (Nat.not_lt_zero _)
          | succ n_ ih_37 =>
            intro r h_ hr
            refine wa_iload_n dX10_digest_37 rfl 0 rfl ?_
            refine wa_bipush (6) dX10_digest_38 (by decide) ?_
            refine wa_icmp_geN (a := r) (b := 6) 89 dX10_digest_40 (by decide) (by omega) (by omega) (fun c_40 => ?_) (fun c_40 => ?_)
            · refine wa_iconst (0) dX10_digest_89 (by decide) ?_
              refine wa_istore_n [(1, .int (0)), (0, wm_r G (96))] dX10_digest_90 rfl (by decide) rfl ?_
              have L_91 : ∀ (n_ : Nat) (r : Nat), (4 - r) < n_ → (r ≤ 4) → WA G t_X10_digest (fun v_ N_ => v_ = some (.long (dgC C w h rn s yr)) ∧ N_ = hsM M (dgC C w h rn s yr)) 91 [(1, .int (nI (r))), (0, wm_r G (96))] [] (hsM M (tFold (tFold (dgK C (eFold C (tFold (dgS C w h rn s yr (w * h)) (C.1 35) (fun r => C.1 (31 + r)) 4) rn) 3) (C.1 9) (fun r => C.1 (3 + r)) 6) (C.1 16) (fun r => C.1 (12 + r)) r)) := by
                intro n_
                induction n_ with
                | zero => intro r h_; exact absurd h_ (Nat.not_lt_zero _)
                | succ n_ ih_91 =>
                  intro r h_ hr
                  refine wa_iload_n dX10_digest_91 rfl 0 rfl ?_
                  refine wa_iconst (4) dX10_digest_92 (by decide) ?_
                  refine wa_icmp_geN (a := r) (b := 4) 142 dX10_digest_93 (by decide) (by omega) (by omega) (fun c_93 => ?_) (fun c_93 => ?_)
                  · refine wa_aload_n dX10_digest_142 rfl 1 rfl ?_
                    refine wa_getl gX10_digest_143 (rfl) rfl ?_
                    refine wa_eql (y := dgC C w h rn s yr) (by rw [hsM_40, show r = 4 by omega]; rfl) ?_
                    exact wa_lret dX10_digest_146 rfl ⟨congrArg (fun z => some (Value.long z)) (rfl), by rw [show r = 4 by omega]; rfl⟩
                  · refine wa_aload_n dX10_digest_96 rfl 1 rfl ?_
                    refine wa_aload_n dX10_digest_97 rfl 1 rfl ?_
                    refine wa_getr gX10_digest_98 (rfl) rfl ?_
                    refine wa_iload_n dX10_digest_101 rfl 0 rfl ?_
                    refine wa_ialdN (e := r) dX10_digest_102 (rfl) (by omega) (by decide) ?_
                    refine wa_eqi (y := (C.1 16 r)) (h101 r (by omega)) ?_
                    refine wa_i2l dX10_digest_103 ?_
                    refine wa_cVv (x_mix (M := hsM M (tFold (tFold (dgK C (eFold C (tFold (dgS C w h rn s yr (w * h)) (C.1 35) (fun r => C.1 (31 + r)) 4) rn) 3) (C.1 9) (fun r => C.1 (3 + r)) 6) (C.1 16) (fun r => C.1 (12 + r)) r)) ((C.1 16 r).toInt64)) vX10_mix iX10_digest_104 (rfl) rfl rfl rfl (Nat.le_of_ble_eq_true rfl) ⟨by decide, by decide⟩ ?_
                    refine wa_eqm (M' := hsM M (hFold (31 * tFold (tFold (dgK C (eFold C (tFold (dgS C w h rn s yr (w * h)) (C.1 35) (fun r => C.1 (31 + r)) 4) rn) 3) (C.1 9) (fun r => C.1 (3 + r)) 6) (C.1 16) (fun r => C.1 (12 + r)) r + (C.1 16 r).toInt64) (fun i => (C.1 (12 + r) i).toInt64) 0)) (hsM_2.trans (congrArg (hsM M) (mixE.trans (rfl)))) ?_
                    refine wa_iconst (0) dX10_digest_107 (by decide) ?_
                    refine wa_istore_n [(2, .int (0)), (1, .int (nI (r))), (0, wm_r G (96))] dX10_digest_108 rfl (by decide) rfl ?_
                    have L_109 : ∀ (n_ : Nat) (i : Nat), ((C.1 16 r).toNatClampNeg - i) < n_ → (i ≤ (C.1 16 r).toNatClampNeg) → WA G t_X10_digest (fun v_ N_ => v_ = some (.long (dgC C w h rn s yr)) ∧ N_ = hsM M (dgC C w h rn s yr)) 109 [(2, .int (nI (i))), (1, .int (nI (r))), (0, wm_r G (96))] [] (hsM M (hFold (31 * tFold (tFold (dgK C (eFold C (tFold (dgS C w h rn s yr (w * h)) (C.1 35) (fun r => C.1 (31 + r)) 4) rn) 3) (C.1 9) (fun r => C.1 (3 + r)) 6) (C.1 16) (fun r => C.1 (12 + r)) r + (C.1 16 r).toInt64) (fun i => (C.1 (12 + r) i).toInt64) i)) := by
                      intro n_
                      induction n_ with
                      | zero => intro i h_; exact absurd h_ (Nat.not_lt_zero _)
                      | succ n_ ih_109 =>
                        intro i h_ hi
                        have hl3 := txt_sz hTx r (by omega)
                        have hl3 : (C.1 16 r).toNatClampNeg ≤ 80 := hl3
                        refine wa_iload_n dX10_digest_109 rfl 0 rfl ?_
                        refine wa_aload_n dX10_digest_110 rfl 2 rfl ?_
                        refine wa_getr gX10_digest_111 (rfl) rfl ?_
                        refine wa_iload_n dX10_digest_114 rfl 1 rfl ?_
                        refine wa_ialdN (e := r) dX10_digest_115 (rfl) (by omega) (by decide) ?_
                        refine wa_eqi (y := (C.1 16 r)) (h101 r (by omega)) ?_
                        refine wa_icmp_ge 136 dX10_digest_116 (by decide) (fun c_116 => ?_) (fun c_116 => ?_)
                        · have hiz : ¬ i < (C.1 16 r).toNatClampNeg := ge_of c_116 (by omega)
                          refine wa_iinc ((nI (r + 1))) [(1, .int (nI (r + 1))), (2, .int (nI (i))), (0, wm_r G (96))] dX10_digest_136 1 rfl (nI_inc _) (by decide) rfl ?_
                          refine wa_goto 91 dX10_digest_139 (by decide) ?_
                          refine wa_sub [0, 2] rfl ?_
                          rw [show hFold (31 * tFold (tFold (dgK C (eFold C (tFold (dgS C w h rn s yr (w * h)) (C.1 35) (fun r => C.1 (31 + r)) 4) rn) 3) (C.1 9) (fun r => C.1 (3 + r)) 6) (C.1 16) (fun r => C.1 (12 + r)) r + (C.1 16 r).toInt64) (fun i => (C.1 (12 + r) i).toInt64) i = tFold (tFold (dgK C (eFold C (tFold (dgS C w h rn s yr (w * h)) (C.1 35) (fun r => C.1 (31 + r)) 4) rn) 3) (C.1 9) (fun r => C.1 (3 + r)) 6) (C.1 16) (fun r => C.1 (12 + r)) (r + 1) by rw [show i = (C.1 16 r).toNatClampNeg by omega]; rfl]
                          exact ih_91 (r + 1) (by omega) (by omega)
                        · have hiz : i < (C.1 16 r).toNatClampNeg := lt_of_not (by omega) c_116
                          obtain ⟨z, hz9, hz1, hzi, hzw⟩ := txtW hT hTx (show r < 4 by omega) hiz
                          refine wa_aload_n dX10_digest_119 rfl 2 rfl ?_
                          refine wa_aload_n dX10_digest_120 rfl 2 rfl ?_
                          refine wa_iload_n dX10_digest_121 rfl 1 rfl ?_
                          refine wa_iload_n dX10_digest_122 rfl 0 rfl ?_
                          refine wa_cVi (x_byteAt (M := hsM M (hFold (31 * tFold (tFold (dgK C (eFold C (tFold (dgS C w h rn s yr (w * h)) (C.1 35) (fun r => C.1 (31 + r)) 4) rn) 3) (C.1 9) (fun r => C.1 (3 + r)) 6) (C.1 16) (fun r => C.1 (12 + r)) r + (C.1 16 r).toInt64) (fun i => (C.1 (12 + r) i).toInt64) i)) r (by omega) z hz1 hz9 i (by omega)) vX10_byteAt iX10_digest_123 (rfl) rfl rfl rfl (Nat.le_of_ble_eq_true rfl) ⟨by decide, by decide⟩ ?_
                          refine wa_eqi (y := (C.1 (12 + r) i)) ((if_pos hzi).trans hzw) ?_
                          refine wa_i2l dX10_digest_126 ?_
                          refine wa_cVv (x_mix (M := hsM M (hFold (31 * tFold (tFold (dgK C (eFold C (tFold (dgS C w h rn s yr (w * h)) (C.1 35) (fun r => C.1 (31 + r)) 4) rn) 3) (C.1 9) (fun r => C.1 (3 + r)) 6) (C.1 16) (fun r => C.1 (12 + r)) r + (C.1 16 r).toInt64) (fun i => (C.1 (12 + r) i).toInt64) i)) ((C.1 (12 + r) i).toInt64)) vX10_mix iX10_digest_127 (rfl) rfl rfl rfl (Nat.le_of_ble_eq_true rfl) ⟨by decide, by decide⟩ ?_
                          refine wa_eqm (M' := hsM M (hFold (31 * tFold (tFold (dgK C (eFold C (tFold (dgS C w h rn s yr (w * h)) (C.1 35) (fun r => C.1 (31 + r)) 4) rn) 3) (C.1 9) (fun r => C.1 (3 + r)) 6) (C.1 16) (fun r => C.1 (12 + r)) r + (C.1 16 r).toInt64) (fun i => (C.1 (12 + r) i).toInt64) (i + 1))) (hsM_2.trans (congrArg (hsM M) (mixE.trans (rfl)))) ?_
                          refine wa_iinc ((nI (i + 1))) [(2, .int (nI (i + 1))), (1, .int (nI (r))), (0, wm_r G (96))] dX10_digest_130 0 rfl (nI_inc _) (by decide) rfl ?_
                          refine wa_goto 109 dX10_digest_133 (by decide) ?_
                          exact ih_109 (i + 1) (by omega) (by omega)
                    exact L_109 _ 0 (Nat.lt_succ_self _) (Nat.zero_le _)
              rw [show tFold (dgK C (eFold C (tFold (dgS C w h rn s yr (w * h)) (C.1 35) (fun r => C.1 (31 + r)) 4) rn) 3) (C.1 9) (fun r => C.1 (3 + r)) r = tFold (tFold (dgK C (eFold C (tFold (dgS C w h rn s yr (w * h)) (C.1 35) (fun r => C.1 (31 + r)) 4) rn) 3) (C.1 9) (fun r => C.1 (3 + r)) 6) (C.1 16) (fun r => C.1 (12 + r)) 0 by rw [show r = 6 by omega]; rfl]
              exact L_91 _ 0 (Nat.lt_succ_self _) (Nat.zero_le _)
            · refine wa_aload_n dX10_digest_43 rfl 1 rfl ?_
              refine wa_aload_n dX10_digest_44 rfl 1 rfl ?_
              refine wa_getr gX10_digest_45 (rfl) rfl ?_
              refine wa_iload_n dX10_digest_48 rfl 0 rfl ?_
              refine wa_ialdN (e := r) dX10_digest_49 (rfl) (by omega) (by decide) ?_
              refine wa_eqi (y := (C.1 9 r)) (h98 r (by omega)) ?_
              refine wa_i2l dX10_digest_50 ?_
              refine wa_cVv (x_mix (M := hsM M (tFold (dgK C (eFold C (tFold (dgS C w h rn s yr (w * h)) (C.1 35) (fun r => C.1 (31 + r)) 4) rn) 3) (C.1 9) (fun r => C.1 (3 + r)) r)) ((C.1 9 r).toInt64)) vX10_mix iX10_digest_51 (rfl) rfl rfl rfl (Nat.le_of_ble_eq_true rfl) ⟨by decide, by decide⟩ ?_
              refine wa_eqm (M' := hsM M (hFold (31 * tFold (dgK C (eFold C (tFold (dgS C w h rn s yr (w * h)) (C.1 35) (fun r => C.1 (31 + r)) 4) rn) 3) (C.1 9) (fun r => C.1 (3 + r)) r + (C.1 9 r).toInt64) (fun i => (C.1 (3 + r) i).toInt64) 0)) (hsM_2.trans (congrArg (hsM M) (mixE.trans (rfl)))) ?_
              refine wa_iconst (0) dX10_digest_54 (by decide) ?_
              refine wa_istore_n [(2, .int (0)), (1, .int (nI (r))), (0, wm_r G (96))] dX10_digest_55 rfl (by decide) rfl ?_
              have L_56 : ∀ (n_ : Nat) (i : Nat), ((C.1 9 r).toNatClampNeg - i) < n_ → (i ≤ (C.1 9 r).toNatClampNeg) → WA G t_X10_digest (fun v_ N_ => v_ = some (.long (dgC C w h rn s yr)) ∧ N_ = hsM M (dgC C w h rn s yr)) 56 [(2, .int (nI (i))), (1, .int (nI (r))), (0, wm_r G (96))] [] (hsM M (hFold (31 * tFold (dgK C (eFold C (tFold (dgS C w h rn s yr (w * h)) (C.1 35) (fun r => C.1 (31 + r)) 4) rn) 3) (C.1 9) (fun r => C.1 (3 + r)) r + (C.1 9 r).toInt64) (fun i => (C.1 (3 + r) i).toInt64) i)) := by
                intro n_
                induction n_ with
                | zero => intro i h_; exact absurd h_ (Nat.not_lt_zero _)
                | succ n_ ih_56 =>
                  intro i h_ hi
                  have hl3 := row_sz hRo r (by omega)
                  have hl3 : (C.1 9 r).toNatClampNeg ≤ 60 := hl3
                  refine wa_iload_n dX10_digest_56 rfl 0 rfl ?_
                  refine wa_aload_n dX10_digest_57 rfl 2 rfl ?_
                  refine wa_getr gX10_digest_58 (rfl) rfl ?_
                  refine wa_iload_n dX10_digest_61 rfl 1 rfl ?_
                  refine wa_ialdN (e := r) dX10_digest_62 (rfl) (by omega) (by decide) ?_
                  refine wa_eqi (y := (C.1 9 r)) (h98 r (by omega)) ?_
                  refine wa_icmp_ge 83 dX10_digest_63 (by decide) (fun c_63 => ?_) (fun c_63 => ?_)
                  · have hiz : ¬ i < (C.1 9 r).toNatClampNeg := ge_of c_63 (by omega)
                    refine wa_iinc ((nI (r + 1))) [(1, .int (nI (r + 1))), (2, .int (nI (i))), (0, wm_r G (96))] dX10_digest_83 1 rfl (nI_inc _) (by decide) rfl ?_
                    refine wa_goto 37 dX10_digest_86 (by decide) ?_
                    refine wa_sub [0, 2] rfl ?_
                    rw [show hFold (31 * tFold (dgK C (eFold C (tFold (dgS C w h rn s yr (w * h)) (C.1 35) (fun r => C.1 (31 + r)) 4) rn) 3) (C.1 9) (fun r => C.1 (3 + r)) r + (C.1 9 r).toInt64) (fun i => (C.1 (3 + r) i).toInt64) i = tFold (dgK C (eFold C (tFold (dgS C w h rn s yr (w * h)) (C.1 35) (fun r => C.1 (31 + r)) 4) rn) 3) (C.1 9) (fun r => C.1 (3 + r)) (r + 1) by rw [show i = (C.1 9 r).toNatClampNeg by omega]; rfl]
                    exact ih_37 (r + 1) (by omega) (by omega)
                  · have hiz : i < (C.1 9 r).toNatClampNeg := lt_of_not (by omega) c_63
                    refine wa_aload_n dX10_digest_66 rfl 2 rfl ?_
                    refine wa_aload_n dX10_digest_67 rfl 2 rfl ?_
                    refine wa_iload_n dX10_digest_68 rfl 1 rfl ?_
                    refine wa_iload_n dX10_digest_69 rfl 0 rfl ?_
                    refine wa_cVi (x_rowAt (M := hsM M (hFold (31 * tFold (dgK C (eFold C (tFold (dgS C w h rn s yr (w * h)) (C.1 35) (fun r => C.1 (31 + r)) 4) rn) 3) (C.1 9) (fun r => C.1 (3 + r)) r + (C.1 9 r).toInt64) (fun i => (C.1 (3 + r) i).toInt64) i)) r i (by omega) (by omega)) vX10_rowAt iX10_digest_70 (rfl) rfl rfl rfl (Nat.le_of_ble_eq_true rfl) ⟨by decide, by decide⟩ ?_
                    refine wa_eqi (y := (C.1 (3 + r) i)) (rowW hR hRo (by omega) hiz) ?_
                    refine wa_i2l dX10_digest_73 ?_
                    refine wa_cVv (x_mix (M := hsM M (hFold (31 * tFold (dgK C (eFold C (tFold (dgS C w h rn s yr (w * h)) (C.1 35) (fun r => C.1 (31 + r)) 4) rn) 3) (C.1 9) (fun r => C.1 (3 + r)) r + (C.1 9 r).toInt64) (fun i => (C.1 (3 + r) i).toInt64) i)) ((C.1 (3 + r) i).toInt64)) vX10_mix iX10_digest_74 (rfl) rfl rfl rfl (Nat.le_of_ble_eq_true rfl) ⟨by decide, by decide⟩ ?_
                    refine wa_eqm (M' := hsM M (hFold (31 * tFold (dgK C (eFold C (tFold (dgS C w h rn s yr (w * h)) (C.1 35) (fun r => C.1 (31 + r)) 4) rn) 3) (C.1 9) (fun r => C.1 (3 + r)) r + (C.1 9 r).toInt64) (fun i => (C.1 (3 + r) i).toInt64) (i + 1))) (hsM_2.trans (congrArg (hsM M) (mixE.trans (rfl)))) ?_
                    refine wa_iinc ((nI (i + 1))) [(2, .int (nI (i + 1))), (1, .int (nI (r))), (0, wm_r G (96))] dX10_digest_77 0 rfl (nI_inc _) (by decide) rfl ?_
                    refine wa_goto 56 dX10_digest_80 (by decide) ?_
                    exact ih_56 (i + 1) (by omega) (by omega)
              exact L_56 _ 0 (Nat.lt_succ_self _) (Nat.zero_le _)
        exact L_37 _ 0 (Nat.lt_succ_self _) (Nat.zero_le _)
      · refine wa_aload_n dX10_digest_15 rfl 1 rfl ?_
        refine wa_aload_n dX10_digest_16 rfl 1 rfl ?_
        refine wa_iload_n dX10_digest_17 rfl 0 rfl ?_
        refine wa_cVi (x_counted (M := hsM M (hFold 17 (fun i => (tal C w h rn i).toInt64) i)) C w h rn hX hW hRo hTx hLw h98 h101 h109 h36 i (by omega)) vX10_counted iX10_digest_18 (rfl) rfl rfl rfl (Nat.le_of_ble_eq_true rfl) ⟨by decide, by decide⟩ ?_
        refine wa_i2l dX10_digest_21 ?_
        refine wa_cVv (x_mix (M := hsM M (hFold 17 (fun i => (tal C w h rn i).toInt64) i)) ((tal C w h rn i).toInt64)) vX10_mix iX10_digest_22 (rfl) rfl rfl rfl (Nat.le_of_ble_eq_true rfl) ⟨by decide, by decide⟩ ?_
        refine wa_eqm (M' := hsM M (hFold 17 (fun i => (tal C w h rn i).toInt64) (i + 1))) (hsM_2.trans (congrArg (hsM M) (mixE.trans (rfl)))) ?_
        refine wa_iinc ((nI (i + 1))) [(1, .int (nI (i + 1))), (0, wm_r G (96))] dX10_digest_25 0 rfl (nI_inc _) (by decide) rfl ?_
        refine wa_goto 9 dX10_digest_28 (by decide) ?_
        exact ih_9 (i + 1) (by omega) (by omega)
  exact L_9 _ 0 (Nat.lt_succ_self _) (Nat.zero_le _)
