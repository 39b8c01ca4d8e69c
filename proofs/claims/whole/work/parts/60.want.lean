theorem m_goalOf {G : wm_G} {M : wm_M} (w h : Nat) (hW : TW M w h) (set : Nat) (hset : set < 16) : MA G t_X8_goalOf [wm_r G (46), .int (nI (set))] (M) (fun v N => v = some (wm_r G 47) ∧ Fr [53] [48] M N ∧ ∀ s, s < 4096 → sb (N.2.1 48) s = goalB M w h set s) := by
  refine wm_met (by decide) (Nat.le_of_ble_eq_true rfl) ?_
  show WA G t_X8_goalOf (fun v N => v = some (wm_r G 47) ∧ Fr [53] [48] M N ∧ ∀ s, s < 4096 → sb (N.2.1 48) s = goalB M w h set s) 0 [(0, wm_r G (46)), (1, .int (nI (set)))] [] (M)
  refine wa_aload_n dX8_goalOf_0 rfl 0 rfl ?_
  refine wa_getr gX8_goalOf_1 (rfl) rfl ?_
  refine wa_aload_n dX8_goalOf_4 rfl 0 rfl ?_
  refine wa_getr gX8_goalOf_5 (rfl) rfl ?_
  refine wa_cVv (m_quartersHad w h hW 53 rfl (by decide) (by decide)) vX4_quartersHad iX8_goalOf_8 (rfl) rfl rfl rfl (Nat.le_of_ble_eq_true rfl) ⟨by decide, by decide⟩ ?_
  refine wa_aload_n dX8_goalOf_11 rfl 0 rfl ?_
  refine wa_getr gX8_goalOf_12 (rfl) rfl ?_
  refine wa_cVv (m_clear 47 SS_47) vX3_clear iX8_goalOf_15 (rfl) rfl rfl rfl (Nat.le_of_ble_eq_true rfl) ⟨by decide, by decide⟩ ?_
  refine wa_aload_n dX8_goalOf_18 rfl 0 rfl ?_
  refine wa_getr gX8_goalOf_19 (rfl) rfl ?_
  refine wa_aload_n dX8_goalOf_22 rfl 0 rfl ?_
  refine wa_getr gX8_goalOf_23 (rfl) rfl ?_
  refine wa_cVv (m_joinProduct 47 SS_47 53 rfl (hadN (M.1 18) (w * h)) (fun j hj => ⟨had_at (M := M) (g := M.1 53) (kd := M.1 18) (a := 53) (n := w * h) hj, hadN_lt _ _ _⟩)) vX3_joinProduct iX8_goalOf_26 (rfl) rfl rfl rfl (Nat.le_of_ble_eq_true rfl) ⟨by decide, by decide⟩ ?_
  refine wa_iconst (0) dX8_goalOf_29 (by decide) ?_
  refine wa_istore_n [(2, .int (0)), (0, wm_r G (46)), (1, .int (nI (set)))] dX8_goalOf_30 rfl (by decide) rfl ?_
  have L_31 : ∀ (n_ : Nat) (l : Nat) (N : wm_M), (4 - l) < n_ → (l ≤ 4) → (Fr [53] [48] M N) → (∀ s, s < 4096 → sb (N.2.1 48) s = (prodB (hadN (M.1 18) (w * h)) s && wAll (fun l => !set.testBit l || sb (M.2.1 (38 + 2 * l + 1)) s) l)) → WA G t_X8_goalOf (fun v N => v = some (wm_r G 47) ∧ Fr [53] [48] M N ∧ ∀ s, s < 4096 → sb (N.2.1 48) s = goalB M w h set s) 31 [(2, .int (nI (l))), (0, wm_r G (46)), (1, .int (nI (set)))] [] (N) := by
    intro n_
    induction n_ with
    | zero => intro l N h_; exact absurd h_ (Nat.not_lt_zero _)
    | succ n_ ih_31 =>
      intro l N h_ hl hF hsb
      refine wa_iload_n dX8_goalOf_31 rfl 0 rfl ?_
      refine wa_iconst (4) dX8_goalOf_32 (by decide) ?_
      refine wa_icmp_geN (a := l) (b := 4) 67 dX8_goalOf_33 (by decide) (by omega) (by omega) (fun c_33 => ?_) (fun c_33 => ?_)
      · refine wa_aload_n dX8_goalOf_67 rfl 1 rfl ?_
        refine wa_getr gX8_goalOf_68 (rfl) rfl ?_
        refine wa_aret dX8_goalOf_71 rfl ?_
        exact ⟨rfl, hF, fun s hs => by rw [hsb s hs, show l = 4 by omega]; rfl⟩
      · refine wa_iload_n dX8_goalOf_36 rfl 2 rfl ?_
        refine wa_iload_n dX8_goalOf_37 rfl 0 rfl ?_
        refine wa_ishr dX8_goalOf_38 ?_
        refine wa_iconst (1) dX8_goalOf_39 (by decide) ?_
        refine wa_iand dX8_goalOf_40 ?_
        refine wa_eqi (y := (nI (set / 2 ^ l % 2))) (by rw [nI_shr (by omega) (by omega), nI_and1 (Nat.lt_of_le_of_lt (Nat.div_le_self _ _) (by omega))]) ?_
        refine wa_iconst (1) dX8_goalOf_41 (by decide) ?_
        refine wa_icmp_neN (a := set / 2 ^ l % 2) (b := 1) 61 dX8_goalOf_42 (by decide) (Nat.lt_trans (Nat.mod_lt _ (by decide)) (by decide)) (by omega) (fun c_42 => ?_) (fun c_42 => ?_)
        · have hb : set.testBit l = false := by rw [tb_div]; exact decide_eq_false c_42
          refine wa_iinc ((nI (l + 1))) [(2, .int (nI (l + 1))), (0, wm_r G (46)), (1, .int (nI (set)))] dX8_goalOf_61 0 rfl (nI_inc _) (by decide) rfl ?_
          refine wa_goto 31 dX8_goalOf_64 (by decide) ?_
          exact ih_31 (l + 1) _ (by omega) (by omega) (by first | exact hF.tr (Fr.ofJ (by simp)) | exact hF) (fun s hs => by rw [wAll_s, hb]; first | (rw [wJa_s, sb_meet hs, hsb s hs, hF.2.1 _ (nin1 (by omega)), Bool.and_assoc]; rfl) | (rw [hsb s hs]; simp))
        · have hb : set.testBit l = true := by rw [tb_div]; exact decide_eq_true c_42
          refine wa_aload_n dX8_goalOf_45 rfl 1 rfl ?_
          refine wa_getr gX8_goalOf_46 (rfl) rfl ?_
          refine wa_aload_n dX8_goalOf_49 rfl 1 rfl ?_
          refine wa_getr gX8_goalOf_50 (rfl) rfl ?_
          refine wa_getr gX8_goalOf_53 (rfl) rfl ?_
          refine wa_iload_n dX8_goalOf_56 rfl 0 rfl ?_
          refine wa_aaldN (e := l) (Or.inr rfl) dX8_goalOf_57 (rfl) (by omega) (by decide) ?_
          refine wa_cVv (m_meet 47 (38 + 2 * l) SS_47 (SSl l c_33) (by omega)) vX3_meet iX8_goalOf_58 (rfl) rfl rfl rfl (Nat.le_of_ble_eq_true rfl) ⟨by decide, by decide⟩ ?_
          refine wa_iinc ((nI (l + 1))) [(2, .int (nI (l + 1))), (0, wm_r G (46)), (1, .int (nI (set)))] dX8_goalOf_61 0 rfl (nI_inc _) (by decide) rfl ?_
          refine wa_goto 31 dX8_goalOf_64 (by decide) ?_
          exact ih_31 (l + 1) _ (by omega) (by omega) (by first | exact hF.tr (Fr.ofJ (by simp)) | exact hF) (fun s hs => by rw [wAll_s, hb]; first | (rw [wJa_s, sb_meet hs, hsb s hs, hF.2.1 _ (nin1 (by omega)), Bool.and_assoc]; rfl) | (rw [hsb s hs]; simp))
  exact L_31 _ 0 _ (Nat.lt_succ_self _) (Nat.zero_le _) (((Fr.ofI (by simp)).tr (Fr.ofJ (by simp))).tr (Fr.ofJ (by simp))) (fun s hs => by rw [wJa_s, sb_jp (fun j hj => hadN_lt _ _ _) hs, wJa_s, sb_fill hs, Bool.false_or, wAll_0, Bool.and_true])

theorem m_wleastYears {G : wm_G} {M : wm_M} (w h : Nat) (hW : TW M w h) (s0 set : Nat) (hs0 : s0 < 4096) (hset : set < 16) : MA G t_X8_leastYears [wm_r G (46), .int (nI (s0)), .int (nI (set))] (M) (LyP M w h s0 set) := by
  have hn6 := TW_n hW
  have hmost : wSum (fun k => sMost (M.1 18 k)) (w * h) ≤ 18 := Nat.le_trans (wSum_le (c := 3) (fun _ _ => sMost_le _)) (by omega)
  refine wm_met (by decide) (Nat.le_of_ble_eq_true rfl) ?_
  show WA G t_X8_leastYears (LyP M w h s0 set) 0 [(0, wm_r G (46)), (1, .int (nI (s0))), (2, .int (nI (set)))] [] (M)
  refine wa_aload_n dX8_leastYears_0 rfl 0 rfl ?_
  refine wa_iload_n dX8_leastYears_1 rfl 2 rfl ?_
  refine wa_callV (m_goalOf w h hW set hset) vX8_goalOf iX8_leastYears_2 (rfl) rfl rfl rfl (Nat.le_of_ble_eq_true rfl) ⟨by decide, by decide⟩ (fun v_ N0 h_ => ?_)
  obtain ⟨rfl, hF0, hg0⟩ := h_
  show WA G t_X8_leastYears (LyP M w h s0 set) 5 [(0, wm_r G (46)), (1, .int (nI (s0))), (2, .int (nI (set)))] [wm_r G (47)] (N0)
  refine wa_cVi (m_isEmpty 47 SS_47) vX3_isEmpty iX8_leastYears_5 (rfl) rfl rfl rfl (Nat.le_of_ble_eq_true rfl) ⟨by decide, by decide⟩ ?_
  refine wa_if_eqB 14 dX8_leastYears_8 (by decide) (fun (c_8 : (wAll (fun s => !sb (N0.2.1 48) s) 4096) = false) => ?_) (fun (c_8 : (wAll (fun s => !sb (N0.2.1 48) s) 4096) = true) => ?_)
  · refine wa_aload_n dX8_leastYears_14 rfl 0 rfl ?_
    refine wa_getr gX8_leastYears_15 (rfl) rfl ?_
    refine wa_iload_n dX8_leastYears_18 rfl 1 rfl ?_
    refine wa_cVv (m_only 49 SS_49 s0 hs0) vX3_only iX8_leastYears_19 (rfl) rfl rfl rfl (Nat.le_of_ble_eq_true rfl) ⟨by decide, by decide⟩ ?_
    refine wa_iconst (0) dX8_leastYears_22 (by decide) ?_
    refine wa_istore_n [(3, .int (0)), (0, wm_r G (46)), (1, .int (nI (s0))), (2, .int (nI (set)))] dX8_leastYears_23 rfl (by decide) rfl ?_
    have L_24 : ∀ (n_ : Nat) (n : Nat) (N : wm_M), (wSum (fun k => sMost (M.1 18 k)) (w * h) + 1 - n) < n_ → (n ≤ wSum (fun k => sMost (M.1 18 k)) (w * h) + 1) → (Fr [46, 53] [48, 50, 52] M N) → (∀ s, s < 4096 → sb (N.2.1 (47 + 1)) s = goalB M w h set s) → (∀ s, s < 4096 → sb (N.2.1 (49 + 1)) s = blB (M.1 18) (w * h) s0 n s) → (∀ j, j < n → (fun n => wAny (fun s => blB (M.1 18) (w * h) s0 n s && goalB M w h set s) 4096) j = false) → WA G t_X8_leastYears (LyP M w h s0 set) 24 [(3, .int (nI (n))), (0, wm_r G (46)), (1, .int (nI (s0))), (2, .int (nI (set)))] [] (N) := by
      intro n_
      induction n_ with
      | zero => intro n N h_; exact absurd h_ (Nat.not_lt_zero _)
      | succ n_ ih_24 =>
        intro n N h_ hn hF hgoal hnear hno
        have h17N : N.1 17 = M.1 17 := hF.1 17 (nin2 (by decide) (by decide))
        have h18N : N.1 18 = M.1 18 := hF.1 18 (nin2 (by decide) (by decide))
        have hWN := hW.fr h17N
        refine wa_iload_n dX8_leastYears_24 rfl 0 rfl ?_
        refine wa_aload_n dX8_leastYears_25 rfl 1 rfl ?_
        refine wa_getr gX8_leastYears_26 (rfl) rfl ?_
        refine wa_cVi (m_mostYears w h hWN) vX4_mostYears iX8_leastYears_29 (rfl) rfl rfl rfl (Nat.le_of_ble_eq_true rfl) ⟨by decide, by decide⟩ ?_
        refine wa_eqi (y := (nI (wSum (fun k => sMost (M.1 18 k)) (w * h)))) (by rw [h18N]) ?_
        refine wa_icmp_gtN (a := n) (b := wSum (fun k => sMost (M.1 18 k)) (w * h)) 146 dX8_leastYears_32 (by decide) (by omega) (by omega) (fun c_32 => ?_) (fun c_32 => ?_)
        · refine wa_bipush (-9) dX8_leastYears_146 (by decide) ?_
          refine wa_iret dX8_leastYears_148 rfl ?_
          have e0 : yrs M w h s0 set = -9 := wFind_none (fun j hj => hno j (by omega))
          exact ⟨by rw [e0], hF, fun n2 hn2 e => absurd (e0.symm.trans e).symm (nI_ne9 (by omega))⟩
        · refine wa_aload_n dX8_leastYears_35 rfl 1 rfl ?_
          refine wa_getr gX8_leastYears_36 (rfl) rfl ?_
          refine wa_aload_n dX8_leastYears_39 rfl 1 rfl ?_
          refine wa_getr gX8_leastYears_40 (rfl) rfl ?_
          refine wa_cVi (m_leastWith 49 47 SS_49 SS_47) vX3_leastWith iX8_leastYears_43 (rfl) rfl rfl rfl (Nat.le_of_ble_eq_true rfl) ⟨by decide, by decide⟩ ?_
          refine wa_eqi (y := (wFind (fun s => blB (M.1 18) (w * h) s0 n s && goalB M w h set s) 4096)) (wFind_cong (fun s hs => by rw [hnear s hs, hgoal s hs])) ?_
          refine wa_istore [(4, .int (wFind (fun s => blB (M.1 18) (w * h) s0 n s && goalB M w h set s) 4096)), (3, .int (nI (n))), (0, wm_r G (46)), (1, .int (nI (s0))), (2, .int (nI (set)))] dX8_leastYears_46 (by decide) rfl ?_
          refine wa_iload dX8_leastYears_48 0 rfl ?_
          refine wa_bipush (-9) dX8_leastYears_50 (by decide) ?_
          refine wa_icmp_eq 63 dX8_leastYears_52 (by decide) (fun c_52 => ?_) (fun c_52 => ?_)
          · have hno2 : ∀ j, j < n + 1 → (fun n => wAny (fun s => blB (M.1 18) (w * h) s0 n s && goalB M w h set s) 4096) j = false := fun j hj => by
              rcases Nat.lt_or_eq_of_le (Nat.le_of_lt_succ hj) with q | q
              · exact hno j q
              · subst q; exact wFind_nany c_52 (by decide)
            refine wa_aload_n dX8_leastYears_63 rfl 2 rfl ?_
            refine wa_getr gX8_leastYears_64 (rfl) rfl ?_
            refine wa_aload_n dX8_leastYears_67 rfl 2 rfl ?_
            refine wa_getr gX8_leastYears_68 (rfl) rfl ?_
            refine wa_cVv (m_stake 51 49 SS_51 SS_49) vX3_take iX8_leastYears_71 (rfl) rfl rfl rfl (Nat.le_of_ble_eq_true rfl) ⟨by decide, by decide⟩ ?_
            refine wa_iconst (0) dX8_leastYears_74 (by decide) ?_
            refine wa_istore [(5, .int (0)), (4, .int (wFind (fun s => blB (M.1 18) (w * h) s0 n s && goalB M w h set s) 4096)), (3, .int (nI (n))), (0, wm_r G (46)), (1, .int (nI (s0))), (2, .int (nI (set)))] dX8_leastYears_75 (by decide) rfl ?_
            have L_77 : ∀ (n_ : Nat) (k : Nat) (N2 : wm_M), (w * h - k) < n_ → (k ≤ w * h) → (Fr [46, 53] [48, 50, 52] M N2) → (N2.2.1 (47 + 1) = N.2.1 (47 + 1)) → (N2.2.1 (49 + 1) = N.2.1 (49 + 1)) → (∀ s, s < 4096 → sb (N2.2.1 (51 + 1)) s = (blB (M.1 18) (w * h) s0 n s || wAny (fun k => decide (0 < sStep (M.1 18 k)) && blB (M.1 18) (w * h) s0 n (sMv s k (4 - sStep (M.1 18 k)))) k)) → WA G t_X8_leastYears (LyP M w h s0 set) 77 [(5, .int (nI (k))), (3, .int (nI (n))), (0, wm_r G (46)), (1, .int (nI (s0))), (2, .int (nI (set)))] [] (N2) := by
              intro n_
              induction n_ with
              | zero => intro k N2 h_; exact absurd h_ (Nat.not_lt_zero _)
              | succ n_ ih_77 =>
                intro k N2 h_ hk hF2 hg2 hnr hnx
                have h17N2 : N2.1 17 = M.1 17 := hF2.1 17 (nin2 (by decide) (by decide))
                have h18N2 : N2.1 18 = M.1 18 := hF2.1 18 (nin2 (by decide) (by decide))
                have hWN2 := hW.fr h17N2
                refine wa_iload dX8_leastYears_77 0 rfl ?_
                refine wa_aload_n dX8_leastYears_79 rfl 2 rfl ?_
                refine wa_getr gX8_leastYears_80 (rfl) rfl ?_
                refine wa_cVi (m_number 17 w h SO_17 hWN2.1 hWN2.2.1) vX4_number iX8_leastYears_83 (rfl) rfl rfl rfl (Nat.le_of_ble_eq_true rfl) ⟨by decide, by decide⟩ ?_
                refine wa_icmp_geN (a := k) (b := w * h) 129 dX8_leastYears_86 (by decide) (by omega) (by omega) (fun c_86 => ?_) (fun c_86 => ?_)
                · refine wa_aload_n dX8_leastYears_129 rfl 2 rfl ?_
                  refine wa_getr gX8_leastYears_130 (rfl) rfl ?_
                  refine wa_aload_n dX8_leastYears_133 rfl 2 rfl ?_
                  refine wa_getr gX8_leastYears_134 (rfl) rfl ?_
                  refine wa_cVv (m_stake 49 51 SS_49 SS_51) vX3_take iX8_leastYears_137 (rfl) rfl rfl rfl (Nat.le_of_ble_eq_true rfl) ⟨by decide, by decide⟩ ?_
                  refine wa_iinc ((nI (n + 1))) [(3, .int (nI (n + 1))), (5, .int (nI (k))), (0, wm_r G (46)), (1, .int (nI (s0))), (2, .int (nI (set)))] dX8_leastYears_140 1 rfl (nI_inc _) (by decide) rfl ?_
                  refine wa_goto 24 dX8_leastYears_143 (by decide) ?_
                  refine wa_sub [0, 2, 3, 4] rfl ?_
                  exact ih_24 (n + 1) _ (by omega) (by omega) (hF2.tr (Fr.ofJ (by simp))) (fun s hs => by rw [wJa_n (by decide), hg2]; exact hgoal s hs) (fun s hs => by rw [wJa_s, sb_cpy hs, hnx s hs, show k = w * h by omega]; rfl) hno2
                · refine wa_aload_n dX8_leastYears_89 rfl 2 rfl ?_
                  refine wa_getr gX8_leastYears_90 (rfl) rfl ?_
                  refine wa_iload dX8_leastYears_93 0 rfl ?_
                  refine wa_cVi (m_step k (by omega)) vX4_step iX8_leastYears_95 (rfl) rfl rfl rfl (Nat.le_of_ble_eq_true rfl) ⟨by decide, by decide⟩ ?_
                  refine wa_eqi (y := (nI (sStep (M.1 18 k)))) (by rw [h18N2]) ?_
                  refine wa_if_leN (a := sStep (M.1 18 k)) 123 dX8_leastYears_98 (by decide) (Nat.lt_of_le_of_lt (sStep_le _) (by decide)) (fun c_98 => ?_) (fun c_98 => ?_)
                  · refine wa_iinc ((nI (k + 1))) [(5, .int (nI (k + 1))), (3, .int (nI (n))), (0, wm_r G (46)), (1, .int (nI (s0))), (2, .int (nI (set)))] dX8_leastYears_123 0 rfl (nI_inc _) (by decide) rfl ?_
                    refine wa_goto 77 dX8_leastYears_126 (by decide) ?_
                    exact ih_77 (k + 1) _ (by omega) (by omega) (by first | exact hF2.tr (Fr.ofJ (by simp)) | exact hF2) (by first | exact (wJa_n (by decide)).trans hg2 | exact hg2) (by first | exact (wJa_n (by decide)).trans hnr | exact hnr) (fun s hs => by rw [wAny_s]; first | (rw [wJa_s, sb_join (by omega) (by omega) c_98 hs, hnx s hs, hnr, hnear _ (sMv_4 hs (by omega)), decide_eq_true c_98, Bool.true_and, Bool.or_assoc]) | (rw [hnx s hs, decide_eq_false (by omega), Bool.false_and, Bool.or_false]))
                  · refine wa_aload_n dX8_leastYears_101 rfl 2 rfl ?_
                    refine wa_getr gX8_leastYears_102 (rfl) rfl ?_
                    refine wa_aload_n dX8_leastYears_105 rfl 2 rfl ?_
                    refine wa_getr gX8_leastYears_106 (rfl) rfl ?_
                    refine wa_iload dX8_leastYears_109 0 rfl ?_
                    refine wa_aload_n dX8_leastYears_111 rfl 2 rfl ?_
                    refine wa_getr gX8_leastYears_112 (rfl) rfl ?_
                    refine wa_iload dX8_leastYears_115 0 rfl ?_
                    refine wa_cVi (m_step k (by omega)) vX4_step iX8_leastYears_117 (rfl) rfl rfl rfl (Nat.le_of_ble_eq_true rfl) ⟨by decide, by decide⟩ ?_
                    refine wa_eqi (y := (nI (sStep (M.1 18 k)))) (by rw [h18N2]) ?_
                    have hstp := sStep_le (M.1 18 k)
                    refine wa_cVv (m_joinMoved 51 49 SS_51 SS_49 k (sStep (M.1 18 k)) (by decide) (by omega) (by omega) c_98) vX3_joinMoved iX8_leastYears_120 (rfl) rfl rfl rfl (Nat.le_of_ble_eq_true rfl) ⟨by decide, by decide⟩ ?_
                    refine wa_iinc ((nI (k + 1))) [(5, .int (nI (k + 1))), (3, .int (nI (n))), (0, wm_r G (46)), (1, .int (nI (s0))), (2, .int (nI (set)))] dX8_leastYears_123 0 rfl (nI_inc _) (by decide) rfl ?_
                    refine wa_goto 77 dX8_leastYears_126 (by decide) ?_
                    exact ih_77 (k + 1) _ (by omega) (by omega) (by first | exact hF2.tr (Fr.ofJ (by simp)) | exact hF2) (by first | exact (wJa_n (by decide)).trans hg2 | exact hg2) (by first | exact (wJa_n (by decide)).trans hnr | exact hnr) (fun s hs => by rw [wAny_s]; first | (rw [wJa_s, sb_join (by omega) (by omega) c_98 hs, hnx s hs, hnr, hnear _ (sMv_4 hs (by omega)), decide_eq_true c_98, Bool.true_and, Bool.or_assoc]) | (rw [hnx s hs, decide_eq_false (by omega), Bool.false_and, Bool.or_false]))
            refine wa_sub [0, 2, 3, 4, 5] rfl ?_
            exact L_77 _ 0 _ (Nat.lt_succ_self _) (Nat.zero_le _) (hF.tr (Fr.ofJ (by simp))) (wJa_n (by decide)) (wJa_n (by decide)) (fun s hs => by rw [wJa_s, sb_cpy hs, hnear s hs, wAny_0, Bool.or_false])
          · refine wa_aload_n dX8_leastYears_55 rfl 2 rfl ?_
            refine wa_iload dX8_leastYears_56 0 rfl ?_
            refine wa_puti gX8_leastYears_58 (rfl) rfl ?_
            refine wa_iload_n dX8_leastYears_61 rfl 1 rfl ?_
            refine wa_iret dX8_leastYears_62 rfl ?_
            have e0 : yrs M w h s0 set = nI n := wFind_some (by omega) (wFind_any c_52) hno
            exact ⟨by rw [e0], hF.tr (Fr.ofI (by simp)), fun n2 hn2 e => by
              have := (nI_eq (by omega) (by omega)).mp (e0.symm.trans e)
              subst this; exact wI_at⟩
    exact L_24 _ 0 _ (Nat.lt_succ_self _) (Nat.zero_le _) ((hF0.mono (by simp) (by simp)).tr (Fr.ofJ (by simp))) (fun s hs => by rw [wJa_n (by decide)]; exact hg0 s hs) (fun s hs => by rw [wJa_s, sb_only hs0 hs]; rfl) (fun j hj => absurd hj (Nat.not_lt_zero _))
  · refine wa_bipush (-9) dX8_leastYears_11 (by decide) ?_
    refine wa_iret dX8_leastYears_13 rfl ?_
    have hno : ∀ n, wAny (fun s => blB (M.1 18) (w * h) s0 n s && goalB M w h set s) 4096 = false := fun n => Bool.eq_false_iff.mpr (fun q => by
      obtain ⟨s, hs, hp⟩ := wAny_iff.mp q
      have h1 := wAll_iff.mp c_8 s hs
      rw [hg0 s hs] at h1
      rw [Bool.and_eq_true] at hp
      rw [hp.2] at h1; cases h1)
    have e0 : yrs M w h s0 set = -9 := wFind_none (fun n _ => hno n)
    exact ⟨by rw [e0], hF0.mono (by simp) (by simp), fun n hn e => absurd (e0.symm.trans e).symm (nI_ne9 (by omega))⟩
