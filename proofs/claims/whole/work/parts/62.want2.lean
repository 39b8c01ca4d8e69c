theorem m_reckonTurn {G : wm_G} {M : wm_M} (k : Nat) (b : Bool) (hk : k < 6) (hs0 : 0 < sStep (M.1 18 k)) : MA G t_X8_reckonTurn [wm_r G (46), .int (nI (k)), .int (wB (b))] (M) (fun v N => v = none ∧ Fr [46] [50, 52] M N ∧ N.2.1 (49 + 1) = M.2.1 (49 + 1) ∧ ∀ s, s < 4096 → sb (N.2.1 (51 + 1)) s = if b then (sb (M.2.1 (51 + 1)) s || sb (M.2.1 (49 + 1)) (sMv s k (sStep (M.1 18 k)))) else (sb (M.2.1 (51 + 1)) s && sb (M.2.1 (49 + 1)) (sMv s k (sStep (M.1 18 k))))) := by
  have hst := sStep_le (M.1 18 k)
  refine wm_met (by decide) (Nat.le_of_ble_eq_true rfl) ?_
  show WA G t_X8_reckonTurn (fun v N => v = none ∧ Fr [46] [50, 52] M N ∧ N.2.1 (49 + 1) = M.2.1 (49 + 1) ∧ ∀ s, s < 4096 → sb (N.2.1 (51 + 1)) s = if b then (sb (M.2.1 (51 + 1)) s || sb (M.2.1 (49 + 1)) (sMv s k (sStep (M.1 18 k)))) else (sb (M.2.1 (51 + 1)) s && sb (M.2.1 (49 + 1)) (sMv s k (sStep (M.1 18 k))))) 0 [(0, wm_r G (46)), (1, .int (nI (k))), (2, .int (wB (b)))] [] (M)
  refine wa_iconst (4) dX8_reckonTurn_0 (by decide) ?_
  refine wa_aload_n dX8_reckonTurn_1 rfl 0 rfl ?_
  refine wa_getr gX8_reckonTurn_2 (rfl) rfl ?_
  refine wa_iload_n dX8_reckonTurn_5 rfl 1 rfl ?_
  refine wa_cVi (m_step k hk) vX4_step iX8_reckonTurn_6 (rfl) rfl rfl rfl (Nat.le_of_ble_eq_true rfl) ⟨by decide, by decide⟩ ?_
  refine wa_isubN (a := 4) (b := sStep (M.1 18 k)) dX8_reckonTurn_9 (by omega) ?_
  refine wa_istore_n [(3, .int (nI ((4) - (sStep (M.1 18 k))))), (0, wm_r G (46)), (1, .int (nI (k))), (2, .int (wB (b)))] dX8_reckonTurn_10 rfl (by decide) rfl ?_
  refine wa_iload_n dX8_reckonTurn_11 rfl 3 rfl ?_
  refine wa_if_eqB 31 dX8_reckonTurn_12 (by decide) (fun (c_12 : (b) = false) => ?_) (fun (c_12 : (b) = true) => ?_)
  · refine wa_aload_n dX8_reckonTurn_31 rfl 1 rfl ?_
    refine wa_getr gX8_reckonTurn_32 (rfl) rfl ?_
    refine wa_aload_n dX8_reckonTurn_35 rfl 1 rfl ?_
    refine wa_getr gX8_reckonTurn_36 (rfl) rfl ?_
    refine wa_iload_n dX8_reckonTurn_39 rfl 2 rfl ?_
    refine wa_iload_n dX8_reckonTurn_40 rfl 0 rfl ?_
    refine wa_cVv (m_meetMoved 51 49 SS_51 SS_49 k (4 - sStep (M.1 18 k)) (by decide) hk (by omega) (by omega)) vX3_meetMoved iX8_reckonTurn_41 (rfl) rfl rfl rfl (Nat.le_of_ble_eq_true rfl) ⟨by decide, by decide⟩ ?_
    refine wa_vret dX8_reckonTurn_44 rfl ?_
    exact ⟨rfl, Fr.ofJ (by simp), wJa_n (by decide), fun s hs => by rw [wJa_s]; first | (rw [sb_join hk (by omega) (by omega) hs, c_12, if_pos rfl, show 4 - (4 - sStep (M.1 18 k)) = sStep (M.1 18 k) by omega]) | (rw [sb_meetm hk (by omega) (by omega) hs, c_12, if_neg (by decide), show 4 - (4 - sStep (M.1 18 k)) = sStep (M.1 18 k) by omega])⟩
  · refine wa_aload_n dX8_reckonTurn_15 rfl 1 rfl ?_
    refine wa_getr gX8_reckonTurn_16 (rfl) rfl ?_
    refine wa_aload_n dX8_reckonTurn_19 rfl 1 rfl ?_
    refine wa_getr gX8_reckonTurn_20 (rfl) rfl ?_
    refine wa_iload_n dX8_reckonTurn_23 rfl 2 rfl ?_
    refine wa_iload_n dX8_reckonTurn_24 rfl 0 rfl ?_
    refine wa_cVv (m_joinMoved 51 49 SS_51 SS_49 k (4 - sStep (M.1 18 k)) (by decide) hk (by omega) (by omega)) vX3_joinMoved iX8_reckonTurn_25 (rfl) rfl rfl rfl (Nat.le_of_ble_eq_true rfl) ⟨by decide, by decide⟩ ?_
    refine wa_goto 44 dX8_reckonTurn_28 (by decide) ?_
    refine wa_vret dX8_reckonTurn_44 rfl ?_
    exact ⟨rfl, Fr.ofJ (by simp), wJa_n (by decide), fun s hs => by rw [wJa_s]; first | (rw [sb_join hk (by omega) (by omega) hs, c_12, if_pos rfl, show 4 - (4 - sStep (M.1 18 k)) = sStep (M.1 18 k) by omega]) | (rw [sb_meetm hk (by omega) (by omega) hs, c_12, if_neg (by decide), show 4 - (4 - sStep (M.1 18 k)) = sStep (M.1 18 k) by omega])⟩

theorem m_isWon {G : wm_G} {M : wm_M} (w h : Nat) (hW : TW M w h) (l n s0 : Nat) (hl : l < 4) (hn : n ≤ 12) (hs0 : s0 < 4096) : MA G t_X8_isWon [wm_r G (46), .int (nI (l)), .int (nI (n)), .int (nI (s0))] (M) (WnP M w h l n s0) := by
  have hn6 := TW_n hW
  refine wm_met (by decide) (Nat.le_of_ble_eq_true rfl) ?_
  show WA G t_X8_isWon (WnP M w h l n s0) 0 [(0, wm_r G (46)), (1, .int (nI (l))), (2, .int (nI (n))), (3, .int (nI (s0)))] [] (M)
  refine wa_aload_n dX8_isWon_0 rfl 0 rfl ?_
  refine wa_getr gX8_isWon_1 (rfl) rfl ?_
  refine wa_aload_n dX8_isWon_4 rfl 0 rfl ?_
  refine wa_getr gX8_isWon_5 (rfl) rfl ?_
  refine wa_getr gX8_isWon_8 (rfl) rfl ?_
  refine wa_iload_n dX8_isWon_11 rfl 1 rfl ?_
  refine wa_aaldN (e := l) (Or.inr rfl) dX8_isWon_12 (rfl) (by omega) (by decide) ?_
  refine wa_cVv (m_stake 49 (38 + 2 * l) SS_49 (SSl l hl)) vX3_take iX8_isWon_13 (rfl) rfl rfl rfl (Nat.le_of_ble_eq_true rfl) ⟨by decide, by decide⟩ ?_
  refine wa_iload_n dX8_isWon_16 rfl 2 rfl ?_
  refine wa_istore [(4, .int (nI (n))), (0, wm_r G (46)), (1, .int (nI (l))), (2, .int (nI (n))), (3, .int (nI (s0)))] dX8_isWon_17 (by decide) rfl ?_
  have L_19 : ∀ (n_ : Nat) (i : Nat) (N : wm_M), (i) < n_ → (i ≤ n ∧ (i = n ∨ 1 ≤ i)) → (Fr [46] [50, 52] M N) → (∀ s, s < 4096 → sb (N.2.1 (49 + 1)) s = wnI (M.1 18) (w * h) (sb (M.2.1 (38 + 2 * l + 1))) n (n - i) s) → WA G t_X8_isWon (WnP M w h l n s0) 19 [(4, .int (nI (i))), (0, wm_r G (46)), (1, .int (nI (l))), (2, .int (nI (n))), (3, .int (nI (s0)))] [] (N) := by
    intro n_
    induction n_ with
    | zero => intro i N h_; exact absurd h_ (Nat.not_lt_zero _)
    | succ n_ ih_19 =>
      intro i N h_ hi hF hnear
      have h17N : N.1 17 = M.1 17 := hF.1 17 (nin1 (by decide))
      have h18N : N.1 18 = M.1 18 := hF.1 18 (nin1 (by decide))
      have hWN := hW.fr h17N
      refine wa_iload dX8_isWon_19 0 rfl ?_
      refine wa_iconst (2) dX8_isWon_21 (by decide) ?_
      refine wa_icmp_ltN (a := i) (b := 2) 105 dX8_isWon_22 (by decide) (by omega) (by omega) (fun c_22 => ?_) (fun c_22 => ?_)
      · refine wa_aload_n dX8_isWon_105 rfl 1 rfl ?_
        refine wa_bipush (-9) dX8_isWon_106 (by decide) ?_
        refine wa_puti gX8_isWon_108 (rfl) rfl ?_
        have h18w : (wI N 46 1 (-9)).1 18 = M.1 18 := (wI_c (by decide)).trans h18N
        refine wa_iload_n dX8_isWon_111 rfl 3 rfl ?_
        refine wa_if_neN (a := n) 124 dX8_isWon_112 (by decide) (by omega) (fun c_112 => ?_) (fun c_112 => ?_)
        · have hi1 : i = 1 := by omega
          subst hi1
          refine wa_iconst (0) dX8_isWon_124 (by decide) ?_
          refine wa_istore [(4, .int (0)), (0, wm_r G (46)), (1, .int (nI (l))), (2, .int (nI (n))), (3, .int (nI (s0)))] dX8_isWon_125 (by decide) rfl ?_
          have L_127 : ∀ (n_ : Nat) (k : Nat), (w * h - k) < n_ → (k ≤ w * h) → (∀ j, j < k → opP M w h l n s0 j = false) → WA G t_X8_isWon (WnP M w h l n s0) 127 [(4, .int (nI (k))), (0, wm_r G (46)), (1, .int (nI (l))), (2, .int (nI (n))), (3, .int (nI (s0)))] [] (wI N 46 1 (-9)) := by
            intro n_
            induction n_ with
            | zero => intro k h_; exact absurd h_ (Nat.not_lt_zero _)
            | succ n_ ih_127 =>
              intro k h_ hk hno
              refine wa_iload dX8_isWon_127 0 rfl ?_
              refine wa_aload_n dX8_isWon_129 rfl 1 rfl ?_
              refine wa_getr gX8_isWon_130 (rfl) rfl ?_
              refine wa_cVi (m_number 17 w h SO_17 hWN.1 hWN.2.1) vX4_number iX8_isWon_133 (rfl) rfl rfl rfl (Nat.le_of_ble_eq_true rfl) ⟨by decide, by decide⟩ ?_
              refine wa_icmp_geN (a := k) (b := w * h) 185 dX8_isWon_136 (by decide) (by omega) (by omega) (fun c_136 => ?_) (fun c_136 => ?_)
              · refine wa_aload_n dX8_isWon_185 rfl 1 rfl ?_
                refine wa_getr gX8_isWon_186 (rfl) rfl ?_
                refine wa_iload_n dX8_isWon_189 rfl 4 rfl ?_
                refine wa_cVi (m_shas 49 SS_49 s0 hs0) vX3_has iX8_isWon_190 (rfl) rfl rfl rfl (Nat.le_of_ble_eq_true rfl) ⟨by decide, by decide⟩ ?_
                refine wa_eqi (y := (wB (sb (N.2.1 (49 + 1)) s0))) (rfl) ?_
                refine wa_zretB dX8_isWon_193 rfl ?_
                have e0 : opn M w h l n s0 = -9 := by unfold opn; rw [if_neg c_112]; exact wFind_none (fun j hj => hno j (by omega))
                exact ⟨by unfold won; rw [e0, hnear s0 hs0]; rfl, hF.tr (Fr.ofI (by simp)), by rw [e0, wI_at]⟩
              · refine wa_aload_n dX8_isWon_139 rfl 1 rfl ?_
                refine wa_getr gX8_isWon_140 (rfl) rfl ?_
                refine wa_iload dX8_isWon_143 0 rfl ?_
                refine wa_cVi (m_step k (by omega)) vX4_step iX8_isWon_145 (rfl) rfl rfl rfl (Nat.le_of_ble_eq_true rfl) ⟨by decide, by decide⟩ ?_
                refine wa_eqi (y := (nI (sStep (M.1 18 k)))) (by rw [h18w]) ?_
                refine wa_if_leN (a := sStep (M.1 18 k)) 179 dX8_isWon_148 (by decide) (Nat.lt_of_le_of_lt (sStep_le _) (by decide)) (fun c_148 => ?_) (fun c_148 => ?_)
                · have hno2 : opP M w h l n s0 k = false := by unfold opP; rw [decide_eq_false (by omega), Bool.false_and]
                  refine wa_iinc ((nI (k + 1))) [(4, .int (nI (k + 1))), (0, wm_r G (46)), (1, .int (nI (l))), (2, .int (nI (n))), (3, .int (nI (s0)))] dX8_isWon_179 0 rfl (nI_inc _) (by decide) rfl ?_
                  refine wa_goto 127 dX8_isWon_182 (by decide) ?_
                  exact ih_127 (k + 1) (by omega) (by omega) (fun j hj => by rcases Nat.lt_or_eq_of_le (Nat.le_of_lt_succ hj) with q | q; (exact hno j q); (subst q; exact hno2))
                · refine wa_aload_n dX8_isWon_151 rfl 1 rfl ?_
                  refine wa_getr gX8_isWon_152 (rfl) rfl ?_
                  refine wa_aload_n dX8_isWon_155 rfl 1 rfl ?_
                  refine wa_getr gX8_isWon_156 (rfl) rfl ?_
                  refine wa_iload_n dX8_isWon_159 rfl 4 rfl ?_
                  refine wa_iload dX8_isWon_160 0 rfl ?_
                  refine wa_cVi (m_moved s0 k hs0 (by omega)) vX4_moved iX8_isWon_162 (rfl) rfl rfl rfl (Nat.le_of_ble_eq_true rfl) ⟨by decide, by decide⟩ ?_
                  refine wa_eqi (y := (nI (sMv s0 k (sStep (M.1 18 k))))) (by rw [h18w]) ?_
                  refine wa_cVi (m_shas 49 SS_49 (sMv s0 k (sStep (M.1 18 k))) (sMv_4 hs0 (by omega))) vX3_has iX8_isWon_165 (rfl) rfl rfl rfl (Nat.le_of_ble_eq_true rfl) ⟨by decide, by decide⟩ ?_
                  refine wa_eqi (y := (wB (sb (N.2.1 (49 + 1)) (sMv s0 k (sStep (M.1 18 k)))))) (rfl) ?_
                  refine wa_if_eqB 179 dX8_isWon_168 (by decide) (fun (c_168 : (sb (N.2.1 (49 + 1)) (sMv s0 k (sStep (M.1 18 k)))) = false) => ?_) (fun (c_168 : (sb (N.2.1 (49 + 1)) (sMv s0 k (sStep (M.1 18 k)))) = true) => ?_)
                  · have hno2 : opP M w h l n s0 k = false := by unfold opP nrF; rw [decide_eq_true c_148, Bool.true_and]; exact (hnear _ (sMv_4 hs0 (by omega))).symm.trans c_168
                    refine wa_iinc ((nI (k + 1))) [(4, .int (nI (k + 1))), (0, wm_r G (46)), (1, .int (nI (l))), (2, .int (nI (n))), (3, .int (nI (s0)))] dX8_isWon_179 0 rfl (nI_inc _) (by decide) rfl ?_
                    refine wa_goto 127 dX8_isWon_182 (by decide) ?_
                    exact ih_127 (k + 1) (by omega) (by omega) (fun j hj => by rcases Nat.lt_or_eq_of_le (Nat.le_of_lt_succ hj) with q | q; (exact hno j q); (subst q; exact hno2))
                  · refine wa_aload_n dX8_isWon_171 rfl 1 rfl ?_
                    refine wa_iload dX8_isWon_172 0 rfl ?_
                    refine wa_puti gX8_isWon_174 (rfl) rfl ?_
                    refine wa_iconst (1) dX8_isWon_177 (by decide) ?_
                    refine wa_zret dX8_isWon_178 rfl (by decide) ?_
                    have e0 : opn M w h l n s0 = nI k := opn_some c_112 c_136 c_148 ((hnear _ (sMv_4 hs0 (by omega))).symm.trans c_168) hno
                    exact ⟨by unfold won; rw [e0, decide_eq_false (nI_ne9 (by omega))]; rfl, (hF.tr (Fr.ofI (by simp))).tr (Fr.ofI (by simp)), by rw [e0, wI_at]⟩
          exact L_127 _ 0 (Nat.lt_succ_self _) (Nat.zero_le _) (fun j hj => absurd hj (Nat.not_lt_zero _))
        · refine wa_aload_n dX8_isWon_115 rfl 1 rfl ?_
          refine wa_getr gX8_isWon_116 (rfl) rfl ?_
          refine wa_iload_n dX8_isWon_119 rfl 4 rfl ?_
          refine wa_cVi (m_shas 49 SS_49 s0 hs0) vX3_has iX8_isWon_120 (rfl) rfl rfl rfl (Nat.le_of_ble_eq_true rfl) ⟨by decide, by decide⟩ ?_
          refine wa_eqi (y := (wB (sb (N.2.1 (49 + 1)) s0))) (rfl) ?_
          refine wa_zretB dX8_isWon_123 rfl ?_
          exact ⟨by rw [hnear s0 hs0, show i = n by omega, won_0 c_112, Nat.sub_self, c_112], hF.tr (Fr.ofI (by simp)), by rw [wI_at]; unfold opn; rw [if_pos c_112]⟩
      · refine wa_aload_n dX8_isWon_25 rfl 1 rfl ?_
        refine wa_getr gX8_isWon_26 (rfl) rfl ?_
        refine wa_aload_n dX8_isWon_29 rfl 1 rfl ?_
        refine wa_getr gX8_isWon_30 (rfl) rfl ?_
        refine wa_cVv (m_stake 51 49 SS_51 SS_49) vX3_take iX8_isWon_33 (rfl) rfl rfl rfl (Nat.le_of_ble_eq_true rfl) ⟨by decide, by decide⟩ ?_
        refine wa_iconst (0) dX8_isWon_36 (by decide) ?_
        refine wa_istore [(5, .int (0)), (4, .int (nI (i))), (0, wm_r G (46)), (1, .int (nI (l))), (2, .int (nI (n))), (3, .int (nI (s0)))] dX8_isWon_37 (by decide) rfl ?_
        have L_39 : ∀ (n_ : Nat) (k : Nat) (N2 : wm_M), (w * h - k) < n_ → (k ≤ w * h) → (Fr [46] [50, 52] M N2) → (N2.2.1 (49 + 1) = N.2.1 (49 + 1)) → (∀ s, s < 4096 → sb (N2.2.1 (51 + 1)) s = if decide (i % 2 = 1) then (wnI (M.1 18) (w * h) (sb (M.2.1 (38 + 2 * l + 1))) n (n - i) s || wAny (fun k => decide (0 < sStep (M.1 18 k)) && wnI (M.1 18) (w * h) (sb (M.2.1 (38 + 2 * l + 1))) n (n - i) (sMv s k (sStep (M.1 18 k)))) k) else (wnI (M.1 18) (w * h) (sb (M.2.1 (38 + 2 * l + 1))) n (n - i) s && wAll (fun k => !decide (0 < sStep (M.1 18 k)) || wnI (M.1 18) (w * h) (sb (M.2.1 (38 + 2 * l + 1))) n (n - i) (sMv s k (sStep (M.1 18 k)))) k)) → WA G t_X8_isWon (WnP M w h l n s0) 39 [(5, .int (nI (k))), (4, .int (nI (i))), (0, wm_r G (46)), (1, .int (nI (l))), (2, .int (nI (n))), (3, .int (nI (s0)))] [] (N2) := by
          intro n_
          induction n_ with
          | zero => intro k N2 h_; exact absurd h_ (Nat.not_lt_zero _)
          | succ n_ ih_39 =>
            intro k N2 h_ hk hF2 hnr hnx
            have h17N2 : N2.1 17 = M.1 17 := hF2.1 17 (nin1 (by decide))
            have h18N2 : N2.1 18 = M.1 18 := hF2.1 18 (nin1 (by decide))
            have hWN2 := hW.fr h17N2
            refine wa_iload dX8_isWon_39 0 rfl ?_
            refine wa_aload_n dX8_isWon_41 rfl 2 rfl ?_
            refine wa_getr gX8_isWon_42 (rfl) rfl ?_
            refine wa_cVi (m_number 17 w h SO_17 hWN2.1 hWN2.2.1) vX4_number iX8_isWon_45 (rfl) rfl rfl rfl (Nat.le_of_ble_eq_true rfl) ⟨by decide, by decide⟩ ?_
            refine wa_icmp_geN (a := k) (b := w * h) 88 dX8_isWon_48 (by decide) (by omega) (by omega) (fun c_48 => ?_) (fun c_48 => ?_)
            · refine wa_aload_n dX8_isWon_88 rfl 2 rfl ?_
              refine wa_getr gX8_isWon_89 (rfl) rfl ?_
              refine wa_aload_n dX8_isWon_92 rfl 2 rfl ?_
              refine wa_getr gX8_isWon_93 (rfl) rfl ?_
              refine wa_cVv (m_stake 49 51 SS_49 SS_51) vX3_take iX8_isWon_96 (rfl) rfl rfl rfl (Nat.le_of_ble_eq_true rfl) ⟨by decide, by decide⟩ ?_
              refine wa_iinc ((nI (i - 1))) [(4, .int (nI (i - 1))), (5, .int (nI (k))), (0, wm_r G (46)), (1, .int (nI (l))), (2, .int (nI (n))), (3, .int (nI (s0)))] dX8_isWon_99 1 rfl (nI_dec1 (by omega)) (by decide) rfl ?_
              refine wa_goto 19 dX8_isWon_102 (by decide) ?_
              refine wa_sub [0, 2, 3, 4, 5] rfl ?_
              exact ih_19 (i - 1) _ (by omega) ⟨by omega, Or.inr (by omega)⟩ (hF2.tr (Fr.ofJ (by simp))) (fun s hs => by rw [wJa_s, sb_cpy hs, hnx s hs, show n - (i - 1) = n - i + 1 by omega, show k = w * h by omega]; simp only [wnI, wnB]; rw [show n - (n - i) = i by omega])
            · refine wa_aload_n dX8_isWon_51 rfl 2 rfl ?_
              refine wa_getr gX8_isWon_52 (rfl) rfl ?_
              refine wa_iload dX8_isWon_55 0 rfl ?_
              refine wa_cVi (m_step k (by omega)) vX4_step iX8_isWon_57 (rfl) rfl rfl rfl (Nat.le_of_ble_eq_true rfl) ⟨by decide, by decide⟩ ?_
              refine wa_eqi (y := (nI (sStep (M.1 18 k)))) (by rw [h18N2]) ?_
              refine wa_if_leN (a := sStep (M.1 18 k)) 82 dX8_isWon_60 (by decide) (Nat.lt_of_le_of_lt (sStep_le _) (by decide)) (fun c_60 => ?_) (fun c_60 => ?_)
              · have hnx3 : ∀ s, s < 4096 → sb (N2.2.1 (51 + 1)) s = if decide (i % 2 = 1) then (wnI (M.1 18) (w * h) (sb (M.2.1 (38 + 2 * l + 1))) n (n - i) s || wAny (fun k => decide (0 < sStep (M.1 18 k)) && wnI (M.1 18) (w * h) (sb (M.2.1 (38 + 2 * l + 1))) n (n - i) (sMv s k (sStep (M.1 18 k)))) (k + 1)) else (wnI (M.1 18) (w * h) (sb (M.2.1 (38 + 2 * l + 1))) n (n - i) s && wAll (fun k => !decide (0 < sStep (M.1 18 k)) || wnI (M.1 18) (w * h) (sb (M.2.1 (38 + 2 * l + 1))) n (n - i) (sMv s k (sStep (M.1 18 k)))) (k + 1)) := fun s hs => by
                  rw [wAny_s, wAll_s, hnx s hs, decide_eq_false (show ¬ 0 < sStep (M.1 18 k) by omega)]; simp
                refine wa_iinc ((nI (k + 1))) [(5, .int (nI (k + 1))), (4, .int (nI (i))), (0, wm_r G (46)), (1, .int (nI (l))), (2, .int (nI (n))), (3, .int (nI (s0)))] dX8_isWon_82 0 rfl (nI_inc _) (by decide) rfl ?_
                refine wa_goto 39 dX8_isWon_85 (by decide) ?_
                exact ih_39 (k + 1) _ (by omega) (by omega) (by first | exact hF2.tr hF3 | exact hF2) (by first | exact h50.trans hnr | exact hnr) hnx3
              · refine wa_aload_n dX8_isWon_63 rfl 2 rfl ?_
                refine wa_iload dX8_isWon_64 0 rfl ?_
                refine wa_iload dX8_isWon_66 1 rfl ?_
                refine wa_iconst (2) dX8_isWon_68 (by decide) ?_
                refine wa_iremN (a := i) (b := 2) dX8_isWon_69 (by omega) (by omega) (by omega) ?_
                refine wa_iconst (1) dX8_isWon_70 (by decide) ?_
                refine wa_icmp_neN (a := (i) % (2)) (b := 1) 78 dX8_isWon_71 (by decide) (by omega) (by omega) (fun c_71 => ?_) (fun c_71 => ?_)
                · have hb9 : decide (i % 2 = 1) = false := decide_eq_false c_71
                  refine wa_iconst (0) dX8_isWon_78 (by decide) ?_
                  refine wa_callV (m_reckonTurn k false (by omega) (by rw [h18N2]; exact c_60)) vX8_reckonTurn iX8_isWon_79 (rfl) rfl rfl rfl (Nat.le_of_ble_eq_true rfl) ⟨by decide, by decide⟩ (fun v_ N3 h_ => ?_)
                  obtain ⟨rfl, hF3, h50, hs3⟩ := h_
                  show WA G t_X8_isWon (WnP M w h l n s0) 82 [(5, .int (nI (k))), (4, .int (nI (i))), (0, wm_r G (46)), (1, .int (nI (l))), (2, .int (nI (n))), (3, .int (nI (s0)))] [] (N3)
                  have hnx3 : ∀ s, s < 4096 → sb (N3.2.1 (51 + 1)) s = if decide (i % 2 = 1) then (wnI (M.1 18) (w * h) (sb (M.2.1 (38 + 2 * l + 1))) n (n - i) s || wAny (fun k => decide (0 < sStep (M.1 18 k)) && wnI (M.1 18) (w * h) (sb (M.2.1 (38 + 2 * l + 1))) n (n - i) (sMv s k (sStep (M.1 18 k)))) (k + 1)) else (wnI (M.1 18) (w * h) (sb (M.2.1 (38 + 2 * l + 1))) n (n - i) s && wAll (fun k => !decide (0 < sStep (M.1 18 k)) || wnI (M.1 18) (w * h) (sb (M.2.1 (38 + 2 * l + 1))) n (n - i) (sMv s k (sStep (M.1 18 k)))) (k + 1)) := fun s hs => by
                    rw [wAny_s, wAll_s, hs3 s hs, hnx s hs, hnr, h18N2, hnear _ (sMv_4 hs (by omega)), hb9]
                    simp [c_60, Bool.or_assoc, Bool.and_assoc]
                  refine wa_iinc ((nI (k + 1))) [(5, .int (nI (k + 1))), (4, .int (nI (i))), (0, wm_r G (46)), (1, .int (nI (l))), (2, .int (nI (n))), (3, .int (nI (s0)))] dX8_isWon_82 0 rfl (nI_inc _) (by decide) rfl ?_
                  refine wa_goto 39 dX8_isWon_85 (by decide) ?_
                  exact ih_39 (k + 1) _ (by omega) (by omega) (by first | exact hF2.tr hF3 | exact hF2) (by first | exact h50.trans hnr | exact hnr) hnx3
                · have hb9 : decide (i % 2 = 1) = true := decide_eq_true c_71
                  refine wa_iconst (1) dX8_isWon_74 (by decide) ?_
                  refine wa_goto 79 dX8_isWon_75 (by decide) ?_
                  refine wa_callV (m_reckonTurn k true (by omega) (by rw [h18N2]; exact c_60)) vX8_reckonTurn iX8_isWon_79 (rfl) rfl rfl rfl (Nat.le_of_ble_eq_true rfl) ⟨by decide, by decide⟩ (fun v_ N3 h_ => ?_)
                  obtain ⟨rfl, hF3, h50, hs3⟩ := h_
                  show WA G t_X8_isWon (WnP M w h l n s0) 82 [(5, .int (nI (k))), (4, .int (nI (i))), (0, wm_r G (46)), (1, .int (nI (l))), (2, .int (nI (n))), (3, .int (nI (s0)))] [] (N3)
                  have hnx3 : ∀ s, s < 4096 → sb (N3.2.1 (51 + 1)) s = if decide (i % 2 = 1) then (wnI (M.1 18) (w * h) (sb (M.2.1 (38 + 2 * l + 1))) n (n - i) s || wAny (fun k => decide (0 < sStep (M.1 18 k)) && wnI (M.1 18) (w * h) (sb (M.2.1 (38 + 2 * l + 1))) n (n - i) (sMv s k (sStep (M.1 18 k)))) (k + 1)) else (wnI (M.1 18) (w * h) (sb (M.2.1 (38 + 2 * l + 1))) n (n - i) s && wAll (fun k => !decide (0 < sStep (M.1 18 k)) || wnI (M.1 18) (w * h) (sb (M.2.1 (38 + 2 * l + 1))) n (n - i) (sMv s k (sStep (M.1 18 k)))) (k + 1)) := fun s hs => by
                    rw [wAny_s, wAll_s, hs3 s hs, hnx s hs, hnr, h18N2, hnear _ (sMv_4 hs (by omega)), hb9]
                    simp [c_60, Bool.or_assoc, Bool.and_assoc]
                  refine wa_iinc ((nI (k + 1))) [(5, .int (nI (k + 1))), (4, .int (nI (i))), (0, wm_r G (46)), (1, .int (nI (l))), (2, .int (nI (n))), (3, .int (nI (s0)))] dX8_isWon_82 0 rfl (nI_inc _) (by decide) rfl ?_
                  refine wa_goto 39 dX8_isWon_85 (by decide) ?_
                  exact ih_39 (k + 1) _ (by omega) (by omega) (by first | exact hF2.tr hF3 | exact hF2) (by first | exact h50.trans hnr | exact hnr) hnx3
        exact L_39 _ 0 _ (Nat.lt_succ_self _) (Nat.zero_le _) (hF.tr (Fr.ofJ (by simp))) (wJa_n (by decide)) (fun s hs => by rw [wJa_s, sb_cpy hs, hnear s hs, wAny_0, wAll_0, Bool.or_false, Bool.and_true]; split <;> rfl)
  exact L_19 _ n _ (Nat.lt_succ_self _) ⟨Nat.le_refl _, Or.inl rfl⟩ (Fr.ofJ (by simp)) (fun s hs => by rw [wJa_s, sb_cpy hs, Nat.sub_self]; rfl)
