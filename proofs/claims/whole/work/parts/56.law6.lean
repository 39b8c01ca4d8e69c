theorem m_rebuild1 {G : wm_G} {M : wm_M} (w h : Nat) (hW : TW M w h) (l z : Nat) (hL : LZ M l z) : MA G t_X0_rebuild [wm_r G (28), .int (nI (l))] (M) (RbP M w h l z) := by
  obtain ⟨hl4, hz, hz1, hz3⟩ := id hL
  have hn6 := TW_n hW
  obtain ⟨hw, hh, hw3, hh2⟩ := id hW
  refine wm_met (by decide) (Nat.le_of_ble_eq_true rfl) ?_
  show WA G t_X0_rebuild (RbP M w h l z) 0 [(0, wm_r G (28)), (1, .int (nI (l)))] [] (M)
  refine wa_aload_n dX0_rebuild_0 rfl 0 rfl ?_
  refine wa_getr gX0_rebuild_1 (rfl) rfl ?_
  refine wa_iload_n dX0_rebuild_4 rfl 1 rfl ?_
  refine wa_aaldN (e := l) (Or.inr rfl) dX0_rebuild_5 (rfl) (by omega) (by decide) ?_
  refine wa_cVv (m_clear (38 + 2 * l) (SSl l hl4)) vX3_clear iX0_rebuild_6 ((SSl l hl4).1) rfl rfl rfl (Nat.le_of_ble_eq_true rfl) ⟨by decide, by decide⟩ ?_
  refine wa_aload_n dX0_rebuild_9 rfl 0 rfl ?_
  refine wa_getr gX0_rebuild_10 (rfl) rfl ?_
  refine wa_iload_n dX0_rebuild_13 rfl 1 rfl ?_
  refine wa_cVi (m_hasN 29 4 3 TB_laws l hl4) vX5_has iX0_rebuild_14 (rfl) rfl rfl rfl (Nat.le_of_ble_eq_true rfl) ⟨by decide, by decide⟩ ?_
  refine wa_eqi (y := (wB (!decide (M.1 35 l = -1)))) (rfl) ?_
  refine wa_if_neB 21 dX0_rebuild_17 (by decide) (fun c_17 => ?_) (fun c_17 => absurd c_17 (by rw [hz]; simp [nI_nem1 (show z < 2 ^ 31 by omega)]))
  refine wa_iconst (0) dX0_rebuild_21 (by decide) ?_
  refine wa_istore_n [(2, .int (0)), (0, wm_r G (28)), (1, .int (nI (l)))] dX0_rebuild_22 rfl (by decide) rfl ?_
  have L_23 : ∀ (n_ : Nat) (st : Nat) (N : wm_M), (w + h - st) < n_ → (st ≤ w + h) → (Fr [37] [38 + 2 * l + 1] M N) → (∀ s, s < 4096 → sb (N.2.1 (38 + 2 * l + 1)) s = (prodB (hadN (M.1 18) (w * h)) s && wAny (fun st => wAny (fun e => wAny (fun b => matchB w h (M.1 18) (M.1 19) (M.1 (31 + l)) z s st e b) (sLen w h st + 1 - z)) 2) st)) → WA G t_X0_rebuild (RbP M w h l z) 23 [(2, .int (nI (st))), (0, wm_r G (28)), (1, .int (nI (l)))] [] (N) := by
    intro n_
    induction n_ with
    | zero => intro st N h_; exact absurd h_ (Nat.not_lt_zero _)
    | succ n_ ih_23 =>
      intro st N h_ hst hF hsb
      have h17N : N.1 17 = M.1 17 := hF.1 17 (nin1 (by decide))
      have h18N : N.1 18 = M.1 18 := hF.1 18 (nin1 (by decide))
      have h19N : N.1 19 = M.1 19 := hF.1 19 (nin1 (by decide))
      have h35N : N.1 35 = M.1 35 := hF.1 35 (nin1 (by decide))
      have h31N : N.1 (31 + l) = M.1 (31 + l) := hF.1 _ (nin1 (by omega))
      have hWN := hW.fr h17N
      have hLN := hL.fr h35N
      refine wa_iload_n dX0_rebuild_23 rfl 0 rfl ?_
      refine wa_aload_n dX0_rebuild_24 rfl 1 rfl ?_
      refine wa_getr gX0_rebuild_25 (rfl) rfl ?_
      refine wa_cVi (m_streets w h hWN) vX4_streets iX0_rebuild_28 (rfl) rfl rfl rfl (Nat.le_of_ble_eq_true rfl) ⟨by decide, by decide⟩ ?_
      refine wa_icmp_geN (a := st) (b := w + h) 60 dX0_rebuild_31 (by decide) (by omega) (by omega) (fun c_31 => ?_) (fun c_31 => ?_)
      · refine wa_vret dX0_rebuild_60 rfl ?_
        exact ⟨rfl, hF, fun s hs => by rw [hsb s hs, show st = w + h by omega]; rfl⟩
      · refine wa_iconst (0) dX0_rebuild_34 (by decide) ?_
        refine wa_istore_n [(3, .int (0)), (2, .int (nI (st))), (0, wm_r G (28)), (1, .int (nI (l)))] dX0_rebuild_35 rfl (by decide) rfl ?_
        have L_36 : ∀ (n_ : Nat) (e : Nat) (N2 : wm_M), (2 - e) < n_ → (e ≤ 2) → (Fr [37] [38 + 2 * l + 1] M N2) → (∀ s, s < 4096 → sb (N2.2.1 (38 + 2 * l + 1)) s = (prodB (hadN (M.1 18) (w * h)) s && (wAny (fun st => wAny (fun e => wAny (fun b => matchB w h (M.1 18) (M.1 19) (M.1 (31 + l)) z s st e b) (sLen w h st + 1 - z)) 2) st || wAny (fun e => wAny (fun b => matchB w h (M.1 18) (M.1 19) (M.1 (31 + l)) z s st e b) (sLen w h st + 1 - z)) e))) → WA G t_X0_rebuild (RbP M w h l z) 36 [(3, .int (nI (e))), (2, .int (nI (st))), (0, wm_r G (28)), (1, .int (nI (l)))] [] (N2) := by
          intro n_
          induction n_ with
          | zero => intro e N2 h_; exact absurd h_ (Nat.not_lt_zero _)
          | succ n_ ih_36 =>
            intro e N2 h_ he hF2 hsb2
            have h17N2 : N2.1 17 = M.1 17 := hF2.1 17 (nin1 (by decide))
            have h18N2 : N2.1 18 = M.1 18 := hF2.1 18 (nin1 (by decide))
            have h19N2 : N2.1 19 = M.1 19 := hF2.1 19 (nin1 (by decide))
            have h35N2 : N2.1 35 = M.1 35 := hF2.1 35 (nin1 (by decide))
            have h31N2 : N2.1 (31 + l) = M.1 (31 + l) := hF2.1 _ (nin1 (by omega))
            have hWN2 := hW.fr h17N2
            have hLN2 := hL.fr h35N2
            refine wa_iload_n dX0_rebuild_36 rfl 0 rfl ?_
            refine wa_iconst (2) dX0_rebuild_37 (by decide) ?_
            refine wa_icmp_geN (a := e) (b := 2) 54 dX0_rebuild_38 (by decide) (by omega) (by omega) (fun c_38 => ?_) (fun c_38 => ?_)
            · refine wa_iinc ((nI (st + 1))) [(2, .int (nI (st + 1))), (3, .int (nI (e))), (0, wm_r G (28)), (1, .int (nI (l)))] dX0_rebuild_54 1 rfl (nI_inc _) (by decide) rfl ?_
              refine wa_goto 23 dX0_rebuild_57 (by decide) ?_
              refine wa_sub [0, 2, 3] rfl ?_
              exact ih_23 (st + 1) _ (by omega) (by omega) hF2 (fun s hs => by rw [hsb2 s hs, show e = 2 by omega, wAny_s _ st])
            · refine wa_aload_n dX0_rebuild_41 rfl 2 rfl ?_
              refine wa_iload_n dX0_rebuild_42 rfl 3 rfl ?_
              refine wa_iload_n dX0_rebuild_43 rfl 1 rfl ?_
              refine wa_iload_n dX0_rebuild_44 rfl 0 rfl ?_
              refine wa_callV (m_joinStreet w h hWN2 l z hLN2 st e c_31 c_38) vX0_joinStreet iX0_rebuild_45 (rfl) rfl rfl rfl (Nat.le_of_ble_eq_true rfl) ⟨by decide, by decide⟩ (fun v_ N3 h_ => ?_)
              obtain ⟨rfl, hFj, hsj⟩ := h_
              show WA G t_X0_rebuild (RbP M w h l z) 48 [(3, .int (nI (e))), (2, .int (nI (st))), (0, wm_r G (28)), (1, .int (nI (l)))] [] (N3)
              refine wa_iinc ((nI (e + 1))) [(3, .int (nI (e + 1))), (2, .int (nI (st))), (0, wm_r G (28)), (1, .int (nI (l)))] dX0_rebuild_48 0 rfl (nI_inc _) (by decide) rfl ?_
              refine wa_goto 36 dX0_rebuild_51 (by decide) ?_
              exact ih_36 (e + 1) _ (by omega) (by omega) (hF2.tr hFj) (fun s hs => by rw [hsj s hs, hsb2 s hs, h18N2, h19N2, h31N2, ← Bool.and_or_distrib_left, Bool.or_assoc, wAny_s _ e])
        exact L_36 _ 0 _ (Nat.lt_succ_self _) (Nat.zero_le _) hF (fun s hs => by rw [hsb s hs, wAny_0, Bool.or_false])
  exact L_23 _ 0 _ (Nat.lt_succ_self _) (Nat.zero_le _) (Fr.ofJ (by simp)) (fun s hs => by rw [wJa_s, sb_fill hs, wAny_0, Bool.and_false])

theorem m_rebuild0 {G : wm_G} {M : wm_M} (l : Nat) (hl4 : l < 4) (h9 : M.1 35 l = -1) : MD G t_X0_rebuild [wm_r G (28), .int (nI (l))] (M) (none) (wJa M (38 + 2 * l + 1) (wFill (M.2.1 (38 + 2 * l + 1)) 0 64 0)) := by
  refine wm_met (by decide) (Nat.le_of_ble_eq_true rfl) ?_
  show WA G t_X0_rebuild (fun v_ N_ => v_ = none ∧ N_ = wJa M (38 + 2 * l + 1) (wFill (M.2.1 (38 + 2 * l + 1)) 0 64 0)) 0 [(0, wm_r G (28)), (1, .int (nI (l)))] [] (M)
  refine wa_aload_n dX0_rebuild_0 rfl 0 rfl ?_
  refine wa_getr gX0_rebuild_1 (rfl) rfl ?_
  refine wa_iload_n dX0_rebuild_4 rfl 1 rfl ?_
  refine wa_aaldN (e := l) (Or.inr rfl) dX0_rebuild_5 (rfl) (by omega) (by decide) ?_
  refine wa_cVv (m_clear (38 + 2 * l) (SSl l hl4)) vX3_clear iX0_rebuild_6 ((SSl l hl4).1) rfl rfl rfl (Nat.le_of_ble_eq_true rfl) ⟨by decide, by decide⟩ ?_
  refine wa_aload_n dX0_rebuild_9 rfl 0 rfl ?_
  refine wa_getr gX0_rebuild_10 (rfl) rfl ?_
  refine wa_iload_n dX0_rebuild_13 rfl 1 rfl ?_
  refine wa_cVi (m_hasN 29 4 3 TB_laws l hl4) vX5_has iX0_rebuild_14 (rfl) rfl rfl rfl (Nat.le_of_ble_eq_true rfl) ⟨by decide, by decide⟩ ?_
  refine wa_eqi (y := (wB (!decide (M.1 35 l = -1)))) (rfl) ?_
  refine wa_if_neB 21 dX0_rebuild_17 (by decide) (fun c_17 => absurd c_17 (by rw [h9]; decide)) (fun c_17 => ?_)
  exact wa_vret dX0_rebuild_20 rfl ⟨rfl, rfl⟩

theorem m_rebuild {G : wm_G} {M : wm_M} (w h : Nat) (hW : TW M w h) (l : Nat) (hl4 : l < 4) (hc : M.1 35 l = -1 ∨ ∃ z, LZ M l z) : MA G t_X0_rebuild [wm_r G 28, .int (nI l)] M (fun v N => v = none ∧ Fr [37] [38 + 2 * l + 1] M N ∧ ∀ s, s < 4096 → sb (N.2.1 (38 + 2 * l + 1)) s = stL M w h l s) := by
  rcases hc with h9 | ⟨z, hL⟩
  · refine MA.mono (m_rebuild0 l hl4 h9) (fun v N hN => ?_)
    obtain ⟨rfl, rfl⟩ := hN
    exact ⟨rfl, Fr.ofJ (by simp), fun s hs => by rw [wJa_s, sb_fill hs, stL_n h9]⟩
  · refine MA.mono (m_rebuild1 w h hW l z hL) (fun v N hN => ?_)
    exact ⟨hN.1, hN.2.1, fun s hs => by rw [hN.2.2 s hs, stL_z hL]⟩

theorem m_rebuildAll {G : wm_G} {M : wm_M} (w h : Nat) (hW : TW M w h) (hLo : LawOk M) : MA G t_X0_rebuildAll [wm_r G (28)] (M) (RaP M w h) := by
  refine wm_met (by decide) (Nat.le_of_ble_eq_true rfl) ?_
  show WA G t_X0_rebuildAll (RaP M w h) 0 [(0, wm_r G (28))] [] (M)
  refine wa_iconst (0) dX0_rebuildAll_0 (by decide) ?_
  refine wa_istore_n [(1, .int (0)), (0, wm_r G (28))] dX0_rebuildAll_1 rfl (by decide) rfl ?_
  have L_2 : ∀ (n_ : Nat) (l : Nat) (N : wm_M), (4 - l) < n_ → (l ≤ 4) → (Fr [37] [39, 41, 43, 45] M N) → (∀ l2, l2 < l → ∀ s, s < 4096 → sb (N.2.1 (38 + 2 * l2 + 1)) s = stL M w h l2 s) → WA G t_X0_rebuildAll (RaP M w h) 2 [(1, .int (nI (l))), (0, wm_r G (28))] [] (N) := by
    intro n_
    induction n_ with
    | zero => intro l N h_; exact absurd h_ (Nat.not_lt_zero _)
    | succ n_ ih_2 =>
      intro l N h_ hl hF hsb
      have h35 : N.1 35 = M.1 35 := hF.1 35 (nin1 (by decide))
      refine wa_iload_n dX0_rebuildAll_2 rfl 0 rfl ?_
      refine wa_iconst (4) dX0_rebuildAll_3 (by decide) ?_
      refine wa_icmp_geN (a := l) (b := 4) 18 dX0_rebuildAll_4 (by decide) (by omega) (by omega) (fun c_4 => ?_) (fun c_4 => ?_)
      · refine wa_vret dX0_rebuildAll_18 rfl ?_
        exact ⟨rfl, hF, fun l2 hl2 s hs => hsb l2 (by omega) s hs⟩
      · refine wa_aload_n dX0_rebuildAll_7 rfl 1 rfl ?_
        refine wa_iload_n dX0_rebuildAll_8 rfl 0 rfl ?_
        refine wa_callV (m_rebuild w h (hW.fr (hF.1 17 (nin1 (by decide)))) l c_4 (by rw [h35]; rcases hLo l c_4 with q | ⟨z, q⟩; exact Or.inl q; exact Or.inr ⟨z, q.fr h35⟩)) vX0_rebuild iX0_rebuildAll_9 (rfl) rfl rfl rfl (Nat.le_of_ble_eq_true rfl) ⟨by decide, by decide⟩ (fun v_ N2 h_ => ?_)
        obtain ⟨rfl, hFj, hsj⟩ := h_
        show WA G t_X0_rebuildAll (RaP M w h) 12 [(1, .int (nI (l))), (0, wm_r G (28))] [] (N2)
        refine wa_iinc ((nI (l + 1))) [(1, .int (nI (l + 1))), (0, wm_r G (28))] dX0_rebuildAll_12 0 rfl (nI_inc _) (by decide) rfl ?_
        refine wa_goto 2 dX0_rebuildAll_15 (by decide) ?_
        exact ih_2 (l + 1) _ (by omega) (by omega) (hF.tr (hFj.mono (fun _ h9 => h9) (fun c h9 => by simp at h9; subst h9; have : l = 0 ∨ l = 1 ∨ l = 2 ∨ l = 3 := (by omega); rcases this with rfl | rfl | rfl | rfl <;> simp))) (fun l2 h2 s hs => by rcases Nat.lt_or_eq_of_le (Nat.le_of_lt_succ h2) with q | q; (rw [hFj.2.1 _ (nin1 (by omega))]; exact hsb l2 q s hs); (subst q; rw [hsj s hs]; exact stL_fr (hF.1 18 (nin1 (by decide))) (hF.1 19 (nin1 (by decide))) (hF.1 _ (nin1 (by omega))) h35))
  exact L_2 _ 0 M (Nat.lt_succ_self _) (Nat.zero_le _) (Fr.rf _ _ M) (fun l2 h2 => absurd h2 (Nat.not_lt_zero _))

theorem m_mendingWord {G : wm_G} {M : wm_M} (w h : Nat) (hW : TW M w h) (l z : Nat) (hL : LZ M l z) (s k side : Nat) (hs : s < 4096) (hk : k < 6) (hsd : side < 4) : MA G t_X0_mendingWord [wm_r G (28), .int (nI (l)), .int (nI (s)), .int (nI (k)), .int (nI (side))] (M) (MwP M w h l z s (4 * k + side)) := by
  obtain ⟨hl4, hz, hz1, hz3⟩ := id hL
  have hn6 := TW_n hW
  obtain ⟨hw, hh, hw3, hh2⟩ := id hW
  have hz0 : mdP M w h l z s (4 * k + side) = mdP M w h l z s (4 * k + side) := rfl
  refine wm_met (by decide) (Nat.le_of_ble_eq_true rfl) ?_
  show WA G t_X0_mendingWord (MwP M w h l z s (4 * k + side)) 0 [(0, wm_r G (28)), (1, .int (nI (l))), (2, .int (nI (s))), (3, .int (nI (k))), (4, .int (nI (side)))] [] (M)
  refine wa_iconst (4) dX0_mendingWord_0 (by decide) ?_
  refine wa_iload_n dX0_mendingWord_1 rfl 3 rfl ?_
  refine wa_imulN (a := 4) (b := k) dX0_mendingWord_2 ?_
  refine wa_iload dX0_mendingWord_3 4 rfl ?_
  refine wa_iaddN (a := 4 * k) (b := side) dX0_mendingWord_5 ?_
  refine wa_istore [(5, .int (nI (4 * k + side))), (0, wm_r G (28)), (1, .int (nI (l))), (2, .int (nI (s))), (3, .int (nI (k))), (4, .int (nI (side)))] dX0_mendingWord_6 (by decide) rfl ?_
  refine wa_aload_n dX0_mendingWord_8 rfl 1 rfl ?_
  refine wa_getr gX0_mendingWord_9 (rfl) rfl ?_
  refine wa_getr gX0_mendingWord_12 (rfl) rfl ?_
  refine wa_iload dX0_mendingWord_15 0 rfl ?_
  refine wa_ialdN (e := 4 * k + side) dX0_mendingWord_17 (rfl) (by omega) (by decide) ?_
  refine wa_topi (fun was e_was => ?_)
  refine wa_istore [(6, .int (was)), (5, .int (nI (4 * k + side))), (0, wm_r G (28)), (1, .int (nI (l))), (2, .int (nI (s))), (3, .int (nI (k))), (4, .int (nI (side)))] dX0_mendingWord_18 (by decide) rfl ?_
  refine wa_bipush (-9) dX0_mendingWord_20 (by decide) ?_
  refine wa_istore [(7, .int (-9)), (6, .int (was)), (5, .int (nI (4 * k + side))), (0, wm_r G (28)), (1, .int (nI (l))), (2, .int (nI (s))), (3, .int (nI (k))), (4, .int (nI (side)))] dX0_mendingWord_22 (by decide) rfl ?_
  refine wa_iconst (0) dX0_mendingWord_24 (by decide) ?_
  refine wa_istore [(8, .int (0)), (7, .int (-9)), (6, .int (was)), (5, .int (nI (4 * k + side))), (0, wm_r G (28)), (1, .int (nI (l))), (2, .int (nI (s))), (3, .int (nI (k))), (4, .int (nI (side)))] dX0_mendingWord_25 (by decide) rfl ?_
  have L_27 : ∀ (n_ : Nat) (x : Nat) (md : Int32) (N : wm_M), (8 - x) < n_ → (x ≤ 8) → (Fr [19, 28] [] M N) → (∀ j, j ≠ (4 * k + side) → N.1 19 j = M.1 19 j) → ((md = -9 ∧ ∀ j, j < x → mdP M w h l z s (4 * k + side) j = false) ∨ (∃ y, x = y + 1 ∧ md = nI y ∧ mdP M w h l z s (4 * k + side) y = true ∧ (∀ j, j < y → mdP M w h l z s (4 * k + side) j = false) ∧ N.1 28 2 = lyT w h (M.1 18) (upd (M.1 19) (4 * k + side) (nI y)) (M.1 (31 + l)) z s (w + h))) → WA G t_X0_mendingWord (MwP M w h l z s (4 * k + side)) 27 [(8, .int (nI (x))), (7, .int (md)), (6, .int (was)), (5, .int (nI (4 * k + side))), (0, wm_r G (28)), (1, .int (nI (l))), (2, .int (nI (s))), (3, .int (nI (k))), (4, .int (nI (side)))] [] (N) := by
    intro n_
    induction n_ with
    | zero => intro x md N h_; exact absurd h_ (Nat.not_lt_zero _)
    | succ n_ ih_27 =>
      intro x md N h_ hx8 hFN h19N hinv
      have h17N : N.1 17 = M.1 17 := hFN.1 17 (nin2 (by decide) (by decide))
      have h18N : N.1 18 = M.1 18 := hFN.1 18 (nin2 (by decide) (by decide))
      have h35N : N.1 35 = M.1 35 := hFN.1 35 (nin2 (by decide) (by decide))
      have h31N : N.1 (31 + l) = M.1 (31 + l) := hFN.1 _ (nin2 (by omega) (by omega))
      have hWN := hW.fr h17N
      have hLN := hL.fr h35N
      refine wa_iload dX0_mendingWord_27 0 rfl ?_
      refine wa_bipush (8) dX0_mendingWord_29 (by decide) ?_
      refine wa_icmp_geN (a := x) (b := 8) 95 dX0_mendingWord_31 (by decide) (by omega) (by omega) (fun c_31 => ?_) (fun c_31 => ?_)
      · refine wa_aload_n dX0_mendingWord_95 rfl 4 rfl ?_
        refine wa_getr gX0_mendingWord_96 (rfl) rfl ?_
        refine wa_getr gX0_mendingWord_99 (rfl) rfl ?_
        refine wa_iload dX0_mendingWord_102 3 rfl ?_
        refine wa_iload dX0_mendingWord_104 2 rfl ?_
        refine wa_iastN (e := 4 * k + side) dX0_mendingWord_106 (rfl) (by omega) (by decide) ?_
        refine wa_iload dX0_mendingWord_107 1 rfl ?_
        refine wa_iret dX0_mendingWord_109 rfl ?_
        refine ⟨?_, ⟨fun c hc => ?_, fun c hc => hFN.2.1 c (by simp), hFN.2.2⟩, fun y hy ey => ?_⟩
        · rcases hinv with ⟨e1, h1⟩ | ⟨y, hy, e1, h1, h2, h3⟩
          · rcases Nat.lt_or_eq_of_le hx8 with q | q
            · first | exact absurd e1 hmd | exact absurd c_31 (by omega)
            · subst q; rw [e1, wFind_none h1]
          · rw [e1, wFind_some (by omega) h1 h2]
        · by_cases h9 : c = 19
          · subst h9
            have hb := wI_back (M := M) (N := N) (k := 19) (p := (4 * k + side)) h19N
            rw [e_was]; exact hb
          · rw [wI_c h9]; exact hFN.1 c (nin2 h9 (by simpa using hc))
        · rw [wI_c (by decide)]
          rcases hinv with ⟨e1, h1⟩ | ⟨y2, hy2, e1, h1, h2, h3⟩
          · have : mdP M w h l z s (4 * k + side) y = true := by
              rcases wFind_cases (mdP M w h l z s (4 * k + side)) 8 with ⟨e2, -⟩ | ⟨i, hi, e2, h4, -⟩
              · rw [e2] at ey; exact absurd ey.symm (nI_ne9 (by omega))
              · rw [e2] at ey
                have := (nI_eq (by omega) (by omega)).mp ey
                subst this; exact h4
            rcases Nat.lt_or_eq_of_le hx8 with q | q
            · first | exact absurd e1 hmd | exact absurd c_31 (by omega)
            · subst q; rw [h1 y hy] at this; cases this
          · rw [wFind_some (by omega) h1 h2] at ey
            have := (nI_eq (by omega) (by omega)).mp ey
            subst this; exact h3
      · refine wa_iload dX0_mendingWord_34 1 rfl ?_
        refine wa_bipush (-9) dX0_mendingWord_36 (by decide) ?_
        refine wa_icmp_ne 95 dX0_mendingWord_38 (by decide) (fun c_38 => ?_) (fun c_38 => ?_)
        · have hmd := c_38
          refine wa_aload_n dX0_mendingWord_95 rfl 4 rfl ?_
          refine wa_getr gX0_mendingWord_96 (rfl) rfl ?_
          refine wa_getr gX0_mendingWord_99 (rfl) rfl ?_
          refine wa_iload dX0_mendingWord_102 3 rfl ?_
          refine wa_iload dX0_mendingWord_104 2 rfl ?_
          refine wa_iastN (e := 4 * k + side) dX0_mendingWord_106 (rfl) (by omega) (by decide) ?_
          refine wa_iload dX0_mendingWord_107 1 rfl ?_
          refine wa_iret dX0_mendingWord_109 rfl ?_
          refine ⟨?_, ⟨fun c hc => ?_, fun c hc => hFN.2.1 c (by simp), hFN.2.2⟩, fun y hy ey => ?_⟩
          · rcases hinv with ⟨e1, h1⟩ | ⟨y, hy, e1, h1, h2, h3⟩
            · rcases Nat.lt_or_eq_of_le hx8 with q | q
              · first | exact absurd e1 hmd | exact absurd c_31 (by omega)
              · subst q; rw [e1, wFind_none h1]
            · rw [e1, wFind_some (by omega) h1 h2]
          · by_cases h9 : c = 19
            · subst h9
              have hb := wI_back (M := M) (N := N) (k := 19) (p := (4 * k + side)) h19N
              rw [e_was]; exact hb
            · rw [wI_c h9]; exact hFN.1 c (nin2 h9 (by simpa using hc))
          · rw [wI_c (by decide)]
            rcases hinv with ⟨e1, h1⟩ | ⟨y2, hy2, e1, h1, h2, h3⟩
            · have : mdP M w h l z s (4 * k + side) y = true := by
                rcases wFind_cases (mdP M w h l z s (4 * k + side)) 8 with ⟨e2, -⟩ | ⟨i, hi, e2, h4, -⟩
                · rw [e2] at ey; exact absurd ey.symm (nI_ne9 (by omega))
                · rw [e2] at ey
                  have := (nI_eq (by omega) (by omega)).mp ey
                  subst this; exact h4
              rcases Nat.lt_or_eq_of_le hx8 with q | q
              · first | exact absurd e1 hmd | exact absurd c_31 (by omega)
              · subst q; rw [h1 y hy] at this; cases this
            · rw [wFind_some (by omega) h1 h2] at ey
              have := (nI_eq (by omega) (by omega)).mp ey
              subst this; exact h3
        · have hmd : md = -9 := c_38
          refine wa_aload_n dX0_mendingWord_41 rfl 4 rfl ?_
          refine wa_iload_n dX0_mendingWord_42 rfl 5 rfl ?_
          refine wa_iload dX0_mendingWord_43 0 rfl ?_
          refine wa_cVi (m_hasWord l z hLN (nI x)) vX0_hasWord iX0_mendingWord_45 (rfl) rfl rfl rfl (Nat.le_of_ble_eq_true rfl) ⟨by decide, by decide⟩ ?_
          refine wa_eqi (y := (wB (wAny (fun i => decide (M.1 (31 + l) i = nI x)) z))) (by rw [h31N]) ?_
          refine wa_if_neB 54 dX0_mendingWord_48 (by decide) (fun (c_48 : (wAny (fun i => decide (M.1 (31 + l) i = nI x)) z) = true) => ?_) (fun (c_48 : (wAny (fun i => decide (M.1 (31 + l) i = nI x)) z) = false) => ?_)
          · have hw1 := c_48
            refine wa_aload_n dX0_mendingWord_54 rfl 4 rfl ?_
            refine wa_getr gX0_mendingWord_55 (rfl) rfl ?_
            refine wa_getr gX0_mendingWord_58 (rfl) rfl ?_
            refine wa_iload dX0_mendingWord_61 3 rfl ?_
            refine wa_iload dX0_mendingWord_63 0 rfl ?_
            refine wa_iastN (e := 4 * k + side) dX0_mendingWord_65 (rfl) (by omega) (by decide) ?_
            refine wa_aload_n dX0_mendingWord_66 rfl 4 rfl ?_
            refine wa_aload_n dX0_mendingWord_67 rfl 4 rfl ?_
            refine wa_iload_n dX0_mendingWord_68 rfl 5 rfl ?_
            refine wa_iload_n dX0_mendingWord_69 rfl 6 rfl ?_
            have h19x : (wI N 19 (4 * k + side) (nI x)).1 19 = upd (M.1 19) (4 * k + side) (nI x) := by unfold wI; rw [wIa_s]; funext j; by_cases hj : j = (4 * k + side); (subst hj; rw [upd_s, upd_s]); (rw [upd_n hj, upd_n hj]; exact h19N j hj)
            refine wa_cVi (m_bleastYears w h (hWN.fr (wI_c (by decide))) l z (hLN.fr (wI_c (by decide))) s hs) vX0_leastYears iX0_mendingWord_70 (rfl) rfl rfl rfl (Nat.le_of_ble_eq_true rfl) ⟨by decide, by decide⟩ ?_
            refine wa_eqi (y := (lyT w h (M.1 18) (upd (M.1 19) (4 * k + side) (nI x)) (M.1 (31 + l)) z s (w + h))) (by rw [wI_c (by decide), h19x, wI_c (by omega), h18N, h31N]) ?_
            refine wa_puti gX0_mendingWord_73 (rfl) rfl ?_
            refine wa_aload_n dX0_mendingWord_76 rfl 4 rfl ?_
            refine wa_geti gX0_mendingWord_77 (rfl) rfl ?_
            refine wa_eqi (y := (lyT w h (M.1 18) (upd (M.1 19) (4 * k + side) (nI x)) (M.1 (31 + l)) z s (w + h))) (wI_at) ?_
            refine wa_bipush (-9) dX0_mendingWord_80 (by decide) ?_
            refine wa_icmp_eq 89 dX0_mendingWord_82 (by decide) (fun c_82 => ?_) (fun c_82 => ?_)
            · have hp0 : mdP M w h l z s (4 * k + side) x = false := by unfold mdP; rw [c_82]; simp
              refine wa_iinc ((nI (x + 1))) [(8, .int (nI (x + 1))), (7, .int (md)), (6, .int (was)), (5, .int (nI (4 * k + side))), (0, wm_r G (28)), (1, .int (nI (l))), (2, .int (nI (s))), (3, .int (nI (k))), (4, .int (nI (side)))] dX0_mendingWord_89 0 rfl (nI_inc _) (by decide) rfl ?_
              refine wa_goto 27 dX0_mendingWord_92 (by decide) ?_
              have hno : ∀ j, j < x → mdP M w h l z s (4 * k + side) j = false := by
                rcases hinv with ⟨_, h1⟩ | ⟨y, _, e1, _⟩
                · exact h1
                · rw [hmd] at e1; exact absurd e1.symm (nI_ne9 (by omega))
              have hno1 : mdP M w h l z s (4 * k + side) x = false → ∀ j, j < x + 1 → mdP M w h l z s (4 * k + side) j = false := fun h0 j hj => by
                rcases Nat.lt_or_eq_of_le (Nat.le_of_lt_succ hj) with q | q
                · exact hno j q
                · subst q; exact h0
              exact ih_27 (x + 1) _ _ (by omega) (by omega) (by first | exact hFN | exact (hFN.tr (Fr.ofI (by simp))).tr (Fr.ofI (by simp))) (fun j hj => by first | exact h19N j hj | (rw [wI_c (by decide), wI_ne (fun z9 => hj z9.2)]; exact h19N j hj)) (by first | exact Or.inl ⟨hmd, hno1 hp0⟩ | exact Or.inr ⟨x, rfl, rfl, hp1, hno, wI_at⟩)
            · have hp1 : mdP M w h l z s (4 * k + side) x = true := by unfold mdP; rw [hw1]; simpa using c_82
              refine wa_iload dX0_mendingWord_85 0 rfl ?_
              refine wa_istore [(7, .int (nI (x))), (8, .int (nI (x))), (6, .int (was)), (5, .int (nI (4 * k + side))), (0, wm_r G (28)), (1, .int (nI (l))), (2, .int (nI (s))), (3, .int (nI (k))), (4, .int (nI (side)))] dX0_mendingWord_87 (by decide) rfl ?_
              refine wa_iinc ((nI (x + 1))) [(8, .int (nI (x + 1))), (7, .int (nI (x))), (6, .int (was)), (5, .int (nI (4 * k + side))), (0, wm_r G (28)), (1, .int (nI (l))), (2, .int (nI (s))), (3, .int (nI (k))), (4, .int (nI (side)))] dX0_mendingWord_89 1 rfl (nI_inc _) (by decide) rfl ?_
              refine wa_goto 27 dX0_mendingWord_92 (by decide) ?_
              have hno : ∀ j, j < x → mdP M w h l z s (4 * k + side) j = false := by
                rcases hinv with ⟨_, h1⟩ | ⟨y, _, e1, _⟩
                · exact h1
                · rw [hmd] at e1; exact absurd e1.symm (nI_ne9 (by omega))
              have hno1 : mdP M w h l z s (4 * k + side) x = false → ∀ j, j < x + 1 → mdP M w h l z s (4 * k + side) j = false := fun h0 j hj => by
                rcases Nat.lt_or_eq_of_le (Nat.le_of_lt_succ hj) with q | q
                · exact hno j q
                · subst q; exact h0
              exact ih_27 (x + 1) _ _ (by omega) (by omega) (by first | exact hFN | exact (hFN.tr (Fr.ofI (by simp))).tr (Fr.ofI (by simp))) (fun j hj => by first | exact h19N j hj | (rw [wI_c (by decide), wI_ne (fun z9 => hj z9.2)]; exact h19N j hj)) (by first | exact Or.inl ⟨hmd, hno1 hp0⟩ | exact Or.inr ⟨x, rfl, rfl, hp1, hno, wI_at⟩)
          · have hp0 : mdP M w h l z s (4 * k + side) x = false := by unfold mdP; rw [c_48]; rfl
            refine wa_goto 89 dX0_mendingWord_51 (by decide) ?_
            refine wa_iinc ((nI (x + 1))) [(8, .int (nI (x + 1))), (7, .int (md)), (6, .int (was)), (5, .int (nI (4 * k + side))), (0, wm_r G (28)), (1, .int (nI (l))), (2, .int (nI (s))), (3, .int (nI (k))), (4, .int (nI (side)))] dX0_mendingWord_89 0 rfl (nI_inc _) (by decide) rfl ?_
            refine wa_goto 27 dX0_mendingWord_92 (by decide) ?_
            have hno : ∀ j, j < x → mdP M w h l z s (4 * k + side) j = false := by
              rcases hinv with ⟨_, h1⟩ | ⟨y, _, e1, _⟩
              · exact h1
              · rw [hmd] at e1; exact absurd e1.symm (nI_ne9 (by omega))
            have hno1 : mdP M w h l z s (4 * k + side) x = false → ∀ j, j < x + 1 → mdP M w h l z s (4 * k + side) j = false := fun h0 j hj => by
              rcases Nat.lt_or_eq_of_le (Nat.le_of_lt_succ hj) with q | q
              · exact hno j q
              · subst q; exact h0
            exact ih_27 (x + 1) _ _ (by omega) (by omega) (by first | exact hFN | exact (hFN.tr (Fr.ofI (by simp))).tr (Fr.ofI (by simp))) (fun j hj => by first | exact h19N j hj | (rw [wI_c (by decide), wI_ne (fun z9 => hj z9.2)]; exact h19N j hj)) (by first | exact Or.inl ⟨hmd, hno1 hp0⟩ | exact Or.inr ⟨x, rfl, rfl, hp1, hno, wI_at⟩)
  exact L_27 _ 0 (-9) M (Nat.lt_succ_self _) (by omega) (Fr.rf _ _ M) (fun _ _ => rfl) (Or.inl ⟨rfl, fun j hj => absurd hj (Nat.not_lt_zero _)⟩)
