theorem m_joinStreet {G : wm_G} {M : wm_M} (w h : Nat) (hW : TW M w h) (l z : Nat) (hL : LZ M l z) (st e : Nat) (hst : st < w + h) (he : e < 2) : MA G t_X0_joinStreet [wm_r G (28), .int (nI (l)), .int (nI (st)), .int (nI (e))] (M) (JsP M w h l z st e) := by
  obtain ⟨hl4, hz, hz1, hz3⟩ := id hL
  have hn6 := TW_n hW
  obtain ⟨hw, hh, hw3, hh2⟩ := id hW
  have hlen : sLen w h st ≤ 3 := by unfold sLen; split <;> omega
  have hf9 : sFst h st e < 10 := by unfold sFst; split <;> omega
  refine wm_met (by decide) (Nat.le_of_ble_eq_true rfl) ?_
  show WA G t_X0_joinStreet (JsP M w h l z st e) 0 [(0, wm_r G (28)), (1, .int (nI (l))), (2, .int (nI (st))), (3, .int (nI (e)))] [] (M)
  refine wa_aload_n dX0_joinStreet_0 rfl 0 rfl ?_
  refine wa_getr gX0_joinStreet_1 (rfl) rfl ?_
  refine wa_iload_n dX0_joinStreet_4 rfl 2 rfl ?_
  refine wa_iload_n dX0_joinStreet_5 rfl 3 rfl ?_
  refine wa_cVi (m_firstSide w h hW st e (by omega)) vX4_firstSide iX0_joinStreet_6 (rfl) rfl rfl rfl (Nat.le_of_ble_eq_true rfl) ⟨by decide, by decide⟩ ?_
  refine wa_istore [(4, .int (nI (sFst h st e))), (0, wm_r G (28)), (1, .int (nI (l))), (2, .int (nI (st))), (3, .int (nI (e)))] dX0_joinStreet_9 (by decide) rfl ?_
  refine wa_iconst (0) dX0_joinStreet_11 (by decide) ?_
  refine wa_istore [(5, .int (0)), (4, .int (nI (sFst h st e))), (0, wm_r G (28)), (1, .int (nI (l))), (2, .int (nI (st))), (3, .int (nI (e)))] dX0_joinStreet_12 (by decide) rfl ?_
  have L_14 : ∀ (n_ : Nat) (b : Nat) (N : wm_M), (sLen w h st + 1 - z - b) < n_ → (b ≤ sLen w h st + 1 - z) → (Fr [37] [38 + 2 * l + 1] M N) → (∀ s, s < 4096 → sb (N.2.1 (38 + 2 * l + 1)) s = (sb (M.2.1 (38 + 2 * l + 1)) s || (prodB (hadN (M.1 18) (w * h)) s && wAny (fun b => matchB w h (M.1 18) (M.1 19) (M.1 (31 + l)) z s st e b) b))) → WA G t_X0_joinStreet (JsP M w h l z st e) 14 [(5, .int (nI (b))), (4, .int (nI (sFst h st e))), (0, wm_r G (28)), (1, .int (nI (l))), (2, .int (nI (st))), (3, .int (nI (e)))] [] (N) := by
    intro n_
    induction n_ with
    | zero => intro b N h_; exact absurd h_ (Nat.not_lt_zero _)
    | succ n_ ih_14 =>
      intro b N h_ hb hF hsb
      have h17N : N.1 17 = M.1 17 := hF.1 17 (nin1 (by decide))
      have h18N : N.1 18 = M.1 18 := hF.1 18 (nin1 (by decide))
      have h19N : N.1 19 = M.1 19 := hF.1 19 (nin1 (by decide))
      have h35N : N.1 35 = M.1 35 := hF.1 35 (nin1 (by decide))
      have h31N : N.1 (31 + l) = M.1 (31 + l) := hF.1 _ (nin1 (by omega))
      have hWN := hW.fr h17N
      have hLN := hL.fr h35N
      refine wa_iload dX0_joinStreet_14 0 rfl ?_
      refine wa_aload_n dX0_joinStreet_16 rfl 2 rfl ?_
      refine wa_iload_n dX0_joinStreet_17 rfl 3 rfl ?_
      refine wa_iload_n dX0_joinStreet_18 rfl 4 rfl ?_
      refine wa_cVi (m_lastStart w h hWN l z hLN st (by omega)) vX0_lastStart iX0_joinStreet_19 (rfl) rfl rfl rfl (Nat.le_of_ble_eq_true rfl) ⟨by decide, by decide⟩ ?_
      refine wa_icmp_gt 124 dX0_joinStreet_22 (by decide) (fun c_22 => ?_) (fun c_22 => ?_)
      · have hlt := (ls_iff (by omega) (by omega) (by omega)).mp c_22
        refine wa_vret dX0_joinStreet_124 rfl ?_
        exact ⟨rfl, hF, fun s hs => by rw [hsb s hs, show sLen w h st + 1 - z = b by omega]⟩
      · have hlt : ¬ sLen w h st < b + z := fun q => c_22 ((ls_iff (by omega) (by omega) (by omega)).mpr q)
        refine wa_aload_n dX0_joinStreet_25 rfl 2 rfl ?_
        refine wa_getr gX0_joinStreet_26 (rfl) rfl ?_
        refine wa_aload_n dX0_joinStreet_29 rfl 2 rfl ?_
        refine wa_getr gX0_joinStreet_30 (rfl) rfl ?_
        refine wa_cVv (m_quartersHad w h hWN 37 rfl (by decide) (by decide)) vX4_quartersHad iX0_joinStreet_33 (rfl) rfl rfl rfl (Nat.le_of_ble_eq_true rfl) ⟨by decide, by decide⟩ ?_
        refine wa_iconst (0) dX0_joinStreet_36 (by decide) ?_
        refine wa_istore [(6, .int (0)), (5, .int (nI (b))), (4, .int (nI (sFst h st e))), (0, wm_r G (28)), (1, .int (nI (l))), (2, .int (nI (st))), (3, .int (nI (e)))] dX0_joinStreet_37 (by decide) rfl ?_
        have L_39 : ∀ (n_ : Nat) (i : Nat) (N2 : wm_M) (qb : Nat → Nat), (z - i) < n_ → (i ≤ z) → (Fr [37] [38 + 2 * l + 1] M N2) → (N2.2.1 (38 + 2 * l + 1) = N.2.1 (38 + 2 * l + 1)) → (∀ j, j < 6 → N2.1 37 j = nI (qb j) ∧ qb j < 16) → (∀ k, k < 6 → ∀ q, q < 4 → (qb k).testBit q = ((hadN (M.1 18) (w * h) k).testBit q && wAll (fun i => !decide (sAt w h st e (b + i) = k) || (fun k q i => decide (sShow (M.1 18) (M.1 19) k ((q + sFst h st e) % 4) = M.1 (31 + l) i)) k q i) i)) → WA G t_X0_joinStreet (JsP M w h l z st e) 39 [(6, .int (nI (i))), (5, .int (nI (b))), (4, .int (nI (sFst h st e))), (0, wm_r G (28)), (1, .int (nI (l))), (2, .int (nI (st))), (3, .int (nI (e)))] [] (N2) := by
          intro n_
          induction n_ with
          | zero => intro i N2 qb h_; exact absurd h_ (Nat.not_lt_zero _)
          | succ n_ ih_39 =>
            intro i N2 qb h_ hi hF2 hJ2 hqb htb
            have h17N2 : N2.1 17 = M.1 17 := hF2.1 17 (nin1 (by decide))
            have h18N2 : N2.1 18 = M.1 18 := hF2.1 18 (nin1 (by decide))
            have h19N2 : N2.1 19 = M.1 19 := hF2.1 19 (nin1 (by decide))
            have h35N2 : N2.1 35 = M.1 35 := hF2.1 35 (nin1 (by decide))
            have h31N2 : N2.1 (31 + l) = M.1 (31 + l) := hF2.1 _ (nin1 (by omega))
            have hWN2 := hW.fr h17N2
            have hLN2 := hL.fr h35N2
            refine wa_iload dX0_joinStreet_39 0 rfl ?_
            refine wa_aload_n dX0_joinStreet_41 rfl 3 rfl ?_
            refine wa_getr gX0_joinStreet_42 (rfl) rfl ?_
            refine wa_iload_n dX0_joinStreet_45 rfl 4 rfl ?_
            refine wa_cVi (m_sizeN 29 4 3 TB_laws l hl4) vX5_size iX0_joinStreet_46 (rfl) rfl rfl rfl (Nat.le_of_ble_eq_true rfl) ⟨by decide, by decide⟩ ?_
            refine wa_eqi (y := (nI (z))) (by rw [show N2.1 (29 + 2 + 4) l = nI z from hLN2.2.1, nI_clamp (by omega)]) ?_
            refine wa_icmp_geN (a := i) (b := z) 105 dX0_joinStreet_49 (by decide) (by omega) (by omega) (fun c_49 => ?_) (fun c_49 => ?_)
            · refine wa_aload_n dX0_joinStreet_105 rfl 3 rfl ?_
              refine wa_getr gX0_joinStreet_106 (rfl) rfl ?_
              refine wa_iload_n dX0_joinStreet_109 rfl 4 rfl ?_
              refine wa_aaldN (e := l) (Or.inr rfl) dX0_joinStreet_110 (rfl) (by omega) (by decide) ?_
              refine wa_aload_n dX0_joinStreet_111 rfl 3 rfl ?_
              refine wa_getr gX0_joinStreet_112 (rfl) rfl ?_
              refine wa_cVv (m_joinProduct (38 + 2 * l) (SSl l hl4) 37 rfl qb hqb) vX3_joinProduct iX0_joinStreet_115 ((SSl l hl4).1) rfl rfl rfl (Nat.le_of_ble_eq_true rfl) ⟨by decide, by decide⟩ ?_
              refine wa_iinc ((nI (b + 1))) [(5, .int (nI (b + 1))), (6, .int (nI (i))), (4, .int (nI (sFst h st e))), (0, wm_r G (28)), (1, .int (nI (l))), (2, .int (nI (st))), (3, .int (nI (e)))] dX0_joinStreet_118 1 rfl (nI_inc _) (by decide) rfl ?_
              refine wa_goto 14 dX0_joinStreet_121 (by decide) ?_
              refine wa_sub [0, 2, 3, 4, 5, 6] rfl ?_
              have hpm : ∀ s, prodB qb s = (prodB (hadN (M.1 18) (w * h)) s && matchB w h (M.1 18) (M.1 19) (M.1 (31 + l)) z s st e b) := fun s => prod_match (at_ := fun i => sAt w h st e (b + i)) (sh := (fun k q i => decide (sShow (M.1 18) (M.1 19) k ((q + sFst h st e) % 4) = M.1 (31 + l) i))) (by rw [show z = i by omega]; exact htb) (fun j hj => Nat.lt_of_lt_of_le (sAt_lt (e := e) hst (show b + j < sLen w h st by omega)) hn6)
              exact ih_14 (b + 1) _ (by omega) (by omega) (hF2.tr (Fr.ofJ (by simp))) (fun s hs => by rw [wJa_s, sb_jp (fun j hj => (hqb j hj).2) hs, hJ2, hsb s hs, hpm, wAny_s, Bool.and_or_distrib_left, Bool.or_assoc])
            · have hk := sAt_lt (e := e) hst (show b + i < sLen w h st by omega)
              have hqk := hqb (sAt w h st e (b + i)) (by omega)
              refine wa_aload_n dX0_joinStreet_52 rfl 3 rfl ?_
              refine wa_getr gX0_joinStreet_53 (rfl) rfl ?_
              refine wa_iload_n dX0_joinStreet_56 rfl 5 rfl ?_
              refine wa_iload_n dX0_joinStreet_57 rfl 6 rfl ?_
              refine wa_iload dX0_joinStreet_58 1 rfl ?_
              refine wa_iload dX0_joinStreet_60 0 rfl ?_
              refine wa_iaddN (a := b) (b := i) dX0_joinStreet_62 ?_
              refine wa_cVi (m_stoneAt w h hWN2 st e (b + i) (by omega) he (by omega)) vX4_stoneAt iX0_joinStreet_63 (rfl) rfl rfl rfl (Nat.le_of_ble_eq_true rfl) ⟨by decide, by decide⟩ ?_
              refine wa_istore [(7, .int (nI (sAt w h st e (b + i)))), (6, .int (nI (i))), (5, .int (nI (b))), (4, .int (nI (sFst h st e))), (0, wm_r G (28)), (1, .int (nI (l))), (2, .int (nI (st))), (3, .int (nI (e)))] dX0_joinStreet_66 (by decide) rfl ?_
              refine wa_aload_n dX0_joinStreet_68 rfl 4 rfl ?_
              refine wa_getr gX0_joinStreet_69 (rfl) rfl ?_
              refine wa_iload dX0_joinStreet_72 0 rfl ?_
              refine wa_dup2_11 dX0_joinStreet_74 rfl rfl ?_
              refine wa_ialdN (e := sAt w h st e (b + i)) dX0_joinStreet_75 (rfl) (by omega) (by decide) ?_
              refine wa_eqi (y := (nI (qb (sAt w h st e (b + i))))) (hqk.1) ?_
              refine wa_aload_n dX0_joinStreet_76 rfl 4 rfl ?_
              refine wa_getr gX0_joinStreet_77 (rfl) rfl ?_
              refine wa_iload dX0_joinStreet_80 0 rfl ?_
              refine wa_iload dX0_joinStreet_82 3 rfl ?_
              refine wa_aload_n dX0_joinStreet_84 rfl 4 rfl ?_
              refine wa_getr gX0_joinStreet_85 (rfl) rfl ?_
              refine wa_iload_n dX0_joinStreet_88 rfl 5 rfl ?_
              refine wa_iload dX0_joinStreet_89 1 rfl ?_
              refine wa_cVi (m_getN 29 4 3 TB_laws l i z hl4 (by omega) hLN2.2.1 hz3) vX5_get iX0_joinStreet_91 (rfl) rfl rfl rfl (Nat.le_of_ble_eq_true rfl) ⟨by decide, by decide⟩ ?_
              refine wa_eqi (y := (M.1 (31 + l) i)) (by rw [if_pos c_49, show N2.1 (29 + 2 + l) = M.1 (31 + l) from h31N2]) ?_
              refine wa_cVi (m_quartersShowing (sAt w h st e (b + i)) (sFst h st e) (M.1 (31 + l) i) (by omega) (by omega)) vX4_quartersShowing iX0_joinStreet_94 (rfl) rfl rfl rfl (Nat.le_of_ble_eq_true rfl) ⟨by decide, by decide⟩ ?_
              refine wa_eqi (y := (nI (wBits (fun q => decide (sShow (M.1 18) (M.1 19) (sAt w h st e (b + i)) ((q + sFst h st e) % 4) = M.1 (31 + l) i)) 4))) (by rw [h18N2, h19N2]) ?_
              refine wa_iand dX0_joinStreet_97 ?_
              refine wa_eqi (y := (nI (qb (sAt w h st e (b + i)) &&& wBits (fun q => decide (sShow (M.1 18) (M.1 19) (sAt w h st e (b + i)) ((q + sFst h st e) % 4) = M.1 (31 + l) i)) 4))) (nI_and _ _) ?_
              refine wa_iastN (e := sAt w h st e (b + i)) dX0_joinStreet_98 (rfl) (by omega) (by decide) ?_
              refine wa_iinc ((nI (i + 1))) [(6, .int (nI (i + 1))), (7, .int (nI (sAt w h st e (b + i)))), (5, .int (nI (b))), (4, .int (nI (sFst h st e))), (0, wm_r G (28)), (1, .int (nI (l))), (2, .int (nI (st))), (3, .int (nI (e)))] dX0_joinStreet_99 1 rfl (nI_inc _) (by decide) rfl ?_
              refine wa_goto 39 dX0_joinStreet_102 (by decide) ?_
              refine wa_sub [0, 2, 3, 4, 5, 6, 7] rfl ?_
              exact ih_39 (i + 1) _ (fun k => if k = sAt w h st e (b + i) then qb (sAt w h st e (b + i)) &&& wBits (fun q => decide (sShow (M.1 18) (M.1 19) (sAt w h st e (b + i)) ((q + sFst h st e) % 4) = M.1 (31 + l) i)) 4 else qb k) (by omega) (by omega) (hF2.tr (Fr.ofI (by simp))) hJ2 (fun j hj => by by_cases q : j = sAt w h st e (b + i); (subst q; exact ⟨by rw [wI_at, if_pos rfl], by rw [if_pos rfl]; exact Nat.lt_of_le_of_lt Nat.and_le_left hqk.2⟩); (rw [wI_ne (fun z9 => q z9.2), if_neg q]; exact hqb j hj)) (fun k hk9 q hq => by rw [wAll_s]; by_cases z9 : k = sAt w h st e (b + i); (subst z9; simp only [if_true]; rw [Nat.testBit_and, htb _ hk9 q hq, wBits_bit, Bool.and_assoc]; simp [hq]); (rw [if_neg z9, htb k hk9 q hq]; simp [Ne.symm z9]))
        exact L_39 _ 0 _ (hadN (M.1 18) (w * h)) (Nat.lt_succ_self _) (Nat.zero_le _) (hF.tr (Fr.ofI (by simp))) rfl (fun j hj => ⟨by rw [wIa_s, wTo_full hj, h18N, hadN_t], hadN_lt _ _ _⟩) (fun k hk q hq => by rw [wAll_0, Bool.and_true])
  exact L_14 _ 0 M (Nat.lt_succ_self _) (Nat.zero_le _) (Fr.rf _ _ M) (fun s hs => by rw [wAny_0, Bool.and_false, Bool.or_false])
