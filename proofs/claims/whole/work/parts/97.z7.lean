theorem x_spot {G : wm_G} {M : wm_M} (y t : Nat) : MD G t_X10_spot [.int (nI (y)), .int (nI (t))] (M) (some (.int (nI (4096 * y + t)))) (M) := by
  refine wm_met (by decide) (Nat.le_of_ble_eq_true rfl) ?_
  show WA G t_X10_spot (fun v_ N_ => v_ = some (.int (nI (4096 * y + t))) ∧ N_ = M) 0 [(0, .int (nI (y))), (1, .int (nI (t)))] [] (M)
  refine wa_sipush (4096) dX10_spot_0 (by decide) ?_
  refine wa_iload_n dX10_spot_3 rfl 0 rfl ?_
  refine wa_imulN (a := 4096) (b := y) dX10_spot_4 ?_
  refine wa_iload_n dX10_spot_5 rfl 1 rfl ?_
  refine wa_iaddN (a := 4096 * y) (b := t) dX10_spot_6 ?_
  exact wa_iret dX10_spot_7 rfl ⟨congrArg (fun z => some (Value.int z)) (rfl), rfl⟩

theorem x_fits {G : wm_G} {M : wm_M} (C : wm_M) (w h rn : Nat) (hX : xStn C M w h) (hW : TW C w h) (hRO : RecOk C w h rn) (hE : xEng C M w h rn) (t y : Nat) (ht : t < 4096) (hy : y ≤ 9) : MA G t_X10_fits [wm_r G (96), .int (nI (t)), .int (nI (y))] (M) (fun v N => v = some (.int (wB (fitB C w h rn y t))) ∧ FrH M N ∧ N.2 = M.2) := by
  obtain ⟨x10, x11, x12, x103, x104, x105, x106⟩ := id hX
  have hn6 := TW_n hW
  have hw3 := hW.2.2.1
  have hh2 := hW.2.2.2
  have hr4 := hRO.2.1
  refine wm_met (by decide) (Nat.le_of_ble_eq_true rfl) ?_
  show WA G t_X10_fits (fun v N => v = some (.int (wB (fitB C w h rn y t))) ∧ FrH M N ∧ N.2 = M.2) 0 [(0, wm_r G (96)), (1, .int (nI (t))), (2, .int (nI (y)))] [] (M)
  refine wa_iconst (1) dX10_fits_0 (by decide) ?_
  refine wa_eqi (y := (wB (wAll (ftP C w h y t) 0))) (rfl) ?_
  refine wa_istore_n [(3, .int (wB (wAll (ftP C w h y t) 0))), (0, wm_r G (96)), (1, .int (nI (t))), (2, .int (nI (y)))] dX10_fits_1 rfl (by decide) rfl ?_
  refine wa_iconst (0) dX10_fits_2 (by decide) ?_
  refine wa_istore [(4, .int (0)), (3, .int (wB (wAll (ftP C w h y t) 0))), (0, wm_r G (96)), (1, .int (nI (t))), (2, .int (nI (y)))] dX10_fits_3 (by decide) rfl ?_
  have L_5 : ∀ (n_ : Nat) (e : Nat) (N : wm_M), (rn - e) < n_ → (e ≤ rn) → (FrH M N) → (N.2 = M.2) → WA G t_X10_fits (fun v N => v = some (.int (wB (fitB C w h rn y t))) ∧ FrH M N ∧ N.2 = M.2) 5 [(4, .int (nI (e))), (3, .int (wB (wAll (ftP C w h y t) e))), (0, wm_r G (96)), (1, .int (nI (t))), (2, .int (nI (y)))] [] (N) := by
    intro n_
    induction n_ with
    | zero => intro e N h_; exact absurd h_ (Nat.not_lt_zero _)
    | succ n_ ih_5 =>
      intro e N h_ he hF h2
      refine wa_iload dX10_fits_5 0 rfl ?_
      refine wa_aload_n dX10_fits_7 rfl 2 rfl ?_
      refine wa_geti gX10_fits_8 (rfl) rfl ?_
      refine wa_eqi (y := (nI (rn))) (by rw [hF.1 96 (by decide)]; exact hE.1) ?_
      refine wa_icmp_geN (a := e) (b := rn) 123 dX10_fits_11 (by decide) (by omega) (by omega) (fun c_11 => ?_) (fun c_11 => ?_)
      · have hex : wAll (ftP C w h y t) rn = wAll (ftP C w h y t) e := by rw [show rn = e by omega]
        refine wa_iload_n dX10_fits_123 rfl 1 rfl ?_
        refine wa_zretB dX10_fits_124 rfl ?_
        exact ⟨congrArg (fun q => some (Value.int (wB q))) (by rw [ft_all, hex]; first | done | exact c_15), hF, h2⟩
      · refine wa_iload_n dX10_fits_14 rfl 1 rfl ?_
        refine wa_if_eqB 123 dX10_fits_15 (by decide) (fun (c_15 : (wAll (ftP C w h y t) e) = false) => ?_) (fun (c_15 : (wAll (ftP C w h y t) e) = true) => ?_)
        · have hex : wAll (ftP C w h y t) rn = false := by
            refine Bool.eq_false_iff.mpr (fun q => ?_)
            have := wAll_t (p := ftP C w h y t) (n := e) (fun j hj => wAll_iff.mp q j (by omega))
            rw [c_15] at this; cases this
          refine wa_iload_n dX10_fits_123 rfl 1 rfl ?_
          refine wa_zretB dX10_fits_124 rfl ?_
          exact ⟨congrArg (fun q => some (Value.int (wB q))) (by rw [ft_all, hex]; first | done | exact c_15), hF, h2⟩
        · obtain ⟨y1, st, en, hre⟩ := hRO.2.2 e (by omega)
          have hst := hre.2.2.2.1
          have heS : eS C e = st := by unfold eS; rw [hre.2.2.1, nI_clamp (by omega)]
          have heE : eE C e = en := by unfold eE; rw [hre.2.2.2.2.1, nI_clamp (by have := hre.2.2.2.2.2.1; omega)]
          have heY : eY C e = y1 := by unfold eY; rw [hre.1, nI_clamp (by have := hre.2.1; omega)]
          have hy1 := hre.2.1
          have hen := hre.2.2.2.2.2.1
          have hlen : sLen w h st ≤ 3 := by unfold sLen; split <;> omega
          obtain ⟨g0, g1, g2, g3⟩ := hE.2 e (by omega)
          rw [heS] at g3
          have h119 := hF.1 119 (by decide)
          have hr4 := hRO.2.1
          refine wa_bipush (6) dX10_fits_18 (by decide) ?_
          refine wa_iload dX10_fits_20 0 rfl ?_
          refine wa_imulN (a := 6) (b := e) dX10_fits_22 ?_
          refine wa_istore [(5, .int (nI (6 * e))), (4, .int (nI (e))), (3, .int (wB (wAll (ftP C w h y t) e))), (0, wm_r G (96)), (1, .int (nI (t))), (2, .int (nI (y)))] dX10_fits_23 (by decide) rfl ?_
          refine wa_aload_n dX10_fits_25 rfl 3 rfl ?_
          refine wa_getr gX10_fits_26 (rfl) rfl ?_
          refine wa_iload dX10_fits_29 0 rfl ?_
          refine wa_ialdN (e := 6 * e) dX10_fits_31 (rfl) (by omega) (by decide) ?_
          refine wa_eqi (y := (nI (y1))) (by rw [h119, g0]; exact hre.1) ?_
          refine wa_iload_n dX10_fits_32 rfl 5 rfl ?_
          refine wa_icmp_neN (a := y1) (b := y) 117 dX10_fits_33 (by decide) (by omega) (by omega) (fun c_33 => ?_) (fun c_33 => ?_)
          · have hft : ftP C w h y t e = true := by unfold ftP; rw [heY, decide_eq_false c_33]; rfl
            refine wa_iinc ((nI (e + 1))) [(4, .int (nI (e + 1))), (5, .int (nI (6 * e))), (3, .int (wB (wAll (ftP C w h y t) e))), (0, wm_r G (96)), (1, .int (nI (t))), (2, .int (nI (y)))] dX10_fits_117 1 rfl (nI_inc _) (by decide) rfl ?_
            refine wa_goto 5 dX10_fits_120 (by decide) ?_
            refine wa_sub [0, 2, 3, 4, 5] rfl ?_
            first | rw [show wAll (ftP C w h y t) e = wAll (ftP C w h y t) (e + 1) by rw [wAll_s, hft, Bool.and_true]] | rw [show (wAll (ftP C w h y t) e && wAll (fun i => decide (wordR C w h t (eS C e) (eE C e) i = C.1 (60 + e) i)) i) = wAll (ftP C w h y t) (e + 1) by rw [wAll_s, hft, show i = sLen w h st by omega]]
            exact ih_5 (e + 1) _ (by omega) (by omega) (by first | exact hF2 | exact hF) (by first | exact h22 | exact h2)
          · have hft : ftP C w h y t e = wAll (fun i => decide (wordR C w h t (eS C e) (eE C e) i = C.1 (60 + e) i)) (sLen w h st) := by unfold ftP; rw [heY, decide_eq_true c_33, enB_w, heS]; rfl
            refine wa_aload_n dX10_fits_36 rfl 3 rfl ?_
            refine wa_iload_n dX10_fits_37 rfl 4 rfl ?_
            refine wa_cVv (x_layState (M := N) (w * h) t hn6 (by rw [hF.1 96 (by decide)]; exact x12) ht) vX10_layState iX10_fits_38 (rfl) rfl rfl rfl (Nat.le_of_ble_eq_true rfl) ⟨by decide, by decide⟩ ?_
            refine wa_top (fun N2 e_N2 => ?_)
            have hF2 : FrH M N2 := by rw [e_N2]; exact hF.tr FrH.l
            have h22 : N2.2 = M.2 := by rw [e_N2]; exact h2
            have h1192 : N2.1 119 = M.1 119 := hF2.1 119 (by decide)
            have hXn := hF2.stn hX
            have hLd2 : Laid N2 (w * h) t := fun k hk => by rw [e_N2]; show (wIa _ 111 _).1 111 k = _; rw [wIa_s, wTo_in hk]
            refine wa_iconst (0) dX10_fits_41 (by decide) ?_
            refine wa_istore [(6, .int (0)), (5, .int (nI (6 * e))), (4, .int (nI (e))), (3, .int (wB (wAll (ftP C w h y t) e))), (0, wm_r G (96)), (1, .int (nI (t))), (2, .int (nI (y)))] dX10_fits_42 (by decide) rfl ?_
            have L_44 : ∀ (n_ : Nat) (i : Nat), (sLen w h st - i) < n_ → (i ≤ sLen w h st) → WA G t_X10_fits (fun v N => v = some (.int (wB (fitB C w h rn y t))) ∧ FrH M N ∧ N.2 = M.2) 44 [(6, .int (nI (i))), (5, .int (nI (6 * e))), (4, .int (nI (e))), (3, .int (wB (wAll (ftP C w h y t) e && wAll (fun i => decide (wordR C w h t (eS C e) (eE C e) i = C.1 (60 + e) i)) i))), (0, wm_r G (96)), (1, .int (nI (t))), (2, .int (nI (y)))] [] (N2) := by
              intro n_
              induction n_ with
              | zero => intro i h_; exact absurd h_ (Nat.not_lt_zero _)
              | succ n_ ih_44 =>
                intro i h_ hi
                refine wa_iload dX10_fits_44 0 rfl ?_
                refine wa_aload_n dX10_fits_46 rfl 4 rfl ?_
                refine wa_aload_n dX10_fits_47 rfl 4 rfl ?_
                refine wa_getr gX10_fits_48 (rfl) rfl ?_
                refine wa_iload dX10_fits_51 1 rfl ?_
                refine wa_iconst (1) dX10_fits_53 (by decide) ?_
                refine wa_iaddN (a := 6 * e) (b := 1) dX10_fits_54 ?_
                refine wa_ialdN (e := 6 * e + 1) dX10_fits_55 (rfl) (by omega) (by decide) ?_
                refine wa_eqi (y := (nI (st))) (by rw [h1192, g1]; exact hre.2.2.1) ?_
                refine wa_cVi (x_longOf C w h hXn hW st (by omega)) vX10_longOf iX10_fits_56 (rfl) rfl rfl rfl (Nat.le_of_ble_eq_true rfl) ⟨by decide, by decide⟩ ?_
                refine wa_icmp_geN (a := i) (b := sLen w h st) 117 dX10_fits_59 (by decide) (by omega) (by omega) (fun c_59 => ?_) (fun c_59 => ?_)
                · refine wa_iinc ((nI (e + 1))) [(4, .int (nI (e + 1))), (6, .int (nI (i))), (5, .int (nI (6 * e))), (3, .int (wB (wAll (ftP C w h y t) e && wAll (fun i => decide (wordR C w h t (eS C e) (eE C e) i = C.1 (60 + e) i)) i))), (0, wm_r G (96)), (1, .int (nI (t))), (2, .int (nI (y)))] dX10_fits_117 2 rfl (nI_inc _) (by decide) rfl ?_
                  refine wa_goto 5 dX10_fits_120 (by decide) ?_
                  refine wa_sub [0, 3, 4, 5, 6] rfl ?_
                  first | rw [show wAll (ftP C w h y t) e = wAll (ftP C w h y t) (e + 1) by rw [wAll_s, hft, Bool.and_true]] | rw [show (wAll (ftP C w h y t) e && wAll (fun i => decide (wordR C w h t (eS C e) (eE C e) i = C.1 (60 + e) i)) i) = wAll (ftP C w h y t) (e + 1) by rw [wAll_s, hft, show i = sLen w h st by omega]]
                  exact ih_5 (e + 1) _ (by omega) (by omega) (by first | exact hF2 | exact hF) (by first | exact h22 | exact h2)
                · refine wa_iload_n dX10_fits_62 rfl 3 rfl ?_
                  refine wa_if_eqB 109 dX10_fits_63 (by decide) (fun (c_63 : (wAll (ftP C w h y t) e && wAll (fun i => decide (wordR C w h t (eS C e) (eE C e) i = C.1 (60 + e) i)) i) = false) => ?_) (fun (c_63 : (wAll (ftP C w h y t) e && wAll (fun i => decide (wordR C w h t (eS C e) (eE C e) i = C.1 (60 + e) i)) i) = true) => ?_)
                  · refine wa_iconst (0) dX10_fits_109 (by decide) ?_
                    refine wa_eqi (y := (wB (wAll (ftP C w h y t) e && wAll (fun i => decide (wordR C w h t (eS C e) (eE C e) i = C.1 (60 + e) i)) (i + 1)))) (by rw [wAll_s, ← Bool.and_assoc, heS, heE]; rw [heS, heE] at c_63; first | (rw [c_63]; rfl) | (rw [c_63, decide_eq_true c_102]; rfl) | (rw [c_63, decide_eq_false c_102]; rfl)) ?_
                    refine wa_istore_n [(3, .int (wB (wAll (ftP C w h y t) e && wAll (fun i => decide (wordR C w h t (eS C e) (eE C e) i = C.1 (60 + e) i)) (i + 1)))), (6, .int (nI (i))), (5, .int (nI (6 * e))), (4, .int (nI (e))), (0, wm_r G (96)), (1, .int (nI (t))), (2, .int (nI (y)))] dX10_fits_110 rfl (by decide) rfl ?_
                    refine wa_iinc ((nI (i + 1))) [(6, .int (nI (i + 1))), (3, .int (wB (wAll (ftP C w h y t) e && wAll (fun i => decide (wordR C w h t (eS C e) (eE C e) i = C.1 (60 + e) i)) (i + 1)))), (5, .int (nI (6 * e))), (4, .int (nI (e))), (0, wm_r G (96)), (1, .int (nI (t))), (2, .int (nI (y)))] dX10_fits_111 1 rfl (nI_inc _) (by decide) rfl ?_
                    refine wa_goto 44 dX10_fits_114 (by decide) ?_
                    refine wa_sub [0, 2, 3, 1, 4, 5, 6] rfl ?_
                    exact ih_44 (i + 1) (by omega) (by omega)
                  · refine wa_aload_n dX10_fits_66 rfl 4 rfl ?_
                    refine wa_aload_n dX10_fits_67 rfl 4 rfl ?_
                    refine wa_getr gX10_fits_68 (rfl) rfl ?_
                    refine wa_iload dX10_fits_71 1 rfl ?_
                    refine wa_iconst (1) dX10_fits_73 (by decide) ?_
                    refine wa_iaddN (a := 6 * e) (b := 1) dX10_fits_74 ?_
                    refine wa_ialdN (e := 6 * e + 1) dX10_fits_75 (rfl) (by omega) (by decide) ?_
                    refine wa_eqi (y := (nI (st))) (by rw [h1192, g1]; exact hre.2.2.1) ?_
                    refine wa_aload_n dX10_fits_76 rfl 4 rfl ?_
                    refine wa_getr gX10_fits_77 (rfl) rfl ?_
                    refine wa_iload dX10_fits_80 1 rfl ?_
                    refine wa_iconst (2) dX10_fits_82 (by decide) ?_
                    refine wa_iaddN (a := 6 * e) (b := 2) dX10_fits_83 ?_
                    refine wa_ialdN (e := 6 * e + 2) dX10_fits_84 (rfl) (by omega) (by decide) ?_
                    refine wa_eqi (y := (nI (en))) (by rw [h1192, g2]; exact hre.2.2.2.2.1) ?_
                    refine wa_iload dX10_fits_85 0 rfl ?_
                    refine wa_cVi (x_wordAt C w h hXn hW st en i hst hen (by omega) t hLd2) vX10_wordAt iX10_fits_87 (rfl) rfl rfl rfl (Nat.le_of_ble_eq_true rfl) ⟨by decide, by decide⟩ ?_
                    refine wa_aload_n dX10_fits_90 rfl 4 rfl ?_
                    refine wa_getr gX10_fits_91 (rfl) rfl ?_
                    refine wa_iload dX10_fits_94 1 rfl ?_
                    refine wa_iconst (3) dX10_fits_96 (by decide) ?_
                    refine wa_iaddN (a := 6 * e) (b := 3) dX10_fits_97 ?_
                    refine wa_iload dX10_fits_98 0 rfl ?_
                    refine wa_iaddN (a := 6 * e + 3) (b := i) dX10_fits_100 ?_
                    refine wa_ialdN (e := 6 * e + 3 + i) dX10_fits_101 (rfl) (by omega) (by decide) ?_
                    refine wa_eqi (y := (C.1 (60 + e) i)) (by rw [h1192]; exact g3 i (by omega)) ?_
                    refine wa_icmp_ne 109 dX10_fits_102 (by decide) (fun c_102 => ?_) (fun c_102 => ?_)
                    · refine wa_iconst (0) dX10_fits_109 (by decide) ?_
                      refine wa_eqi (y := (wB (wAll (ftP C w h y t) e && wAll (fun i => decide (wordR C w h t (eS C e) (eE C e) i = C.1 (60 + e) i)) (i + 1)))) (by rw [wAll_s, ← Bool.and_assoc, heS, heE]; rw [heS, heE] at c_63; first | (rw [c_63]; rfl) | (rw [c_63, decide_eq_true c_102]; rfl) | (rw [c_63, decide_eq_false c_102]; rfl)) ?_
                      refine wa_istore_n [(3, .int (wB (wAll (ftP C w h y t) e && wAll (fun i => decide (wordR C w h t (eS C e) (eE C e) i = C.1 (60 + e) i)) (i + 1)))), (6, .int (nI (i))), (5, .int (nI (6 * e))), (4, .int (nI (e))), (0, wm_r G (96)), (1, .int (nI (t))), (2, .int (nI (y)))] dX10_fits_110 rfl (by decide) rfl ?_
                      refine wa_iinc ((nI (i + 1))) [(6, .int (nI (i + 1))), (3, .int (wB (wAll (ftP C w h y t) e && wAll (fun i => decide (wordR C w h t (eS C e) (eE C e) i = C.1 (60 + e) i)) (i + 1)))), (5, .int (nI (6 * e))), (4, .int (nI (e))), (0, wm_r G (96)), (1, .int (nI (t))), (2, .int (nI (y)))] dX10_fits_111 1 rfl (nI_inc _) (by decide) rfl ?_
                      refine wa_goto 44 dX10_fits_114 (by decide) ?_
                      refine wa_sub [0, 2, 3, 1, 4, 5, 6] rfl ?_
                      exact ih_44 (i + 1) (by omega) (by omega)
                    · refine wa_iconst (1) dX10_fits_105 (by decide) ?_
                      refine wa_goto 110 dX10_fits_106 (by decide) ?_
                      refine wa_eqi (y := (wB (wAll (ftP C w h y t) e && wAll (fun i => decide (wordR C w h t (eS C e) (eE C e) i = C.1 (60 + e) i)) (i + 1)))) (by rw [wAll_s, ← Bool.and_assoc, heS, heE]; rw [heS, heE] at c_63; first | (rw [c_63]; rfl) | (rw [c_63, decide_eq_true c_102]; rfl) | (rw [c_63, decide_eq_false c_102]; rfl)) ?_
                      refine wa_istore_n [(3, .int (wB (wAll (ftP C w h y t) e && wAll (fun i => decide (wordR C w h t (eS C e) (eE C e) i = C.1 (60 + e) i)) (i + 1)))), (6, .int (nI (i))), (5, .int (nI (6 * e))), (4, .int (nI (e))), (0, wm_r G (96)), (1, .int (nI (t))), (2, .int (nI (y)))] dX10_fits_110 rfl (by decide) rfl ?_
                      refine wa_iinc ((nI (i + 1))) [(6, .int (nI (i + 1))), (3, .int (wB (wAll (ftP C w h y t) e && wAll (fun i => decide (wordR C w h t (eS C e) (eE C e) i = C.1 (60 + e) i)) (i + 1)))), (5, .int (nI (6 * e))), (4, .int (nI (e))), (0, wm_r G (96)), (1, .int (nI (t))), (2, .int (nI (y)))] dX10_fits_111 1 rfl (nI_inc _) (by decide) rfl ?_
                      refine wa_goto 44 dX10_fits_114 (by decide) ?_
                      refine wa_sub [0, 2, 3, 1, 4, 5, 6] rfl ?_
                      exact ih_44 (i + 1) (by omega) (by omega)
            rw [show wAll (ftP C w h y t) e = (wAll (ftP C w h y t) e && wAll (fun i => decide (wordR C w h t (eS C e) (eE C e) i = C.1 (60 + e) i)) 0) by rw [wAll_0, Bool.and_true]]
            exact L_44 _ 0 (Nat.lt_succ_self _) (Nat.zero_le _)
  exact L_5 _ 0 M (Nat.lt_succ_self _) (Nat.zero_le _) (FrH.rf M) rfl

set_option maxHeartbeats 8000000 in
theorem x_layHist {G : wm_G} {M : wm_M} (C : wm_M) (w h rn : Nat) (hX : xStn C M w h) (hW : TW C w h) (hRO : RecOk C w h rn) (hE : xEng C M w h rn) (yrs : Nat) (hy9 : yrs ≤ 9) : MA G t_X10_layHistories [wm_r G (96), .int (nI (yrs))] (M) (fun v N => v = none ∧ FrH M N ∧ (∀ y, y ≤ yrs → ∀ t, t < 4 ^ (w * h) → N.2.1 120 (4096 * y + t) = lN (FWn C w h rn y t)) ∧ ∀ y, y ≤ yrs → ∀ t, t < 4 ^ (w * h) → N.2.1 121 (4096 * y + t) = lN (ONn C w h rn yrs (yrs - y) t)) := by
  obtain ⟨x10, x11, x12, x103, x104, x105, x106⟩ := id hX
  have hn6 := TW_n hW
  have hw3 := hW.2.2.1
  have hh2 := hW.2.2.2
  have h4 := p4_le hn6
  refine wm_met (by decide) (Nat.le_of_ble_eq_true rfl) ?_
  show WA G t_X10_layHistories (fun v N => v = none ∧ FrH M N ∧ (∀ y, y ≤ yrs → ∀ t, t < 4 ^ (w * h) → N.2.1 120 (4096 * y + t) = lN (FWn C w h rn y t)) ∧ ∀ y, y ≤ yrs → ∀ t, t < 4 ^ (w * h) → N.2.1 121 (4096 * y + t) = lN (ONn C w h rn yrs (yrs - y) t)) 0 [(0, wm_r G (96)), (1, .int (nI (yrs)))] [] (M)
  refine wa_iconst (0) dX10_layHistories_0 (by decide) ?_
  refine wa_istore_n [(2, .int (0)), (0, wm_r G (96)), (1, .int (nI (yrs)))] dX10_layHistories_1 rfl (by decide) rfl ?_
  have L_2 : ∀ (n_ : Nat) (y : Nat) (N : wm_M), (yrs + 1 - y) < n_ → (y ≤ yrs + 1) → (FrH M N) → (∀ y2, y2 < y → ∀ t2, t2 < 4 ^ (w * h) → N.2.1 120 (4096 * y2 + t2) = lN (FWn C w h rn y2 t2)) → WA G t_X10_layHistories (fun v N => v = none ∧ FrH M N ∧ (∀ y, y ≤ yrs → ∀ t, t < 4 ^ (w * h) → N.2.1 120 (4096 * y + t) = lN (FWn C w h rn y t)) ∧ ∀ y, y ≤ yrs → ∀ t, t < 4 ^ (w * h) → N.2.1 121 (4096 * y + t) = lN (ONn C w h rn yrs (yrs - y) t)) 2 [(2, .int (nI (y))), (0, wm_r G (96)), (1, .int (nI (yrs)))] [] (N) := by
    intro n_
    induction n_ with
    | zero => intro y N h_; exact absurd h_ (Nat.not_lt_zero _)
    | succ n_ ih_2 =>
      intro y N h_ hy hF hfw
      refine wa_iload_n dX10_layHistories_2 rfl 0 rfl ?_
      refine wa_iload_n dX10_layHistories_3 rfl 2 rfl ?_
      refine wa_icmp_gtN (a := y) (b := yrs) 211 dX10_layHistories_4 (by decide) (by omega) (by omega) (fun c_4 => ?_) (fun c_4 => ?_)
      · have hfa : ∀ y2, y2 ≤ yrs → ∀ t2, t2 < 4 ^ (w * h) → N.2.1 120 (4096 * y2 + t2) = lN (FWn C w h rn y2 t2) := fun y2 h2 t2 ht2 => hfw y2 (by omega) t2 ht2
        refine wa_iload_n dX10_layHistories_211 rfl 2 rfl ?_
        refine wa_eqi (y := (nI (yrs + 1) - 1)) (by rw [m1_n (by omega)]; rfl) ?_
        refine wa_istore_n [(2, .int (nI (yrs + 1) - 1)), (0, wm_r G (96)), (1, .int (nI (yrs)))] dX10_layHistories_212 rfl (by decide) rfl ?_
        have L_213 : ∀ (n_ : Nat) (m : Nat) (N : wm_M), (m) < n_ → (m ≤ yrs + 1) → (FrH M N) → (∀ y2, y2 ≤ yrs → ∀ t2, t2 < 4 ^ (w * h) → N.2.1 120 (4096 * y2 + t2) = lN (FWn C w h rn y2 t2)) → (∀ y2, m ≤ y2 → y2 ≤ yrs → ∀ t2, t2 < 4 ^ (w * h) → N.2.1 121 (4096 * y2 + t2) = lN (ONn C w h rn yrs (yrs - y2) t2)) → WA G t_X10_layHistories (fun v N => v = none ∧ FrH M N ∧ (∀ y, y ≤ yrs → ∀ t, t < 4 ^ (w * h) → N.2.1 120 (4096 * y + t) = lN (FWn C w h rn y t)) ∧ ∀ y, y ≤ yrs → ∀ t, t < 4 ^ (w * h) → N.2.1 121 (4096 * y + t) = lN (ONn C w h rn yrs (yrs - y) t)) 213 [(2, .int (nI m - 1)), (0, wm_r G (96)), (1, .int (nI (yrs)))] [] (N) := by
          intro n_
          induction n_ with
          | zero => intro m N h_; exact absurd h_ (Nat.not_lt_zero _)
          | succ n_ ih_213 =>
            intro m N h_ hm hF hfa2 hon
            refine wa_iload_n dX10_layHistories_213 rfl 0 rfl ?_
            refine wa_if_lt 351 dX10_layHistories_214 (by decide) (fun c_214 => ?_) (fun c_214 => ?_)
            · have hm0 : m = 0 := (m1_neg (by omega)).mp c_214
              refine wa_vret dX10_layHistories_351 rfl ?_
              exact ⟨rfl, hF, hfa2, fun y2 h2 t2 ht2 => hon y2 (by omega) h2 t2 ht2⟩
            · have hm1 : 1 ≤ m := by rcases Nat.eq_zero_or_pos m with q | q; (exact absurd ((m1_neg (by omega)).mpr q) c_214); exact q
              refine wa_iconst (0) dX10_layHistories_217 (by decide) ?_
              refine wa_istore_n [(3, .int (0)), (2, .int (nI m - 1)), (0, wm_r G (96)), (1, .int (nI (yrs)))] dX10_layHistories_218 rfl (by decide) rfl ?_
              have L_219 : ∀ (n_ : Nat) (t : Nat) (N2 : wm_M), (4 ^ (w * h) - t) < n_ → (t ≤ 4 ^ (w * h)) → (FrH M N2) → (∀ y2, y2 ≤ yrs → ∀ t2, t2 < 4 ^ (w * h) → N2.2.1 120 (4096 * y2 + t2) = lN (FWn C w h rn y2 t2)) → (∀ y2, m ≤ y2 → y2 ≤ yrs → ∀ t2, t2 < 4 ^ (w * h) → N2.2.1 121 (4096 * y2 + t2) = lN (ONn C w h rn yrs (yrs - y2) t2)) → (∀ t2, t2 < t → N2.2.1 121 (4096 * (m - 1) + t2) = lN (ONn C w h rn yrs (yrs - (m - 1)) t2)) → WA G t_X10_layHistories (fun v N => v = none ∧ FrH M N ∧ (∀ y, y ≤ yrs → ∀ t, t < 4 ^ (w * h) → N.2.1 120 (4096 * y + t) = lN (FWn C w h rn y t)) ∧ ∀ y, y ≤ yrs → ∀ t, t < 4 ^ (w * h) → N.2.1 121 (4096 * y + t) = lN (ONn C w h rn yrs (yrs - y) t)) 219 [(3, .int (nI (t))), (2, .int (nI m - 1)), (0, wm_r G (96)), (1, .int (nI (yrs)))] [] (N2) := by
                intro n_
                induction n_ with
                | zero => intro t N2 h_; exact absurd h_ (Nat.not_lt_zero _)
                | succ n_ ih_219 =>
                  intro t N2 h_ ht hF2 hfa2 hon2 hin
                  refine wa_iload_n dX10_layHistories_219 rfl 0 rfl ?_
                  refine wa_aload_n dX10_layHistories_220 rfl 2 rfl ?_
                  refine wa_cVi (x_stateMany (w * h) hn6 (by rw [hF2.1 96 (by decide)]; exact x12)) vX10_stateMany iX10_layHistories_221 (rfl) rfl rfl rfl (Nat.le_of_ble_eq_true rfl) ⟨by decide, by decide⟩ ?_
                  refine wa_icmp_geN (a := t) (b := 4 ^ (w * h)) 345 dX10_layHistories_224 (by decide) (by omega) (by omega) (fun c_224 => ?_) (fun c_224 => ?_)
                  · refine wa_iinc ((nI (m - 1) - 1)) [(2, .int (nI (m - 1) - 1)), (3, .int (nI (t))), (0, wm_r G (96)), (1, .int (nI (yrs)))] dX10_layHistories_345 1 rfl (m1_dec hm1) (by decide) rfl ?_
                    refine wa_goto 213 dX10_layHistories_348 (by decide) ?_
                    refine wa_sub [0, 2, 3] rfl ?_
                    exact ih_213 (m - 1) _ (by omega) (by omega) hF2 hfa2 (fun y2 h1 h2 t2 ht2 => by by_cases q : y2 = m - 1; (subst q; exact hin t2 (by omega)); (exact hon2 y2 (by omega) h2 t2 ht2))
                  · refine wa_lconst (0) dX10_layHistories_227 (by decide) ?_
                    refine wa_lstore [(4, .long (0)), (3, .int (nI (t))), (2, .int (nI m - 1)), (0, wm_r G (96)), (1, .int (nI (yrs)))] dX10_layHistories_228 (by decide) rfl ?_
                    refine wa_aload_n dX10_layHistories_230 rfl 3 rfl ?_
                    refine wa_getr gX10_layHistories_231 (rfl) rfl ?_
                    refine wa_iload_n dX10_layHistories_234 rfl 2 rfl ?_
                    refine wa_eqi (y := (nI (m - 1))) (m1_n hm1) ?_
                    refine wa_iload_n dX10_layHistories_235 rfl 1 rfl ?_
                    refine wa_cSi (x_spot (m - 1) t) vX10_spot iX10_layHistories_236 rfl rfl (Nat.le_of_ble_eq_true rfl) ⟨by decide, by decide⟩ ?_
                    refine wa_laldN (e := 4096 * (m - 1) + t) dX10_layHistories_239 (rfl) (by omega) (by decide) ?_
                    refine wa_eql (y := lN (FWn C w h rn (m - 1) t)) (hfa2 (m - 1) (by omega) t (by omega)) ?_
                    have hb1 := FW_le (C := C) (rn := rn) (y := m - 1) (t := t) hn6 (by omega) (by omega)
                    refine wa_lconst (0) dX10_layHistories_240 (by decide) ?_
                    refine wa_lcmp dX10_layHistories_241 ?_
                    refine wa_if_le 327 dX10_layHistories_242 (by decide) (fun c_242 => ?_) (fun c_242 => ?_)
                    · have hA : FWn C w h rn (m - 1) t = 0 := (lg_0 (by omega)).mp c_242
                      have hw9 : (0 : Int64) = lN (onN (C.1 18) (w * h) (fun y t => decide (0 < FWn C w h rn y t)) yrs (yrs - (m - 1)) t) := by rw [on_0 hA (by omega)]; rfl
                      have L_327 : WA G t_X10_layHistories (fun v N => v = none ∧ FrH M N ∧ (∀ y, y ≤ yrs → ∀ t, t < 4 ^ (w * h) → N.2.1 120 (4096 * y + t) = lN (FWn C w h rn y t)) ∧ ∀ y, y ≤ yrs → ∀ t, t < 4 ^ (w * h) → N.2.1 121 (4096 * y + t) = lN (ONn C w h rn yrs (yrs - y) t)) 327 [(4, .long (lN (onN (C.1 18) (w * h) (fun y t => decide (0 < FWn C w h rn y t)) yrs (yrs - (m - 1)) t))), (3, .int (nI (t))), (2, .int (nI m - 1)), (0, wm_r G (96)), (1, .int (nI (yrs)))] [] (N2) := by
                        refine wa_aload_n dX10_layHistories_327 rfl 3 rfl ?_
                        refine wa_getr gX10_layHistories_328 (rfl) rfl ?_
                        refine wa_iload_n dX10_layHistories_331 rfl 2 rfl ?_
                        refine wa_eqi (y := (nI (m - 1))) (m1_n hm1) ?_
                        refine wa_iload_n dX10_layHistories_332 rfl 1 rfl ?_
                        refine wa_cSi (x_spot (m - 1) t) vX10_spot iX10_layHistories_333 rfl rfl (Nat.le_of_ble_eq_true rfl) ⟨by decide, by decide⟩ ?_
                        refine wa_lload dX10_layHistories_336 0 rfl ?_
                        refine wa_lastN (e := 4096 * (m - 1) + t) dX10_layHistories_338 (rfl) (by omega) (by decide) ?_
                        refine wa_top (fun N3 e_N3 => ?_)
                        have hF3 : FrH M N3 := by rw [e_N3]; exact hF2.tr (FrH.J (Or.inr rfl))
                        have hfa3 : ∀ y2, y2 ≤ yrs → ∀ t2, t2 < 4 ^ (w * h) → N3.2.1 120 (4096 * y2 + t2) = lN (FWn C w h rn y2 t2) := fun y2 h2 t2 ht2 => by rw [e_N3, wJ_o (fun e => absurd e.1 (by decide))]; exact hfa2 y2 h2 t2 ht2
                        have hon3 : ∀ y2, m ≤ y2 → y2 ≤ yrs → ∀ t2, t2 < 4 ^ (w * h) → N3.2.1 121 (4096 * y2 + t2) = lN (ONn C w h rn yrs (yrs - y2) t2) := fun y2 h1 h2 t2 ht2 => by rw [e_N3, wJ_o (fun e => by omega)]; exact hon2 y2 h1 h2 t2 ht2
                        have hin3 : ∀ t2, t2 < t + 1 → N3.2.1 121 (4096 * (m - 1) + t2) = lN (ONn C w h rn yrs (yrs - (m - 1)) t2) := fun t2 h2 => by
                          rw [e_N3]
                          by_cases q : t2 = t
                          · subst q; rw [wJ_at]; rfl
                          · rw [wJ_o (fun e => by omega)]; exact hin t2 (by omega)
                        refine wa_iinc ((nI (t + 1))) [(3, .int (nI (t + 1))), (4, .long (lN (onN (C.1 18) (w * h) (fun y t => decide (0 < FWn C w h rn y t)) yrs (yrs - (m - 1)) t))), (2, .int (nI m - 1)), (0, wm_r G (96)), (1, .int (nI (yrs)))] dX10_layHistories_339 1 rfl (nI_inc _) (by decide) rfl ?_
                        refine wa_goto 219 dX10_layHistories_342 (by decide) ?_
                        refine wa_sub [0, 2, 3, 4] rfl ?_
                        exact ih_219 (t + 1) _ (by omega) (by omega) hF3 hfa3 hon3 hin3
                      rw [hw9]
                      exact L_327  
                    · have hA : 0 < FWn C w h rn (m - 1) t := Nat.pos_of_ne_zero (fun q => c_242 ((lg_0 (by omega)).mpr q))
                      refine wa_iload_n dX10_layHistories_245 rfl 2 rfl ?_
                      refine wa_eqi (y := (nI (m - 1))) (m1_n hm1) ?_
                      refine wa_iload_n dX10_layHistories_246 rfl 4 rfl ?_
                      refine wa_icmp_neN (a := m - 1) (b := yrs) 254 dX10_layHistories_247 (by decide) (by omega) (by omega) (fun c_247 => ?_) (fun c_247 => ?_)
                      · refine wa_aload_n dX10_layHistories_254 rfl 3 rfl ?_
                        refine wa_getr gX10_layHistories_255 (rfl) rfl ?_
                        refine wa_iload_n dX10_layHistories_258 rfl 2 rfl ?_
                        refine wa_eqi (y := (nI (m - 1))) (m1_n hm1) ?_
                        refine wa_iconst (1) dX10_layHistories_259 (by decide) ?_
                        refine wa_iaddN (a := m - 1) (b := 1) dX10_layHistories_260 ?_
                        refine wa_iload_n dX10_layHistories_261 rfl 1 rfl ?_
                        refine wa_cSi (x_spot (m - 1 + 1) t) vX10_spot iX10_layHistories_262 rfl rfl (Nat.le_of_ble_eq_true rfl) ⟨by decide, by decide⟩ ?_
                        refine wa_laldN (e := 4096 * (m - 1 + 1) + t) dX10_layHistories_265 (rfl) (by omega) (by decide) ?_
                        refine wa_eql (y := lN (onN (C.1 18) (w * h) (fun y t => decide (0 < FWn C w h rn y t)) yrs (yrs - (m - 1) - 1) t)) (by rw [hon2 (m - 1 + 1) (by omega) (by omega) t (by omega), show yrs - (m - 1 + 1) = yrs - (m - 1) - 1 by omega]; rfl) ?_
                        refine wa_eql (y := lN (if m - 1 = yrs then 1 else onN (C.1 18) (w * h) (fun y t => decide (0 < FWn C w h rn y t)) yrs (yrs - (m - 1) - 1) t + wSum (fun j => if 0 < sStep (C.1 18 j) then onN (C.1 18) (w * h) (fun y t => decide (0 < FWn C w h rn y t)) yrs (yrs - (m - 1) - 1) (sMv t j (sStep (C.1 18 j))) else 0) (0))) (by first | (rw [if_pos (show m - 1 = yrs by omega)]; rfl) | (rw [if_neg (show ¬ m - 1 = yrs by omega)]; rfl)) ?_
                        refine wa_lstore [(4, .long (lN (if m - 1 = yrs then 1 else onN (C.1 18) (w * h) (fun y t => decide (0 < FWn C w h rn y t)) yrs (yrs - (m - 1) - 1) t + wSum (fun j => if 0 < sStep (C.1 18 j) then onN (C.1 18) (w * h) (fun y t => decide (0 < FWn C w h rn y t)) yrs (yrs - (m - 1) - 1) (sMv t j (sStep (C.1 18 j))) else 0) (0)))), (3, .int (nI (t))), (2, .int (nI m - 1)), (0, wm_r G (96)), (1, .int (nI (yrs)))] dX10_layHistories_266 (by decide) rfl ?_
                        refine wa_iconst (0) dX10_layHistories_268 (by decide) ?_
                        refine wa_istore [(6, .int (0)), (4, .long (lN (if m - 1 = yrs then 1 else onN (C.1 18) (w * h) (fun y t => decide (0 < FWn C w h rn y t)) yrs (yrs - (m - 1) - 1) t + wSum (fun j => if 0 < sStep (C.1 18 j) then onN (C.1 18) (w * h) (fun y t => decide (0 < FWn C w h rn y t)) yrs (yrs - (m - 1) - 1) (sMv t j (sStep (C.1 18 j))) else 0) (0)))), (3, .int (nI (t))), (2, .int (nI m - 1)), (0, wm_r G (96)), (1, .int (nI (yrs)))] dX10_layHistories_269 (by decide) rfl ?_
                        have L_271 : ∀ (n_ : Nat) (k : Nat), (w * h - k) < n_ → (k ≤ w * h) → WA G t_X10_layHistories (fun v N => v = none ∧ FrH M N ∧ (∀ y, y ≤ yrs → ∀ t, t < 4 ^ (w * h) → N.2.1 120 (4096 * y + t) = lN (FWn C w h rn y t)) ∧ ∀ y, y ≤ yrs → ∀ t, t < 4 ^ (w * h) → N.2.1 121 (4096 * y + t) = lN (ONn C w h rn yrs (yrs - y) t)) 271 [(6, .int (nI (k))), (4, .long (lN (if m - 1 = yrs then 1 else onN (C.1 18) (w * h) (fun y t => decide (0 < FWn C w h rn y t)) yrs (yrs - (m - 1) - 1) t + wSum (fun j => if 0 < sStep (C.1 18 j) then onN (C.1 18) (w * h) (fun y t => decide (0 < FWn C w h rn y t)) yrs (yrs - (m - 1) - 1) (sMv t j (sStep (C.1 18 j))) else 0) (k)))), (3, .int (nI (t))), (2, .int (nI m - 1)), (0, wm_r G (96)), (1, .int (nI (yrs)))] [] (N2) := by
                          intro n_
                          induction n_ with
                          | zero => intro k h_; exact absurd h_ (Nat.not_lt_zero _)
                          | succ n_ ih_271 =>
                            intro k h_ hk
                            refine wa_iload dX10_layHistories_271 0 rfl ?_
                            refine wa_aload_n dX10_layHistories_273 rfl 4 rfl ?_
                            refine wa_geti gX10_layHistories_274 (rfl) rfl ?_
                            refine wa_eqi (y := (nI (w * h))) (by rw [hF2.1 96 (by decide)]; exact x12) ?_
                            refine wa_icmp_geN (a := k) (b := w * h) 327 dX10_layHistories_277 (by decide) (by omega) (by omega) (fun c_277 => ?_) (fun c_277 => ?_)
                            · have hw9 : lN (if m - 1 = yrs then 1 else onN (C.1 18) (w * h) (fun y t => decide (0 < FWn C w h rn y t)) yrs (yrs - (m - 1) - 1) t + wSum (fun j => if 0 < sStep (C.1 18 j) then onN (C.1 18) (w * h) (fun y t => decide (0 < FWn C w h rn y t)) yrs (yrs - (m - 1) - 1) (sMv t j (sStep (C.1 18 j))) else 0) (k)) = lN (onN (C.1 18) (w * h) (fun y t => decide (0 < FWn C w h rn y t)) yrs (yrs - (m - 1)) t) := by rw [show k = w * h by omega]; exact congrArg lN (on_s hA (by omega)).symm
                              have L_327 : WA G t_X10_layHistories (fun v N => v = none ∧ FrH M N ∧ (∀ y, y ≤ yrs → ∀ t, t < 4 ^ (w * h) → N.2.1 120 (4096 * y + t) = lN (FWn C w h rn y t)) ∧ ∀ y, y ≤ yrs → ∀ t, t < 4 ^ (w * h) → N.2.1 121 (4096 * y + t) = lN (ONn C w h rn yrs (yrs - y) t)) 327 [(4, .long (lN (onN (C.1 18) (w * h) (fun y t => decide (0 < FWn C w h rn y t)) yrs (yrs - (m - 1)) t))), (3, .int (nI (t))), (2, .int (nI m - 1)), (0, wm_r G (96)), (1, .int (nI (yrs)))] [] (N2) := by
                                refine wa_aload_n dX10_layHistories_327 rfl 3 rfl ?_
                                refine wa_getr gX10_layHistories_328 (rfl) rfl ?_
                                refine wa_iload_n dX10_layHistories_331 rfl 2 rfl ?_
                                refine wa_eqi (y := (nI (m - 1))) (m1_n hm1) ?_
                                refine wa_iload_n dX10_layHistories_332 rfl 1 rfl ?_
                                refine wa_cSi (x_spot (m - 1) t) vX10_spot iX10_layHistories_333 rfl rfl (Nat.le_of_ble_eq_true rfl) ⟨by decide, by decide⟩ ?_
                                refine wa_lload dX10_layHistories_336 0 rfl ?_
                                refine wa_lastN (e := 4096 * (m - 1) + t) dX10_layHistories_338 (rfl) (by omega) (by decide) ?_
                                refine wa_top (fun N3 e_N3 => ?_)
                                have hF3 : FrH M N3 := by rw [e_N3]; exact hF2.tr (FrH.J (Or.inr rfl))
                                have hfa3 : ∀ y2, y2 ≤ yrs → ∀ t2, t2 < 4 ^ (w * h) → N3.2.1 120 (4096 * y2 + t2) = lN (FWn C w h rn y2 t2) := fun y2 h2 t2 ht2 => by rw [e_N3, wJ_o (fun e => absurd e.1 (by decide))]; exact hfa2 y2 h2 t2 ht2
                                have hon3 : ∀ y2, m ≤ y2 → y2 ≤ yrs → ∀ t2, t2 < 4 ^ (w * h) → N3.2.1 121 (4096 * y2 + t2) = lN (ONn C w h rn yrs (yrs - y2) t2) := fun y2 h1 h2 t2 ht2 => by rw [e_N3, wJ_o (fun e => by omega)]; exact hon2 y2 h1 h2 t2 ht2
                                have hin3 : ∀ t2, t2 < t + 1 → N3.2.1 121 (4096 * (m - 1) + t2) = lN (ONn C w h rn yrs (yrs - (m - 1)) t2) := fun t2 h2 => by
                                  rw [e_N3]
                                  by_cases q : t2 = t
                                  · subst q; rw [wJ_at]; rfl
                                  · rw [wJ_o (fun e => by omega)]; exact hin t2 (by omega)
                                refine wa_iinc ((nI (t + 1))) [(3, .int (nI (t + 1))), (4, .long (lN (onN (C.1 18) (w * h) (fun y t => decide (0 < FWn C w h rn y t)) yrs (yrs - (m - 1)) t))), (2, .int (nI m - 1)), (0, wm_r G (96)), (1, .int (nI (yrs)))] dX10_layHistories_339 1 rfl (nI_inc _) (by decide) rfl ?_
                                refine wa_goto 219 dX10_layHistories_342 (by decide) ?_
                                refine wa_sub [0, 2, 3, 4] rfl ?_
                                exact ih_219 (t + 1) _ (by omega) (by omega) hF3 hfa3 hon3 hin3
                              refine wa_sub [1, 2, 3, 4, 5] rfl ?_
                              rw [hw9]
                              exact L_327  
                            · refine wa_iload_n dX10_layHistories_280 rfl 3 rfl ?_
                              refine wa_eqi (y := (nI (m - 1))) (m1_n hm1) ?_
                              refine wa_iload_n dX10_layHistories_281 rfl 5 rfl ?_
                              refine wa_icmp_geN (a := m - 1) (b := yrs) 327 dX10_layHistories_282 (by decide) (by omega) (by omega) (fun c_282 => ?_) (fun c_282 => ?_)
                              · have hw9 : lN (if m - 1 = yrs then 1 else onN (C.1 18) (w * h) (fun y t => decide (0 < FWn C w h rn y t)) yrs (yrs - (m - 1) - 1) t + wSum (fun j => if 0 < sStep (C.1 18 j) then onN (C.1 18) (w * h) (fun y t => decide (0 < FWn C w h rn y t)) yrs (yrs - (m - 1) - 1) (sMv t j (sStep (C.1 18 j))) else 0) (k)) = lN (onN (C.1 18) (w * h) (fun y t => decide (0 < FWn C w h rn y t)) yrs (yrs - (m - 1)) t) := by rw [show m - 1 = yrs by omega] at hA ⊢; rw [if_pos rfl, Nat.sub_self]; exact congrArg lN (on_1 hA).symm
                                have L_327 : WA G t_X10_layHistories (fun v N => v = none ∧ FrH M N ∧ (∀ y, y ≤ yrs → ∀ t, t < 4 ^ (w * h) → N.2.1 120 (4096 * y + t) = lN (FWn C w h rn y t)) ∧ ∀ y, y ≤ yrs → ∀ t, t < 4 ^ (w * h) → N.2.1 121 (4096 * y + t) = lN (ONn C w h rn yrs (yrs - y) t)) 327 [(4, .long (lN (onN (C.1 18) (w * h) (fun y t => decide (0 < FWn C w h rn y t)) yrs (yrs - (m - 1)) t))), (3, .int (nI (t))), (2, .int (nI m - 1)), (0, wm_r G (96)), (1, .int (nI (yrs)))] [] (N2) := by
                                  refine wa_aload_n dX10_layHistories_327 rfl 3 rfl ?_
                                  refine wa_getr gX10_layHistories_328 (rfl) rfl ?_
                                  refine wa_iload_n dX10_layHistories_331 rfl 2 rfl ?_
                                  refine wa_eqi (y := (nI (m - 1))) (m1_n hm1) ?_
                                  refine wa_iload_n dX10_layHistories_332 rfl 1 rfl ?_
                                  refine wa_cSi (x_spot (m - 1) t) vX10_spot iX10_layHistories_333 rfl rfl (Nat.le_of_ble_eq_true rfl) ⟨by decide, by decide⟩ ?_
                                  refine wa_lload dX10_layHistories_336 0 rfl ?_
                                  refine wa_lastN (e := 4096 * (m - 1) + t) dX10_layHistories_338 (rfl) (by omega) (by decide) ?_
                                  refine wa_top (fun N3 e_N3 => ?_)
                                  have hF3 : FrH M N3 := by rw [e_N3]; exact hF2.tr (FrH.J (Or.inr rfl))
                                  have hfa3 : ∀ y2, y2 ≤ yrs → ∀ t2, t2 < 4 ^ (w * h) → N3.2.1 120 (4096 * y2 + t2) = lN (FWn C w h rn y2 t2) := fun y2 h2 t2 ht2 => by rw [e_N3, wJ_o (fun e => absurd e.1 (by decide))]; exact hfa2 y2 h2 t2 ht2
                                  have hon3 : ∀ y2, m ≤ y2 → y2 ≤ yrs → ∀ t2, t2 < 4 ^ (w * h) → N3.2.1 121 (4096 * y2 + t2) = lN (ONn C w h rn yrs (yrs - y2) t2) := fun y2 h1 h2 t2 ht2 => by rw [e_N3, wJ_o (fun e => by omega)]; exact hon2 y2 h1 h2 t2 ht2
                                  have hin3 : ∀ t2, t2 < t + 1 → N3.2.1 121 (4096 * (m - 1) + t2) = lN (ONn C w h rn yrs (yrs - (m - 1)) t2) := fun t2 h2 => by
                                    rw [e_N3]
                                    by_cases q : t2 = t
                                    · subst q; rw [wJ_at]; rfl
                                    · rw [wJ_o (fun e => by omega)]; exact hin t2 (by omega)
                                  refine wa_iinc ((nI (t + 1))) [(3, .int (nI (t + 1))), (4, .long (lN (onN (C.1 18) (w * h) (fun y t => decide (0 < FWn C w h rn y t)) yrs (yrs - (m - 1)) t))), (2, .int (nI m - 1)), (0, wm_r G (96)), (1, .int (nI (yrs)))] dX10_layHistories_339 1 rfl (nI_inc _) (by decide) rfl ?_
                                  refine wa_goto 219 dX10_layHistories_342 (by decide) ?_
                                  refine wa_sub [0, 2, 3, 4] rfl ?_
                                  exact ih_219 (t + 1) _ (by omega) (by omega) hF3 hfa3 hon3 hin3
                                refine wa_sub [1, 2, 3, 4, 5] rfl ?_
                                rw [hw9]
                                exact L_327  
                              · refine wa_lload dX10_layHistories_285 1 rfl ?_
                                refine wa_aload_n dX10_layHistories_287 rfl 4 rfl ?_
                                refine wa_iload dX10_layHistories_288 0 rfl ?_
                                refine wa_cVi (x_isFixed C w h (hF2.stn hX) hW k (by omega)) vX10_isFixed iX10_layHistories_290 (rfl) rfl rfl rfl (Nat.le_of_ble_eq_true rfl) ⟨by decide, by decide⟩ ?_
                                refine wa_if_eqB 300 dX10_layHistories_293 (by decide) (fun (c_293 : (sFix (C.1 18 k)) = false) => ?_) (fun (c_293 : (sFix (C.1 18 k)) = true) => ?_)
                                · refine wa_aload_n dX10_layHistories_300 rfl 4 rfl ?_
                                  refine wa_getr gX10_layHistories_301 (rfl) rfl ?_
                                  refine wa_iload_n dX10_layHistories_304 rfl 3 rfl ?_
                                  refine wa_eqi (y := (nI (m - 1))) (m1_n hm1) ?_
                                  refine wa_iconst (1) dX10_layHistories_305 (by decide) ?_
                                  refine wa_iaddN (a := m - 1) (b := 1) dX10_layHistories_306 ?_
                                  refine wa_aload_n dX10_layHistories_307 rfl 4 rfl ?_
                                  refine wa_iload_n dX10_layHistories_308 rfl 2 rfl ?_
                                  refine wa_iload dX10_layHistories_309 0 rfl ?_
                                  refine wa_cVi (x_turnedOf C w h (hF2.stn hX) hW t (by omega) k (by omega)) vX10_turnedOf iX10_layHistories_311 (rfl) rfl rfl rfl (Nat.le_of_ble_eq_true rfl) ⟨by decide, by decide⟩ ?_
                                  refine wa_eqi (y := (nI (sMv t k (sStep (C.1 18 k))))) (by rw [st_of c_293]) ?_
                                  have hu := sMv_lt (m := sStep (C.1 18 k)) (show t < 4 ^ (w * h) by omega) (show k < w * h by omega)
                                  refine wa_cSi (x_spot (m - 1 + 1) (sMv t k (sStep (C.1 18 k)))) vX10_spot iX10_layHistories_314 rfl rfl (Nat.le_of_ble_eq_true rfl) ⟨by decide, by decide⟩ ?_
                                  refine wa_laldN (e := 4096 * (m - 1 + 1) + sMv t k (sStep (C.1 18 k))) dX10_layHistories_317 (rfl) (by omega) (by decide) ?_
                                  refine wa_eql (y := lN (onN (C.1 18) (w * h) (fun y t => decide (0 < FWn C w h rn y t)) yrs (yrs - (m - 1) - 1) (sMv t k (sStep (C.1 18 k))))) (by rw [hon2 (m - 1 + 1) (by omega) (by omega) _ hu, show yrs - (m - 1 + 1) = yrs - (m - 1) - 1 by omega]; rfl) ?_
                                  refine wa_ladd dX10_layHistories_318 ?_
                                  refine wa_eql (y := lN (if m - 1 = yrs then 1 else onN (C.1 18) (w * h) (fun y t => decide (0 < FWn C w h rn y t)) yrs (yrs - (m - 1) - 1) t + wSum (fun j => if 0 < sStep (C.1 18 j) then onN (C.1 18) (w * h) (fun y t => decide (0 < FWn C w h rn y t)) yrs (yrs - (m - 1) - 1) (sMv t j (sStep (C.1 18 j))) else 0) ((k + 1)))) (by rw [if_neg (show ¬ m - 1 = yrs by omega), if_neg (show ¬ m - 1 = yrs by omega)]; simp only [wSum]; first | (rw [if_neg (fun q => by unfold sStep at q; rw [if_pos c_293] at q; omega), Nat.add_zero]; exact lN_add _ 0) | (rw [if_pos (step_pos c_293), ← Nat.add_assoc]; exact lN_add _ _)) ?_
                                  refine wa_lstore [(4, .long (lN (if m - 1 = yrs then 1 else onN (C.1 18) (w * h) (fun y t => decide (0 < FWn C w h rn y t)) yrs (yrs - (m - 1) - 1) t + wSum (fun j => if 0 < sStep (C.1 18 j) then onN (C.1 18) (w * h) (fun y t => decide (0 < FWn C w h rn y t)) yrs (yrs - (m - 1) - 1) (sMv t j (sStep (C.1 18 j))) else 0) ((k + 1))))), (6, .int (nI (k))), (3, .int (nI (t))), (2, .int (nI m - 1)), (0, wm_r G (96)), (1, .int (nI (yrs)))] dX10_layHistories_319 (by decide) rfl ?_
                                  refine wa_iinc ((nI (k + 1))) [(6, .int (nI (k + 1))), (4, .long (lN (if m - 1 = yrs then 1 else onN (C.1 18) (w * h) (fun y t => decide (0 < FWn C w h rn y t)) yrs (yrs - (m - 1) - 1) t + wSum (fun j => if 0 < sStep (C.1 18 j) then onN (C.1 18) (w * h) (fun y t => decide (0 < FWn C w h rn y t)) yrs (yrs - (m - 1) - 1) (sMv t j (sStep (C.1 18 j))) else 0) ((k + 1))))), (3, .int (nI (t))), (2, .int (nI m - 1)), (0, wm_r G (96)), (1, .int (nI (yrs)))] dX10_layHistories_321 1 rfl (nI_inc _) (by decide) rfl ?_
                                  refine wa_goto 271 dX10_layHistories_324 (by decide) ?_
                                  exact ih_271 (k + 1) (by omega) (by omega)
                                · refine wa_lconst (0) dX10_layHistories_296 (by decide) ?_
                                  refine wa_goto 318 dX10_layHistories_297 (by decide) ?_
                                  refine wa_ladd dX10_layHistories_318 ?_
                                  refine wa_eql (y := lN (if m - 1 = yrs then 1 else onN (C.1 18) (w * h) (fun y t => decide (0 < FWn C w h rn y t)) yrs (yrs - (m - 1) - 1) t + wSum (fun j => if 0 < sStep (C.1 18 j) then onN (C.1 18) (w * h) (fun y t => decide (0 < FWn C w h rn y t)) yrs (yrs - (m - 1) - 1) (sMv t j (sStep (C.1 18 j))) else 0) ((k + 1)))) (by rw [if_neg (show ¬ m - 1 = yrs by omega), if_neg (show ¬ m - 1 = yrs by omega)]; simp only [wSum]; first | (rw [if_neg (fun q => by unfold sStep at q; rw [if_pos c_293] at q; omega), Nat.add_zero]; exact lN_add _ 0) | (rw [if_pos (step_pos c_293), ← Nat.add_assoc]; exact lN_add _ _)) ?_
                                  refine wa_lstore [(4, .long (lN (if m - 1 = yrs then 1 else onN (C.1 18) (w * h) (fun y t => decide (0 < FWn C w h rn y t)) yrs (yrs - (m - 1) - 1) t + wSum (fun j => if 0 < sStep (C.1 18 j) then onN (C.1 18) (w * h) (fun y t => decide (0 < FWn C w h rn y t)) yrs (yrs - (m - 1) - 1) (sMv t j (sStep (C.1 18 j))) else 0) ((k + 1))))), (6, .int (nI (k))), (3, .int (nI (t))), (2, .int (nI m - 1)), (0, wm_r G (96)), (1, .int (nI (yrs)))] dX10_layHistories_319 (by decide) rfl ?_
                                  refine wa_iinc ((nI (k + 1))) [(6, .int (nI (k + 1))), (4, .long (lN (if m - 1 = yrs then 1 else onN (C.1 18) (w * h) (fun y t => decide (0 < FWn C w h rn y t)) yrs (yrs - (m - 1) - 1) t + wSum (fun j => if 0 < sStep (C.1 18 j) then onN (C.1 18) (w * h) (fun y t => decide (0 < FWn C w h rn y t)) yrs (yrs - (m - 1) - 1) (sMv t j (sStep (C.1 18 j))) else 0) ((k + 1))))), (3, .int (nI (t))), (2, .int (nI m - 1)), (0, wm_r G (96)), (1, .int (nI (yrs)))] dX10_layHistories_321 1 rfl (nI_inc _) (by decide) rfl ?_
                                  refine wa_goto 271 dX10_layHistories_324 (by decide) ?_
                                  exact ih_271 (k + 1) (by omega) (by omega)
                        exact L_271 _ 0 (Nat.lt_succ_self _) (Nat.zero_le _)
                      · refine wa_lconst (1) dX10_layHistories_250 (by decide) ?_
                        refine wa_goto 266 dX10_layHistories_251 (by decide) ?_
                        refine wa_eql (y := lN (if m - 1 = yrs then 1 else onN (C.1 18) (w * h) (fun y t => decide (0 < FWn C w h rn y t)) yrs (yrs - (m - 1) - 1) t + wSum (fun j => if 0 < sStep (C.1 18 j) then onN (C.1 18) (w * h) (fun y t => decide (0 < FWn C w h rn y t)) yrs (yrs - (m - 1) - 1) (sMv t j (sStep (C.1 18 j))) else 0) (0))) (by first | (rw [if_pos (show m - 1 = yrs by omega)]; rfl) | (rw [if_neg (show ¬ m - 1 = yrs by omega)]; rfl)) ?_
                        refine wa_lstore [(4, .long (lN (if m - 1 = yrs then 1 else onN (C.1 18) (w * h) (fun y t => decide (0 < FWn C w h rn y t)) yrs (yrs - (m - 1) - 1) t + wSum (fun j => if 0 < sStep (C.1 18 j) then onN (C.1 18) (w * h) (fun y t => decide (0 < FWn C w h rn y t)) yrs (yrs - (m - 1) - 1) (sMv t j (sStep (C.1 18 j))) else 0) (0)))), (3, .int (nI (t))), (2, .int (nI m - 1)), (0, wm_r G (96)), (1, .int (nI (yrs)))] dX10_layHistories_266 (by decide) rfl ?_
                        refine wa_iconst (0) dX10_layHistories_268 (by decide) ?_
                        refine wa_istore [(6, .int (0)), (4, .long (lN (if m - 1 = yrs then 1 else onN (C.1 18) (w * h) (fun y t => decide (0 < FWn C w h rn y t)) yrs (yrs - (m - 1) - 1) t + wSum (fun j => if 0 < sStep (C.1 18 j) then onN (C.1 18) (w * h) (fun y t => decide (0 < FWn C w h rn y t)) yrs (yrs - (m - 1) - 1) (sMv t j (sStep (C.1 18 j))) else 0) (0)))), (3, .int (nI (t))), (2, .int (nI m - 1)), (0, wm_r G (96)), (1, .int (nI (yrs)))] dX10_layHistories_269 (by decide) rfl ?_
                        have L_271 : ∀ (n_ : Nat) (k : Nat), (w * h - k) < n_ → (k ≤ w * h) → WA G t_X10_layHistories (fun v N => v = none ∧ FrH M N ∧ (∀ y, y ≤ yrs → ∀ t, t < 4 ^ (w * h) → N.2.1 120 (4096 * y + t) = lN (FWn C w h rn y t)) ∧ ∀ y, y ≤ yrs → ∀ t, t < 4 ^ (w * h) → N.2.1 121 (4096 * y + t) = lN (ONn C w h rn yrs (yrs - y) t)) 271 [(6, .int (nI (k))), (4, .long (lN (if m - 1 = yrs then 1 else onN (C.1 18) (w * h) (fun y t => decide (0 < FWn C w h rn y t)) yrs (yrs - (m - 1) - 1) t + wSum (fun j => if 0 < sStep (C.1 18 j) then onN (C.1 18) (w * h) (fun y t => decide (0 < FWn C w h rn y t)) yrs (yrs - (m - 1) - 1) (sMv t j (sStep (C.1 18 j))) else 0) (k)))), (3, .int (nI (t))), (2, .int (nI m - 1)), (0, wm_r G (96)), (1, .int (nI (yrs)))] [] (N2) := by
                          intro n_
                          induction n_ with
                          | zero => intro k h_; exact absurd h_ (Nat.not_lt_zero _)
                          | succ n_ ih_271 =>
                            intro k h_ hk
                            refine wa_iload dX10_layHistories_271 0 rfl ?_
                            refine wa_aload_n dX10_layHistories_273 rfl 4 rfl ?_
                            refine wa_geti gX10_layHistories_274 (rfl) rfl ?_
                            refine wa_eqi (y := (nI (w * h))) (by rw [hF2.1 96 (by decide)]; exact x12) ?_
                            refine wa_icmp_geN (a := k) (b := w * h) 327 dX10_layHistories_277 (by decide) (by omega) (by omega) (fun c_277 => ?_) (fun c_277 => ?_)
                            · have hw9 : lN (if m - 1 = yrs then 1 else onN (C.1 18) (w * h) (fun y t => decide (0 < FWn C w h rn y t)) yrs (yrs - (m - 1) - 1) t + wSum (fun j => if 0 < sStep (C.1 18 j) then onN (C.1 18) (w * h) (fun y t => decide (0 < FWn C w h rn y t)) yrs (yrs - (m - 1) - 1) (sMv t j (sStep (C.1 18 j))) else 0) (k)) = lN (onN (C.1 18) (w * h) (fun y t => decide (0 < FWn C w h rn y t)) yrs (yrs - (m - 1)) t) := by rw [show k = w * h by omega]; exact congrArg lN (on_s hA (by omega)).symm
                              have L_327 : WA G t_X10_layHistories (fun v N => v = none ∧ FrH M N ∧ (∀ y, y ≤ yrs → ∀ t, t < 4 ^ (w * h) → N.2.1 120 (4096 * y + t) = lN (FWn C w h rn y t)) ∧ ∀ y, y ≤ yrs → ∀ t, t < 4 ^ (w * h) → N.2.1 121 (4096 * y + t) = lN (ONn C w h rn yrs (yrs - y) t)) 327 [(4, .long (lN (onN (C.1 18) (w * h) (fun y t => decide (0 < FWn C w h rn y t)) yrs (yrs - (m - 1)) t))), (3, .int (nI (t))), (2, .int (nI m - 1)), (0, wm_r G (96)), (1, .int (nI (yrs)))] [] (N2) := by
                                refine wa_aload_n dX10_layHistories_327 rfl 3 rfl ?_
                                refine wa_getr gX10_layHistories_328 (rfl) rfl ?_
                                refine wa_iload_n dX10_layHistories_331 rfl 2 rfl ?_
                                refine wa_eqi (y := (nI (m - 1))) (m1_n hm1) ?_
                                refine wa_iload_n dX10_layHistories_332 rfl 1 rfl ?_
                                refine wa_cSi (x_spot (m - 1) t) vX10_spot iX10_layHistories_333 rfl rfl (Nat.le_of_ble_eq_true rfl) ⟨by decide, by decide⟩ ?_
                                refine wa_lload dX10_layHistories_336 0 rfl ?_
                                refine wa_lastN (e := 4096 * (m - 1) + t) dX10_layHistories_338 (rfl) (by omega) (by decide) ?_
                                refine wa_top (fun N3 e_N3 => ?_)
                                have hF3 : FrH M N3 := by rw [e_N3]; exact hF2.tr (FrH.J (Or.inr rfl))
                                have hfa3 : ∀ y2, y2 ≤ yrs → ∀ t2, t2 < 4 ^ (w * h) → N3.2.1 120 (4096 * y2 + t2) = lN (FWn C w h rn y2 t2) := fun y2 h2 t2 ht2 => by rw [e_N3, wJ_o (fun e => absurd e.1 (by decide))]; exact hfa2 y2 h2 t2 ht2
                                have hon3 : ∀ y2, m ≤ y2 → y2 ≤ yrs → ∀ t2, t2 < 4 ^ (w * h) → N3.2.1 121 (4096 * y2 + t2) = lN (ONn C w h rn yrs (yrs - y2) t2) := fun y2 h1 h2 t2 ht2 => by rw [e_N3, wJ_o (fun e => by omega)]; exact hon2 y2 h1 h2 t2 ht2
                                have hin3 : ∀ t2, t2 < t + 1 → N3.2.1 121 (4096 * (m - 1) + t2) = lN (ONn C w h rn yrs (yrs - (m - 1)) t2) := fun t2 h2 => by
                                  rw [e_N3]
                                  by_cases q : t2 = t
                                  · subst q; rw [wJ_at]; rfl
                                  · rw [wJ_o (fun e => by omega)]; exact hin t2 (by omega)
                                refine wa_iinc ((nI (t + 1))) [(3, .int (nI (t + 1))), (4, .long (lN (onN (C.1 18) (w * h) (fun y t => decide (0 < FWn C w h rn y t)) yrs (yrs - (m - 1)) t))), (2, .int (nI m - 1)), (0, wm_r G (96)), (1, .int (nI (yrs)))] dX10_layHistories_339 1 rfl (nI_inc _) (by decide) rfl ?_
                                refine wa_goto 219 dX10_layHistories_342 (by decide) ?_
                                refine wa_sub [0, 2, 3, 4] rfl ?_
                                exact ih_219 (t + 1) _ (by omega) (by omega) hF3 hfa3 hon3 hin3
                              refine wa_sub [1, 2, 3, 4, 5] rfl ?_
                              rw [hw9]
                              exact L_327  
                            · refine wa_iload_n dX10_layHistories_280 rfl 3 rfl ?_
                              refine wa_eqi (y := (nI (m - 1))) (m1_n hm1) ?_
                              refine wa_iload_n dX10_layHistories_281 rfl 5 rfl ?_
                              refine wa_icmp_geN (a := m - 1) (b := yrs) 327 dX10_layHistories_282 (by decide) (by omega) (by omega) (fun c_282 => ?_) (fun c_282 => ?_)
                              · have hw9 : lN (if m - 1 = yrs then 1 else onN (C.1 18) (w * h) (fun y t => decide (0 < FWn C w h rn y t)) yrs (yrs - (m - 1) - 1) t + wSum (fun j => if 0 < sStep (C.1 18 j) then onN (C.1 18) (w * h) (fun y t => decide (0 < FWn C w h rn y t)) yrs (yrs - (m - 1) - 1) (sMv t j (sStep (C.1 18 j))) else 0) (k)) = lN (onN (C.1 18) (w * h) (fun y t => decide (0 < FWn C w h rn y t)) yrs (yrs - (m - 1)) t) := by rw [show m - 1 = yrs by omega] at hA ⊢; rw [if_pos rfl, Nat.sub_self]; exact congrArg lN (on_1 hA).symm
                                have L_327 : WA G t_X10_layHistories (fun v N => v = none ∧ FrH M N ∧ (∀ y, y ≤ yrs → ∀ t, t < 4 ^ (w * h) → N.2.1 120 (4096 * y + t) = lN (FWn C w h rn y t)) ∧ ∀ y, y ≤ yrs → ∀ t, t < 4 ^ (w * h) → N.2.1 121 (4096 * y + t) = lN (ONn C w h rn yrs (yrs - y) t)) 327 [(4, .long (lN (onN (C.1 18) (w * h) (fun y t => decide (0 < FWn C w h rn y t)) yrs (yrs - (m - 1)) t))), (3, .int (nI (t))), (2, .int (nI m - 1)), (0, wm_r G (96)), (1, .int (nI (yrs)))] [] (N2) := by
                                  refine wa_aload_n dX10_layHistories_327 rfl 3 rfl ?_
                                  refine wa_getr gX10_layHistories_328 (rfl) rfl ?_
                                  refine wa_iload_n dX10_layHistories_331 rfl 2 rfl ?_
                                  refine wa_eqi (y := (nI (m - 1))) (m1_n hm1) ?_
                                  refine wa_iload_n dX10_layHistories_332 rfl 1 rfl ?_
                                  refine wa_cSi (x_spot (m - 1) t) vX10_spot iX10_layHistories_333 rfl rfl (Nat.le_of_ble_eq_true rfl) ⟨by decide, by decide⟩ ?_
                                  refine wa_lload dX10_layHistories_336 0 rfl ?_
                                  refine wa_lastN (e := 4096 * (m - 1) + t) dX10_layHistories_338 (rfl) (by omega) (by decide) ?_
                                  refine wa_top (fun N3 e_N3 => ?_)
                                  have hF3 : FrH M N3 := by rw [e_N3]; exact hF2.tr (FrH.J (Or.inr rfl))
                                  have hfa3 : ∀ y2, y2 ≤ yrs → ∀ t2, t2 < 4 ^ (w * h) → N3.2.1 120 (4096 * y2 + t2) = lN (FWn C w h rn y2 t2) := fun y2 h2 t2 ht2 => by rw [e_N3, wJ_o (fun e => absurd e.1 (by decide))]; exact hfa2 y2 h2 t2 ht2
                                  have hon3 : ∀ y2, m ≤ y2 → y2 ≤ yrs → ∀ t2, t2 < 4 ^ (w * h) → N3.2.1 121 (4096 * y2 + t2) = lN (ONn C w h rn yrs (yrs - y2) t2) := fun y2 h1 h2 t2 ht2 => by rw [e_N3, wJ_o (fun e => by omega)]; exact hon2 y2 h1 h2 t2 ht2
                                  have hin3 : ∀ t2, t2 < t + 1 → N3.2.1 121 (4096 * (m - 1) + t2) = lN (ONn C w h rn yrs (yrs - (m - 1)) t2) := fun t2 h2 => by
                                    rw [e_N3]
                                    by_cases q : t2 = t
                                    · subst q; rw [wJ_at]; rfl
                                    · rw [wJ_o (fun e => by omega)]; exact hin t2 (by omega)
                                  refine wa_iinc ((nI (t + 1))) [(3, .int (nI (t + 1))), (4, .long (lN (onN (C.1 18) (w * h) (fun y t => decide (0 < FWn C w h rn y t)) yrs (yrs - (m - 1)) t))), (2, .int (nI m - 1)), (0, wm_r G (96)), (1, .int (nI (yrs)))] dX10_layHistories_339 1 rfl (nI_inc _) (by decide) rfl ?_
                                  refine wa_goto 219 dX10_layHistories_342 (by decide) ?_
                                  refine wa_sub [0, 2, 3, 4] rfl ?_
                                  exact ih_219 (t + 1) _ (by omega) (by omega) hF3 hfa3 hon3 hin3
                                refine wa_sub [1, 2, 3, 4, 5] rfl ?_
                                rw [hw9]
                                exact L_327  
                              · refine wa_lload dX10_layHistories_285 1 rfl ?_
                                refine wa_aload_n dX10_layHistories_287 rfl 4 rfl ?_
                                refine wa_iload dX10_layHistories_288 0 rfl ?_
                                refine wa_cVi (x_isFixed C w h (hF2.stn hX) hW k (by omega)) vX10_isFixed iX10_layHistories_290 (rfl) rfl rfl rfl (Nat.le_of_ble_eq_true rfl) ⟨by decide, by decide⟩ ?_
                                refine wa_if_eqB 300 dX10_layHistories_293 (by decide) (fun (c_293 : (sFix (C.1 18 k)) = false) => ?_) (fun (c_293 : (sFix (C.1 18 k)) = true) => ?_)
                                · refine wa_aload_n dX10_layHistories_300 rfl 4 rfl ?_
                                  refine wa_getr gX10_layHistories_301 (rfl) rfl ?_
                                  refine wa_iload_n dX10_layHistories_304 rfl 3 rfl ?_
                                  refine wa_eqi (y := (nI (m - 1))) (m1_n hm1) ?_
                                  refine wa_iconst (1) dX10_layHistories_305 (by decide) ?_
                                  refine wa_iaddN (a := m - 1) (b := 1) dX10_layHistories_306 ?_
                                  refine wa_aload_n dX10_layHistories_307 rfl 4 rfl ?_
                                  refine wa_iload_n dX10_layHistories_308 rfl 2 rfl ?_
                                  refine wa_iload dX10_layHistories_309 0 rfl ?_
                                  refine wa_cVi (x_turnedOf C w h (hF2.stn hX) hW t (by omega) k (by omega)) vX10_turnedOf iX10_layHistories_311 (rfl) rfl rfl rfl (Nat.le_of_ble_eq_true rfl) ⟨by decide, by decide⟩ ?_
                                  refine wa_eqi (y := (nI (sMv t k (sStep (C.1 18 k))))) (by rw [st_of c_293]) ?_
                                  have hu := sMv_lt (m := sStep (C.1 18 k)) (show t < 4 ^ (w * h) by omega) (show k < w * h by omega)
                                  refine wa_cSi (x_spot (m - 1 + 1) (sMv t k (sStep (C.1 18 k)))) vX10_spot iX10_layHistories_314 rfl rfl (Nat.le_of_ble_eq_true rfl) ⟨by decide, by decide⟩ ?_
                                  refine wa_laldN (e := 4096 * (m - 1 + 1) + sMv t k (sStep (C.1 18 k))) dX10_layHistories_317 (rfl) (by omega) (by decide) ?_
                                  refine wa_eql (y := lN (onN (C.1 18) (w * h) (fun y t => decide (0 < FWn C w h rn y t)) yrs (yrs - (m - 1) - 1) (sMv t k (sStep (C.1 18 k))))) (by rw [hon2 (m - 1 + 1) (by omega) (by omega) _ hu, show yrs - (m - 1 + 1) = yrs - (m - 1) - 1 by omega]; rfl) ?_
                                  refine wa_ladd dX10_layHistories_318 ?_
                                  refine wa_eql (y := lN (if m - 1 = yrs then 1 else onN (C.1 18) (w * h) (fun y t => decide (0 < FWn C w h rn y t)) yrs (yrs - (m - 1) - 1) t + wSum (fun j => if 0 < sStep (C.1 18 j) then onN (C.1 18) (w * h) (fun y t => decide (0 < FWn C w h rn y t)) yrs (yrs - (m - 1) - 1) (sMv t j (sStep (C.1 18 j))) else 0) ((k + 1)))) (by rw [if_neg (show ¬ m - 1 = yrs by omega), if_neg (show ¬ m - 1 = yrs by omega)]; simp only [wSum]; first | (rw [if_neg (fun q => by unfold sStep at q; rw [if_pos c_293] at q; omega), Nat.add_zero]; exact lN_add _ 0) | (rw [if_pos (step_pos c_293), ← Nat.add_assoc]; exact lN_add _ _)) ?_
                                  refine wa_lstore [(4, .long (lN (if m - 1 = yrs then 1 else onN (C.1 18) (w * h) (fun y t => decide (0 < FWn C w h rn y t)) yrs (yrs - (m - 1) - 1) t + wSum (fun j => if 0 < sStep (C.1 18 j) then onN (C.1 18) (w * h) (fun y t => decide (0 < FWn C w h rn y t)) yrs (yrs - (m - 1) - 1) (sMv t j (sStep (C.1 18 j))) else 0) ((k + 1))))), (6, .int (nI (k))), (3, .int (nI (t))), (2, .int (nI m - 1)), (0, wm_r G (96)), (1, .int (nI (yrs)))] dX10_layHistories_319 (by decide) rfl ?_
                                  refine wa_iinc ((nI (k + 1))) [(6, .int (nI (k + 1))), (4, .long (lN (if m - 1 = yrs then 1 else onN (C.1 18) (w * h) (fun y t => decide (0 < FWn C w h rn y t)) yrs (yrs - (m - 1) - 1) t + wSum (fun j => if 0 < sStep (C.1 18 j) then onN (C.1 18) (w * h) (fun y t => decide (0 < FWn C w h rn y t)) yrs (yrs - (m - 1) - 1) (sMv t j (sStep (C.1 18 j))) else 0) ((k + 1))))), (3, .int (nI (t))), (2, .int (nI m - 1)), (0, wm_r G (96)), (1, .int (nI (yrs)))] dX10_layHistories_321 1 rfl (nI_inc _) (by decide) rfl ?_
                                  refine wa_goto 271 dX10_layHistories_324 (by decide) ?_
                                  exact ih_271 (k + 1) (by omega) (by omega)
                                · refine wa_lconst (0) dX10_layHistories_296 (by decide) ?_
                                  refine wa_goto 318 dX10_layHistories_297 (by decide) ?_
                                  refine wa_ladd dX10_layHistories_318 ?_
                                  refine wa_eql (y := lN (if m - 1 = yrs then 1 else onN (C.1 18) (w * h) (fun y t => decide (0 < FWn C w h rn y t)) yrs (yrs - (m - 1) - 1) t + wSum (fun j => if 0 < sStep (C.1 18 j) then onN (C.1 18) (w * h) (fun y t => decide (0 < FWn C w h rn y t)) yrs (yrs - (m - 1) - 1) (sMv t j (sStep (C.1 18 j))) else 0) ((k + 1)))) (by rw [if_neg (show ¬ m - 1 = yrs by omega), if_neg (show ¬ m - 1 = yrs by omega)]; simp only [wSum]; first | (rw [if_neg (fun q => by unfold sStep at q; rw [if_pos c_293] at q; omega), Nat.add_zero]; exact lN_add _ 0) | (rw [if_pos (step_pos c_293), ← Nat.add_assoc]; exact lN_add _ _)) ?_
                                  refine wa_lstore [(4, .long (lN (if m - 1 = yrs then 1 else onN (C.1 18) (w * h) (fun y t => decide (0 < FWn C w h rn y t)) yrs (yrs - (m - 1) - 1) t + wSum (fun j => if 0 < sStep (C.1 18 j) then onN (C.1 18) (w * h) (fun y t => decide (0 < FWn C w h rn y t)) yrs (yrs - (m - 1) - 1) (sMv t j (sStep (C.1 18 j))) else 0) ((k + 1))))), (6, .int (nI (k))), (3, .int (nI (t))), (2, .int (nI m - 1)), (0, wm_r G (96)), (1, .int (nI (yrs)))] dX10_layHistories_319 (by decide) rfl ?_
                                  refine wa_iinc ((nI (k + 1))) [(6, .int (nI (k + 1))), (4, .long (lN (if m - 1 = yrs then 1 else onN (C.1 18) (w * h) (fun y t => decide (0 < FWn C w h rn y t)) yrs (yrs - (m - 1) - 1) t + wSum (fun j => if 0 < sStep (C.1 18 j) then onN (C.1 18) (w * h) (fun y t => decide (0 < FWn C w h rn y t)) yrs (yrs - (m - 1) - 1) (sMv t j (sStep (C.1 18 j))) else 0) ((k + 1))))), (3, .int (nI (t))), (2, .int (nI m - 1)), (0, wm_r G (96)), (1, .int (nI (yrs)))] dX10_layHistories_321 1 rfl (nI_inc _) (by decide) rfl ?_
                                  refine wa_goto 271 dX10_layHistories_324 (by decide) ?_
                                  exact ih_271 (k + 1) (by omega) (by omega)
                        exact L_271 _ 0 (Nat.lt_succ_self _) (Nat.zero_le _)
              exact L_219 _ 0 _ (Nat.lt_succ_self _) (Nat.zero_le _) hF hfa2 hon (fun t2 h2 => absurd h2 (Nat.not_lt_zero _))
        exact L_213 _ (yrs + 1) _ (Nat.lt_succ_self _) (Nat.le_refl _) hF hfa (fun y2 h1 h2 => absurd h1 (by omega))
      · refine wa_iconst (0) dX10_layHistories_7 (by decide) ?_
        refine wa_istore_n [(3, .int (0)), (2, .int (nI (y))), (0, wm_r G (96)), (1, .int (nI (yrs)))] dX10_layHistories_8 rfl (by decide) rfl ?_
        have L_9 : ∀ (n_ : Nat) (t : Nat) (N2 : wm_M), (4 ^ (w * h) - t) < n_ → (t ≤ 4 ^ (w * h)) → (FrH M N2) → (∀ y2, y2 < y → ∀ t2, t2 < 4 ^ (w * h) → N2.2.1 120 (4096 * y2 + t2) = lN (FWn C w h rn y2 t2)) → (∀ t2, t2 < t → N2.2.1 120 (4096 * y + t2) = lN (if y = 0 ∧ t2 = 0 then 1 else 0)) → WA G t_X10_layHistories (fun v N => v = none ∧ FrH M N ∧ (∀ y, y ≤ yrs → ∀ t, t < 4 ^ (w * h) → N.2.1 120 (4096 * y + t) = lN (FWn C w h rn y t)) ∧ ∀ y, y ≤ yrs → ∀ t, t < 4 ^ (w * h) → N.2.1 121 (4096 * y + t) = lN (ONn C w h rn yrs (yrs - y) t)) 9 [(3, .int (nI (t))), (2, .int (nI (y))), (0, wm_r G (96)), (1, .int (nI (yrs)))] [] (N2) := by
          intro n_
          induction n_ with
          | zero => intro t N2 h_; exact absurd h_ (Nat.not_lt_zero _)
          | succ n_ ih_9 =>
            intro t N2 h_ ht hF2 hfw2 hin
            refine wa_iload_n dX10_layHistories_9 rfl 0 rfl ?_
            refine wa_aload_n dX10_layHistories_10 rfl 2 rfl ?_
            refine wa_cVi (x_stateMany (w * h) hn6 (by rw [hF2.1 96 (by decide)]; exact x12)) vX10_stateMany iX10_layHistories_11 (rfl) rfl rfl rfl (Nat.le_of_ble_eq_true rfl) ⟨by decide, by decide⟩ ?_
            refine wa_icmp_geN (a := t) (b := 4 ^ (w * h)) 46 dX10_layHistories_14 (by decide) (by omega) (by omega) (fun c_14 => ?_) (fun c_14 => ?_)
            · refine wa_iconst (0) dX10_layHistories_46 (by decide) ?_
              refine wa_istore_n [(3, .int (0)), (2, .int (nI (y))), (0, wm_r G (96)), (1, .int (nI (yrs)))] dX10_layHistories_47 rfl (by decide) rfl ?_
              have L_48 : ∀ (n_ : Nat) (i : Nat) (N2 : wm_M), (4 ^ (w * h) - i) < n_ → (i ≤ 4 ^ (w * h)) → (FrH M N2) → (∀ y2, y2 < y → ∀ t2, t2 < 4 ^ (w * h) → N2.2.1 120 (4096 * y2 + t2) = lN (FWn C w h rn y2 t2)) → (∀ t2, t2 < 4 ^ (w * h) → N2.2.1 120 (4096 * y + t2) = lN (if y = 0 then (if t2 = 0 then 1 else 0) else scN (C.1 18) (w * h) (FWn C w h rn (y - 1)) i t2)) → WA G t_X10_layHistories (fun v N => v = none ∧ FrH M N ∧ (∀ y, y ≤ yrs → ∀ t, t < 4 ^ (w * h) → N.2.1 120 (4096 * y + t) = lN (FWn C w h rn y t)) ∧ ∀ y, y ≤ yrs → ∀ t, t < 4 ^ (w * h) → N.2.1 121 (4096 * y + t) = lN (ONn C w h rn yrs (yrs - y) t)) 48 [(3, .int (nI (i))), (2, .int (nI (y))), (0, wm_r G (96)), (1, .int (nI (yrs)))] [] (N2) := by
                intro n_
                induction n_ with
                | zero => intro i N2 h_; exact absurd h_ (Nat.not_lt_zero _)
                | succ n_ ih_48 =>
                  intro i N2 h_ hi hF2 hfw2 hsc
                  refine wa_iload_n dX10_layHistories_48 rfl 0 rfl ?_
                  refine wa_aload_n dX10_layHistories_49 rfl 2 rfl ?_
                  refine wa_cVi (x_stateMany (w * h) hn6 (by rw [hF2.1 96 (by decide)]; exact x12)) vX10_stateMany iX10_layHistories_50 (rfl) rfl rfl rfl (Nat.le_of_ble_eq_true rfl) ⟨by decide, by decide⟩ ?_
                  refine wa_icmp_geN (a := i) (b := 4 ^ (w * h)) 154 dX10_layHistories_53 (by decide) (by omega) (by omega) (fun c_53 => ?_) (fun c_53 => ?_)
                  · have hexit : y = 0 ∨ i = 4 ^ (w * h) := Or.inr (by omega)
                    refine wa_iconst (0) dX10_layHistories_154 (by decide) ?_
                    refine wa_istore_n [(3, .int (0)), (2, .int (nI (y))), (0, wm_r G (96)), (1, .int (nI (yrs)))] dX10_layHistories_155 rfl (by decide) rfl ?_
                    have L_156 : ∀ (n_ : Nat) (t : Nat) (N2 : wm_M), (4 ^ (w * h) - t) < n_ → (t ≤ 4 ^ (w * h)) → (FrH M N2) → (∀ y2, y2 < y → ∀ t2, t2 < 4 ^ (w * h) → N2.2.1 120 (4096 * y2 + t2) = lN (FWn C w h rn y2 t2)) → (∀ t2, t2 < 4 ^ (w * h) → N2.2.1 120 (4096 * y + t2) = lN (if t2 < t then FWn C w h rn y t2 else FPn C w h rn y t2)) → WA G t_X10_layHistories (fun v N => v = none ∧ FrH M N ∧ (∀ y, y ≤ yrs → ∀ t, t < 4 ^ (w * h) → N.2.1 120 (4096 * y + t) = lN (FWn C w h rn y t)) ∧ ∀ y, y ≤ yrs → ∀ t, t < 4 ^ (w * h) → N.2.1 121 (4096 * y + t) = lN (ONn C w h rn yrs (yrs - y) t)) 156 [(3, .int (nI (t))), (2, .int (nI (y))), (0, wm_r G (96)), (1, .int (nI (yrs)))] [] (N2) := by
                      intro n_
                      induction n_ with
                      | zero => intro t N2 h_; exact absurd h_ (Nat.not_lt_zero _)
                      | succ n_ ih_156 =>
                        intro t N2 h_ ht hF2 hfw2 hz
                        refine wa_iload_n dX10_layHistories_156 rfl 0 rfl ?_
                        refine wa_aload_n dX10_layHistories_157 rfl 2 rfl ?_
                        refine wa_cVi (x_stateMany (w * h) hn6 (by rw [hF2.1 96 (by decide)]; exact x12)) vX10_stateMany iX10_layHistories_158 (rfl) rfl rfl rfl (Nat.le_of_ble_eq_true rfl) ⟨by decide, by decide⟩ ?_
                        refine wa_icmp_geN (a := t) (b := 4 ^ (w * h)) 205 dX10_layHistories_161 (by decide) (by omega) (by omega) (fun c_161 => ?_) (fun c_161 => ?_)
                        · have hfin : ∀ y2, y2 < y + 1 → ∀ t2, t2 < 4 ^ (w * h) → N2.2.1 120 (4096 * y2 + t2) = lN (FWn C w h rn y2 t2) := fun y2 h2 t2 ht2 => by
                            rcases Nat.lt_or_eq_of_le (Nat.le_of_lt_succ h2) with q | q
                            · exact hfw2 y2 q t2 ht2
                            · subst q; rw [hz t2 ht2, if_pos (by omega)]
                          refine wa_iinc ((nI (y + 1))) [(2, .int (nI (y + 1))), (3, .int (nI (t))), (0, wm_r G (96)), (1, .int (nI (yrs)))] dX10_layHistories_205 1 rfl (nI_inc _) (by decide) rfl ?_
                          refine wa_goto 2 dX10_layHistories_208 (by decide) ?_
                          refine wa_sub [0, 2, 3] rfl ?_
                          exact ih_2 (y + 1) _ (by omega) (by omega) hF2 hfin
                        · refine wa_aload_n dX10_layHistories_164 rfl 2 rfl ?_
                          refine wa_getr gX10_layHistories_165 (rfl) rfl ?_
                          refine wa_iload_n dX10_layHistories_168 rfl 1 rfl ?_
                          refine wa_iload_n dX10_layHistories_169 rfl 0 rfl ?_
                          refine wa_cSi (x_spot y t) vX10_spot iX10_layHistories_170 rfl rfl (Nat.le_of_ble_eq_true rfl) ⟨by decide, by decide⟩ ?_
                          refine wa_laldN (e := 4096 * y + t) dX10_layHistories_173 (rfl) (by omega) (by decide) ?_
                          refine wa_eql (y := lN (FPn C w h rn y t)) ((hz t (by omega)).trans (by rw [if_neg (by omega)])) ?_
                          have hb1 := FP_le (C := C) (rn := rn) (y := y) (t := t) hn6 (by omega) (by omega)
                          refine wa_lconst (0) dX10_layHistories_174 (by decide) ?_
                          refine wa_lcmp dX10_layHistories_175 ?_
                          refine wa_if_le 199 dX10_layHistories_176 (by decide) (fun c_176 => ?_) (fun c_176 => ?_)
                          · have hp0 : FPn C w h rn y t = 0 := (lg_0 (by omega)).mp c_176
                            have hz9 : ∀ t2, t2 < 4 ^ (w * h) → N2.2.1 120 (4096 * y + t2) = lN (if t2 < t + 1 then FWn C w h rn y t2 else FPn C w h rn y t2) := fun t2 h2 => by
                              rw [hz t2 h2]
                              by_cases q : t2 = t
                              · subst q; rw [if_neg (by omega), if_pos (by omega), FW_pre, hp0]; split <;> rfl
                              · by_cases q2 : t2 < t
                                · rw [if_pos q2, if_pos (by omega)]
                                · rw [if_neg q2, if_neg (by omega)]
                            refine wa_iinc ((nI (t + 1))) [(3, .int (nI (t + 1))), (2, .int (nI (y))), (0, wm_r G (96)), (1, .int (nI (yrs)))] dX10_layHistories_199 0 rfl (nI_inc _) (by decide) rfl ?_
                            refine wa_goto 156 dX10_layHistories_202 (by decide) ?_
                            exact ih_156 (t + 1) _ (by omega) (by omega) (by first | exact hF4 | exact hF3 | exact hF2) (by first | exact hfw4 | exact hfw3 | exact hfw2) hz9
                          · refine wa_aload_n dX10_layHistories_179 rfl 2 rfl ?_
                            refine wa_iload_n dX10_layHistories_180 rfl 0 rfl ?_
                            refine wa_iload_n dX10_layHistories_181 rfl 1 rfl ?_
                            refine wa_callV (x_fits (M := N2) C w h rn (hF2.stn hX) hW hRO (hF2.eng hRO.2.1 hE) t y (by omega) (by omega)) vX10_fits iX10_layHistories_182 (rfl) rfl rfl rfl (Nat.le_of_ble_eq_true rfl) ⟨by decide, by decide⟩ (fun v_ N3 h_ => ?_)
                            obtain ⟨rfl, hFf, h32⟩ := h_
                            show WA G t_X10_layHistories (fun v N => v = none ∧ FrH M N ∧ (∀ y, y ≤ yrs → ∀ t, t < 4 ^ (w * h) → N.2.1 120 (4096 * y + t) = lN (FWn C w h rn y t)) ∧ ∀ y, y ≤ yrs → ∀ t, t < 4 ^ (w * h) → N.2.1 121 (4096 * y + t) = lN (ONn C w h rn yrs (yrs - y) t)) 185 [(3, .int (nI (t))), (2, .int (nI (y))), (0, wm_r G (96)), (1, .int (nI (yrs)))] [.int (wB (fitB C w h rn y t))] (N3)
                            have hF3 : FrH M N3 := hF2.tr hFf
                            have hfw3 : ∀ y2, y2 < y → ∀ t2, t2 < 4 ^ (w * h) → N3.2.1 120 (4096 * y2 + t2) = lN (FWn C w h rn y2 t2) := fun y2 h2 t2 ht2 => by rw [h32]; exact hfw2 y2 h2 t2 ht2
                            have hz3 : ∀ t2, t2 < 4 ^ (w * h) → N3.2.1 120 (4096 * y + t2) = lN (if t2 < t then FWn C w h rn y t2 else FPn C w h rn y t2) := fun t2 h2 => by rw [h32]; exact hz t2 h2
                            refine wa_if_neB 199 dX10_layHistories_185 (by decide) (fun (c_185 : (fitB C w h rn y t) = true) => ?_) (fun (c_185 : (fitB C w h rn y t) = false) => ?_)
                            · have hz9 : ∀ t2, t2 < 4 ^ (w * h) → N3.2.1 120 (4096 * y + t2) = lN (if t2 < t + 1 then FWn C w h rn y t2 else FPn C w h rn y t2) := fun t2 h2 => by
                                rw [hz3 t2 h2]
                                by_cases q : t2 = t
                                · subst q; rw [if_neg (by omega), if_pos (by omega), FW_pre, c_185]; rfl
                                · by_cases q2 : t2 < t
                                  · rw [if_pos q2, if_pos (by omega)]
                                  · rw [if_neg q2, if_neg (by omega)]
                              refine wa_iinc ((nI (t + 1))) [(3, .int (nI (t + 1))), (2, .int (nI (y))), (0, wm_r G (96)), (1, .int (nI (yrs)))] dX10_layHistories_199 0 rfl (nI_inc _) (by decide) rfl ?_
                              refine wa_goto 156 dX10_layHistories_202 (by decide) ?_
                              exact ih_156 (t + 1) _ (by omega) (by omega) (by first | exact hF4 | exact hF3 | exact hF2) (by first | exact hfw4 | exact hfw3 | exact hfw2) hz9
                            · refine wa_aload_n dX10_layHistories_188 rfl 2 rfl ?_
                              refine wa_getr gX10_layHistories_189 (rfl) rfl ?_
                              refine wa_iload_n dX10_layHistories_192 rfl 1 rfl ?_
                              refine wa_iload_n dX10_layHistories_193 rfl 0 rfl ?_
                              refine wa_cSi (x_spot y t) vX10_spot iX10_layHistories_194 rfl rfl (Nat.le_of_ble_eq_true rfl) ⟨by decide, by decide⟩ ?_
                              refine wa_lconst (0) dX10_layHistories_197 (by decide) ?_
                              refine wa_lastN (e := 4096 * y + t) dX10_layHistories_198 (rfl) (by omega) (by decide) ?_
                              refine wa_top (fun N4 e_N4 => ?_)
                              have hF4 : FrH M N4 := by rw [e_N4]; exact hF3.tr (FrH.J (Or.inl rfl))
                              have hfw4 : ∀ y2, y2 < y → ∀ t2, t2 < 4 ^ (w * h) → N4.2.1 120 (4096 * y2 + t2) = lN (FWn C w h rn y2 t2) := fun y2 h2 t2 ht2 => by rw [e_N4, wJ_o (fun e => by omega)]; exact hfw3 y2 h2 t2 ht2
                              have hz9 : ∀ t2, t2 < 4 ^ (w * h) → N4.2.1 120 (4096 * y + t2) = lN (if t2 < t + 1 then FWn C w h rn y t2 else FPn C w h rn y t2) := fun t2 h2 => by
                                rw [e_N4]
                                by_cases q : t2 = t
                                · subst q; rw [wJ_at, if_pos (by omega), FW_pre, c_185]; rfl
                                · rw [wJ_o (fun e => by omega), hz3 t2 h2]
                                  by_cases q2 : t2 < t
                                  · rw [if_pos q2, if_pos (by omega)]
                                  · rw [if_neg q2, if_neg (by omega)]
                              refine wa_iinc ((nI (t + 1))) [(3, .int (nI (t + 1))), (2, .int (nI (y))), (0, wm_r G (96)), (1, .int (nI (yrs)))] dX10_layHistories_199 0 rfl (nI_inc _) (by decide) rfl ?_
                              refine wa_goto 156 dX10_layHistories_202 (by decide) ?_
                              exact ih_156 (t + 1) _ (by omega) (by omega) (by first | exact hF4 | exact hF3 | exact hF2) (by first | exact hfw4 | exact hfw3 | exact hfw2) hz9
                    exact L_156 _ 0 _ (Nat.lt_succ_self _) (Nat.zero_le _) hF2 hfw2 (fun t2 h2 => by rw [hsc t2 h2, if_neg (Nat.not_lt_zero _)]; exact congrArg lN (fp_of hexit h2))
                  · refine wa_iload_n dX10_layHistories_56 rfl 1 rfl ?_
                    refine wa_if_leN (a := y) 154 dX10_layHistories_57 (by decide) (by omega) (fun c_57 => ?_) (fun c_57 => ?_)
                    · have hexit : y = 0 ∨ i = 4 ^ (w * h) := Or.inl (by omega)
                      refine wa_iconst (0) dX10_layHistories_154 (by decide) ?_
                      refine wa_istore_n [(3, .int (0)), (2, .int (nI (y))), (0, wm_r G (96)), (1, .int (nI (yrs)))] dX10_layHistories_155 rfl (by decide) rfl ?_
                      have L_156 : ∀ (n_ : Nat) (t : Nat) (N2 : wm_M), (4 ^ (w * h) - t) < n_ → (t ≤ 4 ^ (w * h)) → (FrH M N2) → (∀ y2, y2 < y → ∀ t2, t2 < 4 ^ (w * h) → N2.2.1 120 (4096 * y2 + t2) = lN (FWn C w h rn y2 t2)) → (∀ t2, t2 < 4 ^ (w * h) → N2.2.1 120 (4096 * y + t2) = lN (if t2 < t then FWn C w h rn y t2 else FPn C w h rn y t2)) → WA G t_X10_layHistories (fun v N => v = none ∧ FrH M N ∧ (∀ y, y ≤ yrs → ∀ t, t < 4 ^ (w * h) → N.2.1 120 (4096 * y + t) = lN (FWn C w h rn y t)) ∧ ∀ y, y ≤ yrs → ∀ t, t < 4 ^ (w * h) → N.2.1 121 (4096 * y + t) = lN (ONn C w h rn yrs (yrs - y) t)) 156 [(3, .int (nI (t))), (2, .int (nI (y))), (0, wm_r G (96)), (1, .int (nI (yrs)))] [] (N2) := by
                        intro n_
                        induction n_ with
                        | zero => intro t N2 h_; exact absurd h_ (Nat.not_lt_zero _)
                        | succ n_ ih_156 =>
                          intro t N2 h_ ht hF2 hfw2 hz
                          refine wa_iload_n dX10_layHistories_156 rfl 0 rfl ?_
                          refine wa_aload_n dX10_layHistories_157 rfl 2 rfl ?_
                          refine wa_cVi (x_stateMany (w * h) hn6 (by rw [hF2.1 96 (by decide)]; exact x12)) vX10_stateMany iX10_layHistories_158 (rfl) rfl rfl rfl (Nat.le_of_ble_eq_true rfl) ⟨by decide, by decide⟩ ?_
                          refine wa_icmp_geN (a := t) (b := 4 ^ (w * h)) 205 dX10_layHistories_161 (by decide) (by omega) (by omega) (fun c_161 => ?_) (fun c_161 => ?_)
                          · have hfin : ∀ y2, y2 < y + 1 → ∀ t2, t2 < 4 ^ (w * h) → N2.2.1 120 (4096 * y2 + t2) = lN (FWn C w h rn y2 t2) := fun y2 h2 t2 ht2 => by
                              rcases Nat.lt_or_eq_of_le (Nat.le_of_lt_succ h2) with q | q
                              · exact hfw2 y2 q t2 ht2
                              · subst q; rw [hz t2 ht2, if_pos (by omega)]
                            refine wa_iinc ((nI (y + 1))) [(2, .int (nI (y + 1))), (3, .int (nI (t))), (0, wm_r G (96)), (1, .int (nI (yrs)))] dX10_layHistories_205 1 rfl (nI_inc _) (by decide) rfl ?_
                            refine wa_goto 2 dX10_layHistories_208 (by decide) ?_
                            refine wa_sub [0, 2, 3] rfl ?_
                            exact ih_2 (y + 1) _ (by omega) (by omega) hF2 hfin
                          · refine wa_aload_n dX10_layHistories_164 rfl 2 rfl ?_
                            refine wa_getr gX10_layHistories_165 (rfl) rfl ?_
                            refine wa_iload_n dX10_layHistories_168 rfl 1 rfl ?_
                            refine wa_iload_n dX10_layHistories_169 rfl 0 rfl ?_
                            refine wa_cSi (x_spot y t) vX10_spot iX10_layHistories_170 rfl rfl (Nat.le_of_ble_eq_true rfl) ⟨by decide, by decide⟩ ?_
                            refine wa_laldN (e := 4096 * y + t) dX10_layHistories_173 (rfl) (by omega) (by decide) ?_
                            refine wa_eql (y := lN (FPn C w h rn y t)) ((hz t (by omega)).trans (by rw [if_neg (by omega)])) ?_
                            have hb1 := FP_le (C := C) (rn := rn) (y := y) (t := t) hn6 (by omega) (by omega)
                            refine wa_lconst (0) dX10_layHistories_174 (by decide) ?_
                            refine wa_lcmp dX10_layHistories_175 ?_
                            refine wa_if_le 199 dX10_layHistories_176 (by decide) (fun c_176 => ?_) (fun c_176 => ?_)
                            · have hp0 : FPn C w h rn y t = 0 := (lg_0 (by omega)).mp c_176
                              have hz9 : ∀ t2, t2 < 4 ^ (w * h) → N2.2.1 120 (4096 * y + t2) = lN (if t2 < t + 1 then FWn C w h rn y t2 else FPn C w h rn y t2) := fun t2 h2 => by
                                rw [hz t2 h2]
                                by_cases q : t2 = t
                                · subst q; rw [if_neg (by omega), if_pos (by omega), FW_pre, hp0]; split <;> rfl
                                · by_cases q2 : t2 < t
                                  · rw [if_pos q2, if_pos (by omega)]
                                  · rw [if_neg q2, if_neg (by omega)]
                              refine wa_iinc ((nI (t + 1))) [(3, .int (nI (t + 1))), (2, .int (nI (y))), (0, wm_r G (96)), (1, .int (nI (yrs)))] dX10_layHistories_199 0 rfl (nI_inc _) (by decide) rfl ?_
                              refine wa_goto 156 dX10_layHistories_202 (by decide) ?_
                              exact ih_156 (t + 1) _ (by omega) (by omega) (by first | exact hF4 | exact hF3 | exact hF2) (by first | exact hfw4 | exact hfw3 | exact hfw2) hz9
                            · refine wa_aload_n dX10_layHistories_179 rfl 2 rfl ?_
                              refine wa_iload_n dX10_layHistories_180 rfl 0 rfl ?_
                              refine wa_iload_n dX10_layHistories_181 rfl 1 rfl ?_
                              refine wa_callV (x_fits (M := N2) C w h rn (hF2.stn hX) hW hRO (hF2.eng hRO.2.1 hE) t y (by omega) (by omega)) vX10_fits iX10_layHistories_182 (rfl) rfl rfl rfl (Nat.le_of_ble_eq_true rfl) ⟨by decide, by decide⟩ (fun v_ N3 h_ => ?_)
                              obtain ⟨rfl, hFf, h32⟩ := h_
                              show WA G t_X10_layHistories (fun v N => v = none ∧ FrH M N ∧ (∀ y, y ≤ yrs → ∀ t, t < 4 ^ (w * h) → N.2.1 120 (4096 * y + t) = lN (FWn C w h rn y t)) ∧ ∀ y, y ≤ yrs → ∀ t, t < 4 ^ (w * h) → N.2.1 121 (4096 * y + t) = lN (ONn C w h rn yrs (yrs - y) t)) 185 [(3, .int (nI (t))), (2, .int (nI (y))), (0, wm_r G (96)), (1, .int (nI (yrs)))] [.int (wB (fitB C w h rn y t))] (N3)
                              have hF3 : FrH M N3 := hF2.tr hFf
                              have hfw3 : ∀ y2, y2 < y → ∀ t2, t2 < 4 ^ (w * h) → N3.2.1 120 (4096 * y2 + t2) = lN (FWn C w h rn y2 t2) := fun y2 h2 t2 ht2 => by rw [h32]; exact hfw2 y2 h2 t2 ht2
                              have hz3 : ∀ t2, t2 < 4 ^ (w * h) → N3.2.1 120 (4096 * y + t2) = lN (if t2 < t then FWn C w h rn y t2 else FPn C w h rn y t2) := fun t2 h2 => by rw [h32]; exact hz t2 h2
                              refine wa_if_neB 199 dX10_layHistories_185 (by decide) (fun (c_185 : (fitB C w h rn y t) = true) => ?_) (fun (c_185 : (fitB C w h rn y t) = false) => ?_)
                              · have hz9 : ∀ t2, t2 < 4 ^ (w * h) → N3.2.1 120 (4096 * y + t2) = lN (if t2 < t + 1 then FWn C w h rn y t2 else FPn C w h rn y t2) := fun t2 h2 => by
                                  rw [hz3 t2 h2]
                                  by_cases q : t2 = t
                                  · subst q; rw [if_neg (by omega), if_pos (by omega), FW_pre, c_185]; rfl
                                  · by_cases q2 : t2 < t
                                    · rw [if_pos q2, if_pos (by omega)]
                                    · rw [if_neg q2, if_neg (by omega)]
                                refine wa_iinc ((nI (t + 1))) [(3, .int (nI (t + 1))), (2, .int (nI (y))), (0, wm_r G (96)), (1, .int (nI (yrs)))] dX10_layHistories_199 0 rfl (nI_inc _) (by decide) rfl ?_
                                refine wa_goto 156 dX10_layHistories_202 (by decide) ?_
                                exact ih_156 (t + 1) _ (by omega) (by omega) (by first | exact hF4 | exact hF3 | exact hF2) (by first | exact hfw4 | exact hfw3 | exact hfw2) hz9
                              · refine wa_aload_n dX10_layHistories_188 rfl 2 rfl ?_
                                refine wa_getr gX10_layHistories_189 (rfl) rfl ?_
                                refine wa_iload_n dX10_layHistories_192 rfl 1 rfl ?_
                                refine wa_iload_n dX10_layHistories_193 rfl 0 rfl ?_
                                refine wa_cSi (x_spot y t) vX10_spot iX10_layHistories_194 rfl rfl (Nat.le_of_ble_eq_true rfl) ⟨by decide, by decide⟩ ?_
                                refine wa_lconst (0) dX10_layHistories_197 (by decide) ?_
                                refine wa_lastN (e := 4096 * y + t) dX10_layHistories_198 (rfl) (by omega) (by decide) ?_
                                refine wa_top (fun N4 e_N4 => ?_)
                                have hF4 : FrH M N4 := by rw [e_N4]; exact hF3.tr (FrH.J (Or.inl rfl))
                                have hfw4 : ∀ y2, y2 < y → ∀ t2, t2 < 4 ^ (w * h) → N4.2.1 120 (4096 * y2 + t2) = lN (FWn C w h rn y2 t2) := fun y2 h2 t2 ht2 => by rw [e_N4, wJ_o (fun e => by omega)]; exact hfw3 y2 h2 t2 ht2
                                have hz9 : ∀ t2, t2 < 4 ^ (w * h) → N4.2.1 120 (4096 * y + t2) = lN (if t2 < t + 1 then FWn C w h rn y t2 else FPn C w h rn y t2) := fun t2 h2 => by
                                  rw [e_N4]
                                  by_cases q : t2 = t
                                  · subst q; rw [wJ_at, if_pos (by omega), FW_pre, c_185]; rfl
                                  · rw [wJ_o (fun e => by omega), hz3 t2 h2]
                                    by_cases q2 : t2 < t
                                    · rw [if_pos q2, if_pos (by omega)]
                                    · rw [if_neg q2, if_neg (by omega)]
                                refine wa_iinc ((nI (t + 1))) [(3, .int (nI (t + 1))), (2, .int (nI (y))), (0, wm_r G (96)), (1, .int (nI (yrs)))] dX10_layHistories_199 0 rfl (nI_inc _) (by decide) rfl ?_
                                refine wa_goto 156 dX10_layHistories_202 (by decide) ?_
                                exact ih_156 (t + 1) _ (by omega) (by omega) (by first | exact hF4 | exact hF3 | exact hF2) (by first | exact hfw4 | exact hfw3 | exact hfw2) hz9
                      exact L_156 _ 0 _ (Nat.lt_succ_self _) (Nat.zero_le _) hF2 hfw2 (fun t2 h2 => by rw [hsc t2 h2, if_neg (Nat.not_lt_zero _)]; exact congrArg lN (fp_of hexit h2))
                    · refine wa_aload_n dX10_layHistories_60 rfl 2 rfl ?_
                      refine wa_getr gX10_layHistories_61 (rfl) rfl ?_
                      refine wa_iload_n dX10_layHistories_64 rfl 1 rfl ?_
                      refine wa_iconst (1) dX10_layHistories_65 (by decide) ?_
                      refine wa_isubN (a := y) (b := 1) dX10_layHistories_66 (by omega) ?_
                      refine wa_iload_n dX10_layHistories_67 rfl 0 rfl ?_
                      refine wa_cSi (x_spot (y - 1) i) vX10_spot iX10_layHistories_68 rfl rfl (Nat.le_of_ble_eq_true rfl) ⟨by decide, by decide⟩ ?_
                      refine wa_laldN (e := 4096 * (y - 1) + i) dX10_layHistories_71 (rfl) (by omega) (by decide) ?_
                      refine wa_eql (y := lN (FWn C w h rn (y - 1) i)) (hfw2 (y - 1) (by omega) i (by omega)) ?_
                      have hb1 := FW_le (C := C) (rn := rn) (y := y - 1) (t := i) hn6 (by omega) (by omega)
                      refine wa_lstore [(4, .long (lN (FWn C w h rn (y - 1) i))), (3, .int (nI (i))), (2, .int (nI (y))), (0, wm_r G (96)), (1, .int (nI (yrs)))] dX10_layHistories_72 (by decide) rfl ?_
                      refine wa_lload dX10_layHistories_74 0 rfl ?_
                      refine wa_lconst (0) dX10_layHistories_76 (by decide) ?_
                      refine wa_lcmp dX10_layHistories_77 ?_
                      refine wa_if_le 148 dX10_layHistories_78 (by decide) (fun c_78 => ?_) (fun c_78 => ?_)
                      · have hw0 : FWn C w h rn (y - 1) i = 0 := (lg_0 (by omega)).mp c_78
                        have hsc9 : ∀ t2, t2 < 4 ^ (w * h) → N2.2.1 120 (4096 * y + t2) = lN (if y = 0 then (if t2 = 0 then 1 else 0) else scN (C.1 18) (w * h) (FWn C w h rn (y - 1)) (i + 1) t2) := fun t2 h2 => by rw [hsc t2 h2, if_neg (by omega), if_neg (by omega), scN_id hw0]
                        refine wa_iinc ((nI (i + 1))) [(3, .int (nI (i + 1))), (4, .long (lN (FWn C w h rn (y - 1) i))), (2, .int (nI (y))), (0, wm_r G (96)), (1, .int (nI (yrs)))] dX10_layHistories_148 1 rfl (nI_inc _) (by decide) rfl ?_
                        refine wa_goto 48 dX10_layHistories_151 (by decide) ?_
                        refine wa_sub [0, 2, 3, 4] rfl ?_
                        exact ih_48 (i + 1) _ (by omega) (by omega) (by first | exact hF4 | exact hF2) (by first | exact hfw4 | exact hfw2) hsc9
                      · refine wa_aload_n dX10_layHistories_81 rfl 3 rfl ?_
                        refine wa_getr gX10_layHistories_82 (rfl) rfl ?_
                        refine wa_iload_n dX10_layHistories_85 rfl 2 rfl ?_
                        refine wa_iload_n dX10_layHistories_86 rfl 1 rfl ?_
                        refine wa_cSi (x_spot y i) vX10_spot iX10_layHistories_87 rfl rfl (Nat.le_of_ble_eq_true rfl) ⟨by decide, by decide⟩ ?_
                        refine wa_dup2_11 dX10_layHistories_90 rfl rfl ?_
                        refine wa_laldN (e := 4096 * y + i) dX10_layHistories_91 (rfl) (by omega) (by decide) ?_
                        refine wa_eql (y := lN (scN (C.1 18) (w * h) (FWn C w h rn (y - 1)) i i)) ((hsc i (by omega)).trans (by rw [if_neg (by omega)])) ?_
                        refine wa_lload dX10_layHistories_92 0 rfl ?_
                        refine wa_ladd dX10_layHistories_94 ?_
                        refine wa_eql (y := lN (scN (C.1 18) (w * h) (FWn C w h rn (y - 1)) i i + FWn C w h rn (y - 1) i)) (lN_add _ _) ?_
                        refine wa_lastN (e := 4096 * y + i) dX10_layHistories_95 (rfl) (by omega) (by decide) ?_
                        refine wa_top (fun N3 e_N3 => ?_)
                        have hF3 : FrH M N3 := by rw [e_N3]; exact hF2.tr (FrH.J (Or.inl rfl))
                        have hfw3 : ∀ y2, y2 < y → ∀ t2, t2 < 4 ^ (w * h) → N3.2.1 120 (4096 * y2 + t2) = lN (FWn C w h rn y2 t2) := fun y2 h2 t2 ht2 => by rw [e_N3, wJ_o (fun e => by omega)]; exact hfw2 y2 h2 t2 ht2
                        have hsk3 : ∀ t2, t2 < 4 ^ (w * h) → N3.2.1 120 (4096 * y + t2) = lN (scK (C.1 18) (w * h) (FWn C w h rn (y - 1)) i 0 t2) := fun t2 h2 => by
                          rw [e_N3]; unfold scK
                          by_cases q : t2 = i
                          · subst q; rw [wJ_at, if_pos rfl]; rfl
                          · rw [wJ_o (fun e => by omega), hsc t2 h2, if_neg (by omega), if_neg q]; rfl
                        refine wa_iconst (0) dX10_layHistories_96 (by decide) ?_
                        refine wa_istore [(6, .int (0)), (4, .long (lN (FWn C w h rn (y - 1) i))), (3, .int (nI (i))), (2, .int (nI (y))), (0, wm_r G (96)), (1, .int (nI (yrs)))] dX10_layHistories_97 (by decide) rfl ?_
                        have L_99 : ∀ (n_ : Nat) (k : Nat) (N4 : wm_M), (w * h - k) < n_ → (k ≤ w * h) → (FrH M N4) → (∀ y2, y2 < y → ∀ t2, t2 < 4 ^ (w * h) → N4.2.1 120 (4096 * y2 + t2) = lN (FWn C w h rn y2 t2)) → (∀ t2, t2 < 4 ^ (w * h) → N4.2.1 120 (4096 * y + t2) = lN (scK (C.1 18) (w * h) (FWn C w h rn (y - 1)) i k t2)) → WA G t_X10_layHistories (fun v N => v = none ∧ FrH M N ∧ (∀ y, y ≤ yrs → ∀ t, t < 4 ^ (w * h) → N.2.1 120 (4096 * y + t) = lN (FWn C w h rn y t)) ∧ ∀ y, y ≤ yrs → ∀ t, t < 4 ^ (w * h) → N.2.1 121 (4096 * y + t) = lN (ONn C w h rn yrs (yrs - y) t)) 99 [(6, .int (nI (k))), (4, .long (lN (FWn C w h rn (y - 1) i))), (3, .int (nI (i))), (2, .int (nI (y))), (0, wm_r G (96)), (1, .int (nI (yrs)))] [] (N4) := by
                          intro n_
                          induction n_ with
                          | zero => intro k N4 h_; exact absurd h_ (Nat.not_lt_zero _)
                          | succ n_ ih_99 =>
                            intro k N4 h_ hk hF4 hfw4 hsk
                            refine wa_iload dX10_layHistories_99 0 rfl ?_
                            refine wa_aload_n dX10_layHistories_101 rfl 4 rfl ?_
                            refine wa_geti gX10_layHistories_102 (rfl) rfl ?_
                            refine wa_eqi (y := (nI (w * h))) (by rw [hF4.1 96 (by decide)]; exact x12) ?_
                            refine wa_icmp_geN (a := k) (b := w * h) 148 dX10_layHistories_105 (by decide) (by omega) (by omega) (fun c_105 => ?_) (fun c_105 => ?_)
                            · have hsc9 : ∀ t2, t2 < 4 ^ (w * h) → N4.2.1 120 (4096 * y + t2) = lN (if y = 0 then (if t2 = 0 then 1 else 0) else scN (C.1 18) (w * h) (FWn C w h rn (y - 1)) (i + 1) t2) := fun t2 h2 => by rw [hsk t2 h2, if_neg (by omega), scN_s, show k = w * h by omega]
                              refine wa_iinc ((nI (i + 1))) [(3, .int (nI (i + 1))), (6, .int (nI (k))), (4, .long (lN (FWn C w h rn (y - 1) i))), (2, .int (nI (y))), (0, wm_r G (96)), (1, .int (nI (yrs)))] dX10_layHistories_148 2 rfl (nI_inc _) (by decide) rfl ?_
                              refine wa_goto 48 dX10_layHistories_151 (by decide) ?_
                              refine wa_sub [0, 3, 4, 5] rfl ?_
                              exact ih_48 (i + 1) _ (by omega) (by omega) (by first | exact hF4 | exact hF2) (by first | exact hfw4 | exact hfw2) hsc9
                            · refine wa_aload_n dX10_layHistories_108 rfl 4 rfl ?_
                              refine wa_getr gX10_layHistories_109 (rfl) rfl ?_
                              refine wa_iload_n dX10_layHistories_112 rfl 3 rfl ?_
                              refine wa_aload_n dX10_layHistories_113 rfl 4 rfl ?_
                              refine wa_iload_n dX10_layHistories_114 rfl 2 rfl ?_
                              refine wa_iload dX10_layHistories_115 0 rfl ?_
                              refine wa_cVi (x_turnedOf C w h (hF4.stn hX) hW i (by omega) k (by omega)) vX10_turnedOf iX10_layHistories_117 (rfl) rfl rfl rfl (Nat.le_of_ble_eq_true rfl) ⟨by decide, by decide⟩ ?_
                              have hu := sMv_lt (m := if C.1 18 k = 3 then 2 else 1) (show i < 4 ^ (w * h) by omega) (show k < w * h by omega)
                              refine wa_cSi (x_spot y (sMv i k (if C.1 18 k = 3 then 2 else 1))) vX10_spot iX10_layHistories_120 rfl rfl (Nat.le_of_ble_eq_true rfl) ⟨by decide, by decide⟩ ?_
                              refine wa_dup2_11 dX10_layHistories_123 rfl rfl ?_
                              refine wa_laldN (e := 4096 * y + sMv i k (if C.1 18 k = 3 then 2 else 1)) dX10_layHistories_124 (rfl) (by omega) (by decide) ?_
                              refine wa_eql (y := lN (scK (C.1 18) (w * h) (FWn C w h rn (y - 1)) i k (sMv i k (if C.1 18 k = 3 then 2 else 1)))) (hsk _ hu) ?_
                              refine wa_aload_n dX10_layHistories_125 rfl 4 rfl ?_
                              refine wa_iload dX10_layHistories_126 0 rfl ?_
                              refine wa_cVi (x_isFixed C w h (hF4.stn hX) hW k (by omega)) vX10_isFixed iX10_layHistories_128 (rfl) rfl rfl rfl (Nat.le_of_ble_eq_true rfl) ⟨by decide, by decide⟩ ?_
                              refine wa_if_eqB 138 dX10_layHistories_131 (by decide) (fun (c_131 : (sFix (C.1 18 k)) = false) => ?_) (fun (c_131 : (sFix (C.1 18 k)) = true) => ?_)
                              · refine wa_lload dX10_layHistories_138 1 rfl ?_
                                refine wa_ladd dX10_layHistories_140 ?_
                                refine wa_eql (y := lN (scK (C.1 18) (w * h) (FWn C w h rn (y - 1)) i (k + 1) (sMv i k (if C.1 18 k = 3 then 2 else 1)))) (by rw [scK_s]; first | (rw [if_neg (fun (q : 0 < sStep (C.1 18 k) ∧ sMv (sMv i k (if C.1 18 k = 3 then 2 else 1)) k (4 - sStep (C.1 18 k)) = i) => absurd q.1 (by unfold sStep; rw [if_pos c_131]; decide))]; exact lN_add _ 0) | (rw [st_of c_131, if_pos ⟨step_pos c_131, (mv_back (by omega) (by have := sStep_le (C.1 18 k); omega)).mpr rfl⟩]; exact lN_add _ _)) ?_
                                refine wa_lastN (e := 4096 * y + sMv i k (if C.1 18 k = 3 then 2 else 1)) dX10_layHistories_141 (rfl) (by omega) (by decide) ?_
                                refine wa_top (fun N5 e_N5 => ?_)
                                have hF5 : FrH M N5 := by rw [e_N5]; exact hF4.tr (FrH.J (Or.inl rfl))
                                have hfw5 : ∀ y2, y2 < y → ∀ t2, t2 < 4 ^ (w * h) → N5.2.1 120 (4096 * y2 + t2) = lN (FWn C w h rn y2 t2) := fun y2 h2 t2 ht2 => by rw [e_N5, wJ_o (fun e => by omega)]; exact hfw4 y2 h2 t2 ht2
                                have hsk5 : ∀ t2, t2 < 4 ^ (w * h) → N5.2.1 120 (4096 * y + t2) = lN (scK (C.1 18) (w * h) (FWn C w h rn (y - 1)) i (k + 1) t2) := fun t2 h2 => by
                                  rw [e_N5]
                                  by_cases q : t2 = sMv i k (if C.1 18 k = 3 then 2 else 1)
                                  · subst q; rw [wJ_at]
                                  · rw [wJ_o (fun e => q (by omega)), hsk t2 h2, scK_s, if_neg (fun c => q (by rw [st_of (by cases z : sFix (C.1 18 k) with | false => rfl | true => exact absurd c.1 (by unfold sStep; rw [if_pos z]; omega)), ← mv_back (by omega) (by have := sStep_le (C.1 18 k); omega)]; exact c.2))]; rfl
                                refine wa_iinc ((nI (k + 1))) [(6, .int (nI (k + 1))), (4, .long (lN (FWn C w h rn (y - 1) i))), (3, .int (nI (i))), (2, .int (nI (y))), (0, wm_r G (96)), (1, .int (nI (yrs)))] dX10_layHistories_142 0 rfl (nI_inc _) (by decide) rfl ?_
                                refine wa_goto 99 dX10_layHistories_145 (by decide) ?_
                                exact ih_99 (k + 1) _ (by omega) (by omega) hF5 hfw5 hsk5
                              · refine wa_lconst (0) dX10_layHistories_134 (by decide) ?_
                                refine wa_goto 140 dX10_layHistories_135 (by decide) ?_
                                refine wa_ladd dX10_layHistories_140 ?_
                                refine wa_eql (y := lN (scK (C.1 18) (w * h) (FWn C w h rn (y - 1)) i (k + 1) (sMv i k (if C.1 18 k = 3 then 2 else 1)))) (by rw [scK_s]; first | (rw [if_neg (fun (q : 0 < sStep (C.1 18 k) ∧ sMv (sMv i k (if C.1 18 k = 3 then 2 else 1)) k (4 - sStep (C.1 18 k)) = i) => absurd q.1 (by unfold sStep; rw [if_pos c_131]; decide))]; exact lN_add _ 0) | (rw [st_of c_131, if_pos ⟨step_pos c_131, (mv_back (by omega) (by have := sStep_le (C.1 18 k); omega)).mpr rfl⟩]; exact lN_add _ _)) ?_
                                refine wa_lastN (e := 4096 * y + sMv i k (if C.1 18 k = 3 then 2 else 1)) dX10_layHistories_141 (rfl) (by omega) (by decide) ?_
                                refine wa_top (fun N5 e_N5 => ?_)
                                have hF5 : FrH M N5 := by rw [e_N5]; exact hF4.tr (FrH.J (Or.inl rfl))
                                have hfw5 : ∀ y2, y2 < y → ∀ t2, t2 < 4 ^ (w * h) → N5.2.1 120 (4096 * y2 + t2) = lN (FWn C w h rn y2 t2) := fun y2 h2 t2 ht2 => by rw [e_N5, wJ_o (fun e => by omega)]; exact hfw4 y2 h2 t2 ht2
                                have hsk5 : ∀ t2, t2 < 4 ^ (w * h) → N5.2.1 120 (4096 * y + t2) = lN (scK (C.1 18) (w * h) (FWn C w h rn (y - 1)) i (k + 1) t2) := fun t2 h2 => by
                                  rw [e_N5]
                                  by_cases q : t2 = sMv i k (if C.1 18 k = 3 then 2 else 1)
                                  · subst q; rw [wJ_at]
                                  · rw [wJ_o (fun e => q (by omega)), hsk t2 h2, scK_s, if_neg (fun c => q (by rw [st_of (by cases z : sFix (C.1 18 k) with | false => rfl | true => exact absurd c.1 (by unfold sStep; rw [if_pos z]; omega)), ← mv_back (by omega) (by have := sStep_le (C.1 18 k); omega)]; exact c.2))]; rfl
                                refine wa_iinc ((nI (k + 1))) [(6, .int (nI (k + 1))), (4, .long (lN (FWn C w h rn (y - 1) i))), (3, .int (nI (i))), (2, .int (nI (y))), (0, wm_r G (96)), (1, .int (nI (yrs)))] dX10_layHistories_142 0 rfl (nI_inc _) (by decide) rfl ?_
                                refine wa_goto 99 dX10_layHistories_145 (by decide) ?_
                                exact ih_99 (k + 1) _ (by omega) (by omega) hF5 hfw5 hsk5
                        exact L_99 _ 0 _ (Nat.lt_succ_self _) (Nat.zero_le _) hF3 hfw3 hsk3
              exact L_48 _ 0 _ (Nat.lt_succ_self _) (Nat.zero_le _) hF2 hfw2 (fun t2 h2 => by rw [hin t2 (by omega), scN_0]; by_cases q : y = 0; (rw [if_pos q]; by_cases q2 : t2 = 0; (rw [if_pos ⟨q, q2⟩, if_pos q2]); (rw [if_neg (fun c => q2 c.2), if_neg q2])); (rw [if_neg (fun c => q c.1), if_neg q]))
            · refine wa_aload_n dX10_layHistories_17 rfl 2 rfl ?_
              refine wa_getr gX10_layHistories_18 (rfl) rfl ?_
              refine wa_iload_n dX10_layHistories_21 rfl 1 rfl ?_
              refine wa_iload_n dX10_layHistories_22 rfl 0 rfl ?_
              refine wa_cSi (x_spot y t) vX10_spot iX10_layHistories_23 rfl rfl (Nat.le_of_ble_eq_true rfl) ⟨by decide, by decide⟩ ?_
              refine wa_iload_n dX10_layHistories_26 rfl 1 rfl ?_
              refine wa_if_neN (a := y) 38 dX10_layHistories_27 (by decide) (by omega) (fun c_27 => ?_) (fun c_27 => ?_)
              · refine wa_lconst (0) dX10_layHistories_38 (by decide) ?_
                refine wa_lastN (e := 4096 * y + t) dX10_layHistories_39 (rfl) (by omega) (by decide) ?_
                refine wa_top (fun N3 e_N3 => ?_)
                have hF3 : FrH M N3 := by rw [e_N3]; exact hF2.tr (FrH.J (Or.inl rfl))
                have hfw3 : ∀ y2, y2 < y → ∀ t2, t2 < 4 ^ (w * h) → N3.2.1 120 (4096 * y2 + t2) = lN (FWn C w h rn y2 t2) := fun y2 h2 t2 ht2 => by rw [e_N3, wJ_o (fun e => by omega)]; exact hfw2 y2 h2 t2 ht2
                have hin3 : ∀ t2, t2 < t + 1 → N3.2.1 120 (4096 * y + t2) = lN (if y = 0 ∧ t2 = 0 then 1 else 0) := fun t2 h2 => by
                  rw [e_N3]
                  by_cases q : t2 = t
                  · subst q; rw [wJ_at]; first | (rw [if_pos (by omega)]; rfl) | (rw [if_neg (by omega)]; rfl)
                  · rw [wJ_o (fun e => by omega)]; exact hin t2 (by omega)
                refine wa_iinc ((nI (t + 1))) [(3, .int (nI (t + 1))), (2, .int (nI (y))), (0, wm_r G (96)), (1, .int (nI (yrs)))] dX10_layHistories_40 0 rfl (nI_inc _) (by decide) rfl ?_
                refine wa_goto 9 dX10_layHistories_43 (by decide) ?_
                exact ih_9 (t + 1) _ (by omega) (by omega) hF3 hfw3 hin3
              · refine wa_iload_n dX10_layHistories_30 rfl 0 rfl ?_
                refine wa_if_neN (a := t) 38 dX10_layHistories_31 (by decide) (by omega) (fun c_31 => ?_) (fun c_31 => ?_)
                · refine wa_lconst (0) dX10_layHistories_38 (by decide) ?_
                  refine wa_lastN (e := 4096 * y + t) dX10_layHistories_39 (rfl) (by omega) (by decide) ?_
                  refine wa_top (fun N3 e_N3 => ?_)
                  have hF3 : FrH M N3 := by rw [e_N3]; exact hF2.tr (FrH.J (Or.inl rfl))
                  have hfw3 : ∀ y2, y2 < y → ∀ t2, t2 < 4 ^ (w * h) → N3.2.1 120 (4096 * y2 + t2) = lN (FWn C w h rn y2 t2) := fun y2 h2 t2 ht2 => by rw [e_N3, wJ_o (fun e => by omega)]; exact hfw2 y2 h2 t2 ht2
                  have hin3 : ∀ t2, t2 < t + 1 → N3.2.1 120 (4096 * y + t2) = lN (if y = 0 ∧ t2 = 0 then 1 else 0) := fun t2 h2 => by
                    rw [e_N3]
                    by_cases q : t2 = t
                    · subst q; rw [wJ_at]; first | (rw [if_pos (by omega)]; rfl) | (rw [if_neg (by omega)]; rfl)
                    · rw [wJ_o (fun e => by omega)]; exact hin t2 (by omega)
                  refine wa_iinc ((nI (t + 1))) [(3, .int (nI (t + 1))), (2, .int (nI (y))), (0, wm_r G (96)), (1, .int (nI (yrs)))] dX10_layHistories_40 0 rfl (nI_inc _) (by decide) rfl ?_
                  refine wa_goto 9 dX10_layHistories_43 (by decide) ?_
                  exact ih_9 (t + 1) _ (by omega) (by omega) hF3 hfw3 hin3
                · refine wa_lconst (1) dX10_layHistories_34 (by decide) ?_
                  refine wa_goto 39 dX10_layHistories_35 (by decide) ?_
                  refine wa_lastN (e := 4096 * y + t) dX10_layHistories_39 (rfl) (by omega) (by decide) ?_
                  refine wa_top (fun N3 e_N3 => ?_)
                  have hF3 : FrH M N3 := by rw [e_N3]; exact hF2.tr (FrH.J (Or.inl rfl))
                  have hfw3 : ∀ y2, y2 < y → ∀ t2, t2 < 4 ^ (w * h) → N3.2.1 120 (4096 * y2 + t2) = lN (FWn C w h rn y2 t2) := fun y2 h2 t2 ht2 => by rw [e_N3, wJ_o (fun e => by omega)]; exact hfw2 y2 h2 t2 ht2
                  have hin3 : ∀ t2, t2 < t + 1 → N3.2.1 120 (4096 * y + t2) = lN (if y = 0 ∧ t2 = 0 then 1 else 0) := fun t2 h2 => by
                    rw [e_N3]
                    by_cases q : t2 = t
                    · subst q; rw [wJ_at]; first | (rw [if_pos (by omega)]; rfl) | (rw [if_neg (by omega)]; rfl)
                    · rw [wJ_o (fun e => by omega)]; exact hin t2 (by omega)
                  refine wa_iinc ((nI (t + 1))) [(3, .int (nI (t + 1))), (2, .int (nI (y))), (0, wm_r G (96)), (1, .int (nI (yrs)))] dX10_layHistories_40 0 rfl (nI_inc _) (by decide) rfl ?_
                  refine wa_goto 9 dX10_layHistories_43 (by decide) ?_
                  exact ih_9 (t + 1) _ (by omega) (by omega) hF3 hfw3 hin3
        exact L_9 _ 0 _ (Nat.lt_succ_self _) (Nat.zero_le _) hF hfw (fun t2 h2 => absurd h2 (Nat.not_lt_zero _))
  exact L_2 _ 0 M (Nat.lt_succ_self _) (Nat.zero_le _) (FrH.rf M) (fun y2 h2 => absurd h2 (Nat.not_lt_zero _))
