theorem c_stands_bad {G : wm_G} {M : wm_M} (l : Int32) (hr : wIn l 4 = false) : MD G t_X9_stands [wm_r G (0), .int (l)] (M) (some (.int (-1))) (M) := by
  refine wm_met (by decide) (Nat.le_of_ble_eq_true rfl) ?_
  show WA G t_X9_stands (fun v_ N_ => v_ = some (.int (-1)) ∧ N_ = M) 0 [(0, wm_r G (0)), (1, .int (l))] [] (M)
  refine wa_aload_n dX9_stands_0 rfl 0 rfl ?_
  refine wa_aload_n dX9_stands_1 rfl 0 rfl ?_
  refine wa_getr gX9_stands_2 (rfl) rfl ?_
  refine wa_getr gX9_stands_5 (rfl) rfl ?_
  refine wa_iload_n dX9_stands_8 rfl 1 rfl ?_
  refine wa_cVi (m_ref_bad 29 4 3 TB_laws l hr) vX9_refusal iX9_stands_9 (rfl) rfl rfl rfl (Nat.le_of_ble_eq_true rfl) ⟨by decide, by decide⟩ ?_
  refine wa_istore_n [(2, .int (-1)), (0, wm_r G (0)), (1, .int (l))] dX9_stands_12 rfl (by decide) rfl ?_
  refine wa_iload_n dX9_stands_13 rfl 0 rfl ?_
  refine wa_if_eq 19 dX9_stands_14 (by decide) (fun c_14 => absurd c_14 (by decide)) (fun c_14 => ?_)
  refine wa_iload_n dX9_stands_17 rfl 0 rfl ?_
  exact wa_iret dX9_stands_18 rfl ⟨congrArg (fun z => some (Value.int z)) (rfl), rfl⟩

theorem c_stands_no {G : wm_G} {M : wm_M} (l : Nat) (hr : l < 4) (hz : M.1 35 l = -1) : MD G t_X9_stands [wm_r G (0), .int (nI (l))] (M) (some (.int (-3))) (tNote M 1) := by
  refine wm_met (by decide) (Nat.le_of_ble_eq_true rfl) ?_
  show WA G t_X9_stands (fun v_ N_ => v_ = some (.int (-3)) ∧ N_ = tNote M 1) 0 [(0, wm_r G (0)), (1, .int (nI (l)))] [] (M)
  refine wa_aload_n dX9_stands_0 rfl 0 rfl ?_
  refine wa_aload_n dX9_stands_1 rfl 0 rfl ?_
  refine wa_getr gX9_stands_2 (rfl) rfl ?_
  refine wa_getr gX9_stands_5 (rfl) rfl ?_
  refine wa_iload_n dX9_stands_8 rfl 1 rfl ?_
  refine wa_cVi (m_ref_no 29 4 3 TB_laws l hr hz) vX9_refusal iX9_stands_9 (rfl) rfl rfl rfl (Nat.le_of_ble_eq_true rfl) ⟨by decide, by decide⟩ ?_
  refine wa_istore_n [(2, .int (-3)), (0, wm_r G (0)), (1, .int (nI (l)))] dX9_stands_12 rfl (by decide) rfl ?_
  refine wa_iload_n dX9_stands_13 rfl 0 rfl ?_
  refine wa_if_eq 19 dX9_stands_14 (by decide) (fun c_14 => absurd c_14 (by decide)) (fun c_14 => ?_)
  refine wa_iload_n dX9_stands_17 rfl 0 rfl ?_
  exact wa_iret dX9_stands_18 rfl ⟨congrArg (fun z => some (Value.int z)) (rfl), rfl⟩

theorem c_stands_ok {G : wm_G} {M : wm_M} (w h rn s yr : Nat) (ci : CI M w h rn s yr) (l z : Nat) (hL : LZ M l z) : MD G t_X9_stands [wm_r G (0), .int (nI (l))] (M) (some (.int (stnA (lvl M w h l s)))) (tTell M (nI (lvN M w h l s))) := by
  obtain ⟨⟨hW, hwh⟩, hSt, ⟨h12, h13, hyr, hs4, hsh⟩, hRo, hTx, hLw, hKp, hRO, ⟨hL1, hL10, hL29, hL58⟩, hSe, hDy⟩ := id ci
  have hn6 := TW_n hW
  have hs : s < 4096 := Nat.lt_of_lt_of_le hs4 (p4_le hn6)
  have hw3 := hW.2.2.1
  have hh2 := hW.2.2.2
  have hz : ¬ M.1 35 l = -1 := by rw [hL.2.1]; exact nI_nem1 (by have := hL.2.2.2; omega)
  have hr : l < 4 := hL.1
  have hc35 : (M.1 35 l).toNatClampNeg = z := by rw [hL.2.1, nI_clamp (by have := hL.2.2.2; omega)]
  have hlv : lvl M w h l s ≤ 3 := levB_le
  refine wm_met (by decide) (Nat.le_of_ble_eq_true rfl) ?_
  show WA G t_X9_stands (fun v_ N_ => v_ = some (.int (stnA (lvl M w h l s))) ∧ N_ = tTell M (nI (lvN M w h l s))) 0 [(0, wm_r G (0)), (1, .int (nI (l)))] [] (M)
  refine wa_aload_n dX9_stands_0 rfl 0 rfl ?_
  refine wa_aload_n dX9_stands_1 rfl 0 rfl ?_
  refine wa_getr gX9_stands_2 (rfl) rfl ?_
  refine wa_getr gX9_stands_5 (rfl) rfl ?_
  refine wa_iload_n dX9_stands_8 rfl 1 rfl ?_
  refine wa_cVi (m_ref_ok 29 4 3 TB_laws l hr hz) vX9_refusal iX9_stands_9 (rfl) rfl rfl rfl (Nat.le_of_ble_eq_true rfl) ⟨by decide, by decide⟩ ?_
  refine wa_istore_n [(2, .int (0)), (0, wm_r G (0)), (1, .int (nI (l)))] dX9_stands_12 rfl (by decide) rfl ?_
  refine wa_iload_n dX9_stands_13 rfl 0 rfl ?_
  refine wa_if_eq 19 dX9_stands_14 (by decide) (fun c_14 => ?_) (fun c_14 => absurd c_14 (by decide))
  refine wa_aload_n dX9_stands_19 rfl 1 rfl ?_
  refine wa_getr gX9_stands_20 (rfl) rfl ?_
  refine wa_aload_n dX9_stands_23 rfl 1 rfl ?_
  refine wa_getr gX9_stands_24 (rfl) rfl ?_
  refine wa_iload_n dX9_stands_27 rfl 2 rfl ?_
  refine wa_aload_n dX9_stands_28 rfl 1 rfl ?_
  refine wa_geti gX9_stands_29 (rfl) rfl ?_
  refine wa_eqi (y := (nI (s))) (h12) ?_
  refine wa_cVi (m_readings w h hW l z hL s hs) vX0_readings iX9_stands_32 (rfl) rfl rfl rfl (Nat.le_of_ble_eq_true rfl) ⟨by decide, by decide⟩ ?_
  refine wa_eqi (y := (nI (lvN M w h l s))) (by unfold lvN; rw [hc35]) ?_
  refine wa_puti gX9_stands_35 (rfl) rfl ?_
  refine wa_aload_n dX9_stands_38 rfl 1 rfl ?_
  refine wa_getr gX9_stands_39 (rfl) rfl ?_
  refine wa_iload_n dX9_stands_42 rfl 2 rfl ?_
  refine wa_aload_n dX9_stands_43 rfl 1 rfl ?_
  refine wa_geti gX9_stands_44 (rfl) rfl ?_
  refine wa_eqi (y := (nI (s))) (by rw [wI_c (by decide)]; exact h12) ?_
  refine wa_cVi (m_level (M := tTell M (nI (lvN M w h l s))) w h (hW.fr (wI_c (by decide))) l z (hL.fr (wI_c (by decide))) s hs) vX0_level iX9_stands_47 (rfl) rfl rfl rfl (Nat.le_of_ble_eq_true rfl) ⟨by decide, by decide⟩ ?_
  refine wa_eqi (y := (nI (lvl M w h l s))) (by unfold lvl tTell; rw [hc35, wI_c (by decide), wI_c (by decide), wI_c (by decide), wI_c (by decide), wI_c (by omega)]) ?_
  refine wa_istore_n [(3, .int (nI (lvl M w h l s))), (2, .int (0)), (0, wm_r G (0)), (1, .int (nI (l)))] dX9_stands_50 rfl (by decide) rfl ?_
  refine wa_iload_n dX9_stands_51 rfl 0 rfl ?_
  refine wa_iconst (3) dX9_stands_52 (by decide) ?_
  refine wa_icmp_neN (a := lvl M w h l s) (b := 3) 60 dX9_stands_53 (by decide) (by omega) (by omega) (fun c_53 => ?_) (fun c_53 => ?_)
  · refine wa_iload_n dX9_stands_60 rfl 0 rfl ?_
    refine wa_if_neN (a := lvl M w h l s) 68 dX9_stands_61 (by decide) (by omega) (fun c_61 => ?_) (fun c_61 => ?_)
    · refine wa_iconst (1) dX9_stands_68 (by decide) ?_
      exact wa_iret dX9_stands_69 rfl ⟨congrArg (fun z => some (Value.int z)) (by unfold stnA; first | (rw [if_pos c_53]; done) | (rw [if_neg c_53, if_pos c_61]; done) | (rw [if_neg c_53, if_neg c_61]; done)), rfl⟩
    · refine wa_iconst (0) dX9_stands_64 (by decide) ?_
      refine wa_goto 69 dX9_stands_65 (by decide) ?_
      exact wa_iret dX9_stands_69 rfl ⟨congrArg (fun z => some (Value.int z)) (by unfold stnA; first | (rw [if_pos c_53]; done) | (rw [if_neg c_53, if_pos c_61]; done) | (rw [if_neg c_53, if_neg c_61]; done)), rfl⟩
  · refine wa_iconst (2) dX9_stands_56 (by decide) ?_
    refine wa_goto 69 dX9_stands_57 (by decide) ?_
    exact wa_iret dX9_stands_69 rfl ⟨congrArg (fun z => some (Value.int z)) (by unfold stnA; first | (rw [if_pos c_53]; done) | (rw [if_neg c_53, if_pos c_61]; done) | (rw [if_neg c_53, if_neg c_61]; done)), rfl⟩

theorem c_laws {G : wm_G} {M : wm_M} (w h rn s yr : Nat) (ci : CI M w h rn s yr) : MD G t_X9_laws [wm_r G (0)] (M) (some (.int (nI (wBits (fun l => sb (M.2.1 (38 + 2 * l + 1)) s) 4)))) (tTell M (nI (wBits (lvP M w h s) 4))) := by
  obtain ⟨⟨hW, hwh⟩, hSt, ⟨h12, h13, hyr, hs4, hsh⟩, hRo, hTx, hLw, hKp, hRO, ⟨hL1, hL10, hL29, hL58⟩, hSe, hDy⟩ := id ci
  have hn6 := TW_n hW
  have hs : s < 4096 := Nat.lt_of_lt_of_le hs4 (p4_le hn6)
  have hw3 := hW.2.2.1
  have hh2 := hW.2.2.2
  refine wm_met (by decide) (Nat.le_of_ble_eq_true rfl) ?_
  show WA G t_X9_laws (fun v_ N_ => v_ = some (.int (nI (wBits (fun l => sb (M.2.1 (38 + 2 * l + 1)) s) 4))) ∧ N_ = tTell M (nI (wBits (lvP M w h s) 4))) 0 [(0, wm_r G (0))] [] (M)
  refine wa_iconst (0) dX9_laws_0 (by decide) ?_
  refine wa_eqi (y := (nI (wBits (lvP M w h s) 0))) (rfl) ?_
  refine wa_istore_n [(1, .int (nI (wBits (lvP M w h s) 0))), (0, wm_r G (0))] dX9_laws_1 rfl (by decide) rfl ?_
  refine wa_iconst (0) dX9_laws_2 (by decide) ?_
  refine wa_istore_n [(2, .int (0)), (1, .int (nI (wBits (lvP M w h s) 0))), (0, wm_r G (0))] dX9_laws_3 rfl (by decide) rfl ?_
  have L_4 : ∀ (n_ : Nat) (l : Nat), (4 - l) < n_ → (l ≤ 4) → WA G t_X9_laws (fun v_ N_ => v_ = some (.int (nI (wBits (fun l => sb (M.2.1 (38 + 2 * l + 1)) s) 4))) ∧ N_ = tTell M (nI (wBits (lvP M w h s) 4))) 4 [(2, .int (nI (l))), (1, .int (nI (wBits (lvP M w h s) l))), (0, wm_r G (0))] [] (M) := by
    intro n_
    induction n_ with
    | zero => intro l h_; exact absurd h_ (Nat.not_lt_zero _)
    | succ n_ ih_4 =>
      intro l h_ hl
      refine wa_iload_n dX9_laws_4 rfl 0 rfl ?_
      refine wa_iconst (4) dX9_laws_5 (by decide) ?_
      refine wa_icmp_geN (a := l) (b := 4) 51 dX9_laws_6 (by decide) (by omega) (by omega) (fun c_6 => ?_) (fun c_6 => ?_)
      · refine wa_aload_n dX9_laws_51 rfl 2 rfl ?_
        refine wa_getr gX9_laws_52 (rfl) rfl ?_
        refine wa_iload_n dX9_laws_55 rfl 1 rfl ?_
        refine wa_puti gX9_laws_56 (rfl) rfl ?_
        refine wa_aload_n dX9_laws_59 rfl 2 rfl ?_
        refine wa_getr gX9_laws_60 (rfl) rfl ?_
        refine wa_aload_n dX9_laws_63 rfl 2 rfl ?_
        refine wa_geti gX9_laws_64 (rfl) rfl ?_
        refine wa_eqi (y := (nI (s))) (by rw [wI_c (by decide)]; exact h12) ?_
        refine wa_cVi (m_standingIn s hs) vX0_standingIn iX9_laws_67 (rfl) rfl rfl rfl (Nat.le_of_ble_eq_true rfl) ⟨by decide, by decide⟩ ?_
        exact wa_iret dX9_laws_70 rfl ⟨congrArg (fun z => some (Value.int z)) (rfl), by rw [show l = 4 by omega]; rfl⟩
      · refine wa_aload_n dX9_laws_9 rfl 2 rfl ?_
        refine wa_getr gX9_laws_10 (rfl) rfl ?_
        refine wa_getr gX9_laws_13 (rfl) rfl ?_
        refine wa_iload_n dX9_laws_16 rfl 0 rfl ?_
        refine wa_cVi (m_hasN 29 4 3 TB_laws l c_6) vX5_has iX9_laws_17 (rfl) rfl rfl rfl (Nat.le_of_ble_eq_true rfl) ⟨by decide, by decide⟩ ?_
        refine wa_if_eqB 45 dX9_laws_20 (by decide) (fun (c_20 : (!decide (M.1 35 l = -1)) = false) => ?_) (fun (c_20 : (!decide (M.1 35 l = -1)) = true) => ?_)
        · have hb : lvP M w h s l = false := by unfold lvP; rw [show (!decide (M.1 35 l = -1)) = false from c_20]; rfl
          refine wa_iinc ((nI (l + 1))) [(2, .int (nI (l + 1))), (1, .int (nI (wBits (lvP M w h s) l))), (0, wm_r G (0))] dX9_laws_45 0 rfl (nI_inc _) (by decide) rfl ?_
          refine wa_goto 4 dX9_laws_48 (by decide) ?_
          first | rw [wBits_f hb] | skip
          exact ih_4 (l + 1) (by omega) (by omega)
        · have h35 : ¬ M.1 35 l = -1 := fun e => by rw [show M.1 (29 + 2 + 4) l = -1 from e] at c_20; exact absurd c_20 (by decide)
          obtain ⟨z, hLz, -⟩ : ∃ z, LZ M l z ∧ ∀ i, i < z → ∃ x, x < 8 ∧ M.1 (31 + l) i = nI x := (hLw l c_6).resolve_left h35
          have hc35 : (M.1 35 l).toNatClampNeg = z := by rw [hLz.2.1, nI_clamp (by have := hLz.2.2.2; omega)]
          have hlv : lvl M w h l s ≤ 3 := levB_le
          refine wa_aload_n dX9_laws_23 rfl 2 rfl ?_
          refine wa_getr gX9_laws_24 (rfl) rfl ?_
          refine wa_iload_n dX9_laws_27 rfl 0 rfl ?_
          refine wa_aload_n dX9_laws_28 rfl 2 rfl ?_
          refine wa_geti gX9_laws_29 (rfl) rfl ?_
          refine wa_eqi (y := (nI (s))) (h12) ?_
          refine wa_cVi (m_level w h hW l z hLz s hs) vX0_level iX9_laws_32 (rfl) rfl rfl rfl (Nat.le_of_ble_eq_true rfl) ⟨by decide, by decide⟩ ?_
          refine wa_eqi (y := (nI (lvl M w h l s))) (by unfold lvl; rw [hc35]) ?_
          refine wa_iconst (1) dX9_laws_35 (by decide) ?_
          refine wa_icmp_ltN (a := lvl M w h l s) (b := 1) 45 dX9_laws_36 (by decide) (by omega) (by omega) (fun c_36 => ?_) (fun c_36 => ?_)
          · have hb : lvP M w h s l = false := by unfold lvP; rw [decide_eq_false (show ¬ 1 ≤ lvl M w h l s by omega), Bool.and_false]
            refine wa_iinc ((nI (l + 1))) [(2, .int (nI (l + 1))), (1, .int (nI (wBits (lvP M w h s) l))), (0, wm_r G (0))] dX9_laws_45 0 rfl (nI_inc _) (by decide) rfl ?_
            refine wa_goto 4 dX9_laws_48 (by decide) ?_
            first | rw [wBits_f hb] | skip
            exact ih_4 (l + 1) (by omega) (by omega)
          · have hb : lvP M w h s l = true := by unfold lvP; rw [decide_eq_true (show 1 ≤ lvl M w h l s by omega), decide_eq_false h35]; rfl
            refine wa_iload_n dX9_laws_39 rfl 1 rfl ?_
            refine wa_iconst (1) dX9_laws_40 (by decide) ?_
            refine wa_iload_n dX9_laws_41 rfl 0 rfl ?_
            refine wa_ishl dX9_laws_42 ?_
            refine wa_ior dX9_laws_43 ?_
            refine wa_eqi (y := (nI (wBits (lvP M w h s) (l + 1)))) (wBits_t hb (by omega)) ?_
            refine wa_istore_n [(1, .int (nI (wBits (lvP M w h s) (l + 1)))), (2, .int (nI (l))), (0, wm_r G (0))] dX9_laws_44 rfl (by decide) rfl ?_
            refine wa_iinc ((nI (l + 1))) [(2, .int (nI (l + 1))), (1, .int (nI (wBits (lvP M w h s) (l + 1)))), (0, wm_r G (0))] dX9_laws_45 1 rfl (nI_inc _) (by decide) rfl ?_
            refine wa_goto 4 dX9_laws_48 (by decide) ?_
            first | rw [wBits_f hb] | skip
            exact ih_4 (l + 1) (by omega) (by omega)
  exact L_4 _ 0 (Nat.lt_succ_self _) (Nat.zero_le _)

theorem m_mayTurn {G : wm_G} {M : wm_M} (w h rn s yr : Nat) (ci : CI M w h rn s yr) (k : Int32) : MD G t_X9_mayTurn [wm_r G (0), .int (k)] (M) (some (.int (wB (mtB M (w * h) k)))) (M) := by
  obtain ⟨⟨hW, hwh⟩, hSt, ⟨h12, h13, hyr, hs4, hsh⟩, hRo, hTx, hLw, hKp, hRO, ⟨hL1, hL10, hL29, hL58⟩, hSe, hDy⟩ := id ci
  have hn6 := TW_n hW
  have hs : s < 4096 := Nat.lt_of_lt_of_le hs4 (p4_le hn6)
  have hw3 := hW.2.2.1
  have hh2 := hW.2.2.2
  refine wm_met (by decide) (Nat.le_of_ble_eq_true rfl) ?_
  show WA G t_X9_mayTurn (fun v_ N_ => v_ = some (.int (wB (mtB M (w * h) k))) ∧ N_ = M) 0 [(0, wm_r G (0)), (1, .int (k))] [] (M)
  refine wa_iload_n dX9_mayTurn_0 rfl 1 rfl ?_
  refine wa_bipush (-9) dX9_mayTurn_1 (by decide) ?_
  refine wa_icmp_eq 29 dX9_mayTurn_3 (by decide) (fun c_3 => ?_) (fun c_3 => ?_)
  · refine wa_iconst (1) dX9_mayTurn_29 (by decide) ?_
    refine wa_goto 34 dX9_mayTurn_30 (by decide) ?_
    exact wa_zret dX9_mayTurn_34 rfl (by decide) ⟨congrArg (fun z => some (Value.int z)) (by unfold mtB; first | (rw [decide_eq_true c_3]; rfl) | (rw [decide_eq_false c_3, c_14]; rfl) | (rw [decide_eq_false c_3, c_14, nI_clamp (by omega), ← isOfB_fix, show isOfB (M.1 18 j) 2 = _ from c_26]; rfl)), rfl⟩
  · refine wa_aload_n dX9_mayTurn_6 rfl 0 rfl ?_
    refine wa_getr gX9_mayTurn_7 (rfl) rfl ?_
    refine wa_iload_n dX9_mayTurn_10 rfl 1 rfl ?_
    refine wa_cVi (m_sknows w h hW k) vX4_knows iX9_mayTurn_11 (rfl) rfl rfl rfl (Nat.le_of_ble_eq_true rfl) ⟨by decide, by decide⟩ ?_
    refine wa_if_eqB 33 dX9_mayTurn_14 (by decide) (fun (c_14 : (wIn k (w * h)) = false) => ?_) (fun (c_14 : (wIn k (w * h)) = true) => ?_)
    · refine wa_iconst (0) dX9_mayTurn_33 (by decide) ?_
      exact wa_zret dX9_mayTurn_34 rfl (by decide) ⟨congrArg (fun z => some (Value.int z)) (by unfold mtB; first | (rw [decide_eq_true c_3]; rfl) | (rw [decide_eq_false c_3, c_14]; rfl) | (rw [decide_eq_false c_3, c_14, nI_clamp (by omega), ← isOfB_fix, show isOfB (M.1 18 j) 2 = _ from c_26]; rfl)), rfl⟩
    · obtain ⟨j, hj, hkj⟩ := wIn_ex (by omega) c_14
      subst hkj
      refine wa_aload_n dX9_mayTurn_17 rfl 0 rfl ?_
      refine wa_getr gX9_mayTurn_18 (rfl) rfl ?_
      refine wa_iload_n dX9_mayTurn_21 rfl 1 rfl ?_
      refine wa_iconst (2) dX9_mayTurn_22 (by decide) ?_
      refine wa_cVi (m_isOf 17 SO_17 j 2 (by omega)) vX4_isOf iX9_mayTurn_23 (rfl) rfl rfl rfl (Nat.le_of_ble_eq_true rfl) ⟨by decide, by decide⟩ ?_
      refine wa_if_neB 33 dX9_mayTurn_26 (by decide) (fun (c_26 : (isOfB (M.1 18 j) 2) = true) => ?_) (fun (c_26 : (isOfB (M.1 18 j) 2) = false) => ?_)
      · refine wa_iconst (0) dX9_mayTurn_33 (by decide) ?_
        exact wa_zret dX9_mayTurn_34 rfl (by decide) ⟨congrArg (fun z => some (Value.int z)) (by unfold mtB; first | (rw [decide_eq_true c_3]; rfl) | (rw [decide_eq_false c_3, c_14]; rfl) | (rw [decide_eq_false c_3, c_14, nI_clamp (by omega), ← isOfB_fix, show isOfB (M.1 18 j) 2 = _ from c_26]; rfl)), rfl⟩
      · refine wa_iconst (1) dX9_mayTurn_29 (by decide) ?_
        refine wa_goto 34 dX9_mayTurn_30 (by decide) ?_
        exact wa_zret dX9_mayTurn_34 rfl (by decide) ⟨congrArg (fun z => some (Value.int z)) (by unfold mtB; first | (rw [decide_eq_true c_3]; rfl) | (rw [decide_eq_false c_3, c_14]; rfl) | (rw [decide_eq_false c_3, c_14, nI_clamp (by omega), ← isOfB_fix, show isOfB (M.1 18 j) 2 = _ from c_26]; rfl)), rfl⟩

theorem m_pass9 {G : wm_G} {M : wm_M} (w h rn s yr : Nat) (ci : CI M w h rn s yr) : MD G t_X9_passYear [wm_r G (0), .int (-9)] (M) (none) (wI M 0 13 (nI (yr + 1))) := by
  obtain ⟨⟨hW, hwh⟩, hSt, ⟨h12, h13, hyr, hs4, hsh⟩, hRo, hTx, hLw, hKp, hRO, ⟨hL1, hL10, hL29, hL58⟩, hSe, hDy⟩ := id ci
  have hn6 := TW_n hW
  have hs : s < 4096 := Nat.lt_of_lt_of_le hs4 (p4_le hn6)
  have hw3 := hW.2.2.1
  have hh2 := hW.2.2.2
  refine wm_met (by decide) (Nat.le_of_ble_eq_true rfl) ?_
  show WA G t_X9_passYear (fun v_ N_ => v_ = none ∧ N_ = wI M 0 13 (nI (yr + 1))) 0 [(0, wm_r G (0)), (1, .int (-9))] [] (M)
  refine wa_iload_n dX9_passYear_0 rfl 1 rfl ?_
  refine wa_bipush (-9) dX9_passYear_1 (by decide) ?_
  refine wa_icmp_eq 22 dX9_passYear_3 (by decide) (fun c_3 => ?_) (fun c_3 => absurd c_3 (by decide))
  refine wa_aload_n dX9_passYear_22 rfl 0 rfl ?_
  refine wa_dup dX9_passYear_23 rfl ?_
  refine wa_geti gX9_passYear_24 (rfl) rfl ?_
  refine wa_eqi (y := (nI (yr))) (h13) ?_
  refine wa_iconst (1) dX9_passYear_27 (by decide) ?_
  refine wa_iaddN (a := yr) (b := 1) dX9_passYear_28 ?_
  refine wa_puti gX9_passYear_29 (rfl) rfl ?_
  exact wa_vret dX9_passYear_32 rfl ⟨rfl, rfl⟩

theorem m_passk {G : wm_G} {M : wm_M} (w h rn s yr : Nat) (ci : CI M w h rn s yr) (k : Nat) (hk : k < w * h) : MD G t_X9_passYear [wm_r G (0), .int (nI (k))] (M) (none) (wI (wI M 0 12 (nI (sMv s k (sStep (M.1 18 k))))) 0 13 (nI (yr + 1))) := by
  obtain ⟨⟨hW, hwh⟩, hSt, ⟨h12, h13, hyr, hs4, hsh⟩, hRo, hTx, hLw, hKp, hRO, ⟨hL1, hL10, hL29, hL58⟩, hSe, hDy⟩ := id ci
  have hn6 := TW_n hW
  have hs : s < 4096 := Nat.lt_of_lt_of_le hs4 (p4_le hn6)
  have hw3 := hW.2.2.1
  have hh2 := hW.2.2.2
  refine wm_met (by decide) (Nat.le_of_ble_eq_true rfl) ?_
  show WA G t_X9_passYear (fun v_ N_ => v_ = none ∧ N_ = wI (wI M 0 12 (nI (sMv s k (sStep (M.1 18 k))))) 0 13 (nI (yr + 1))) 0 [(0, wm_r G (0)), (1, .int (nI (k)))] [] (M)
  refine wa_iload_n dX9_passYear_0 rfl 1 rfl ?_
  refine wa_bipush (-9) dX9_passYear_1 (by decide) ?_
  refine wa_icmp_eq 22 dX9_passYear_3 (by decide) (fun c_3 => absurd c_3 (nI_ne9 (by omega))) (fun c_3 => ?_)
  refine wa_aload_n dX9_passYear_6 rfl 0 rfl ?_
  refine wa_aload_n dX9_passYear_7 rfl 0 rfl ?_
  refine wa_getr gX9_passYear_8 (rfl) rfl ?_
  refine wa_aload_n dX9_passYear_11 rfl 0 rfl ?_
  refine wa_geti gX9_passYear_12 (rfl) rfl ?_
  refine wa_eqi (y := (nI (s))) (h12) ?_
  refine wa_iload_n dX9_passYear_15 rfl 1 rfl ?_
  refine wa_cVi (m_moved s k hs (by omega)) vX4_moved iX9_passYear_16 (rfl) rfl rfl rfl (Nat.le_of_ble_eq_true rfl) ⟨by decide, by decide⟩ ?_
  refine wa_puti gX9_passYear_19 (rfl) rfl ?_
  refine wa_aload_n dX9_passYear_22 rfl 0 rfl ?_
  refine wa_dup dX9_passYear_23 rfl ?_
  refine wa_geti gX9_passYear_24 (rfl) rfl ?_
  refine wa_eqi (y := (nI (yr))) (by rw [wI_ne (by decide)]; exact h13) ?_
  refine wa_iconst (1) dX9_passYear_27 (by decide) ?_
  refine wa_iaddN (a := yr) (b := 1) dX9_passYear_28 ?_
  refine wa_puti gX9_passYear_29 (rfl) rfl ?_
  exact wa_vret dX9_passYear_32 rfl ⟨rfl, rfl⟩

theorem c_turn_bad {G : wm_G} {M : wm_M} (w h rn s yr : Nat) (ci : CI M w h rn s yr) (k : Int32) (hk9 : ¬ k = -9) (hk : wIn k (w * h) = false) : MD G t_X9_turn [wm_r G (0), .int (k)] (M) (some (.int (-1))) (M) := by
  obtain ⟨⟨hW, hwh⟩, hSt, ⟨h12, h13, hyr, hs4, hsh⟩, hRo, hTx, hLw, hKp, hRO, ⟨hL1, hL10, hL29, hL58⟩, hSe, hDy⟩ := id ci
  have hn6 := TW_n hW
  have hs : s < 4096 := Nat.lt_of_lt_of_le hs4 (p4_le hn6)
  have hw3 := hW.2.2.1
  have hh2 := hW.2.2.2
  refine wm_met (by decide) (Nat.le_of_ble_eq_true rfl) ?_
  show WA G t_X9_turn (fun v_ N_ => v_ = some (.int (-1)) ∧ N_ = M) 0 [(0, wm_r G (0)), (1, .int (k))] [] (M)
  refine wa_iload_n dX9_turn_0 rfl 1 rfl ?_
  refine wa_bipush (-9) dX9_turn_1 (by decide) ?_
  refine wa_icmp_eq 19 dX9_turn_3 (by decide) (fun c_3 => absurd c_3 hk9) (fun c_3 => ?_)
  refine wa_aload_n dX9_turn_6 rfl 0 rfl ?_
  refine wa_getr gX9_turn_7 (rfl) rfl ?_
  refine wa_iload_n dX9_turn_10 rfl 1 rfl ?_
  refine wa_cVi (m_sknows w h hW k) vX4_knows iX9_turn_11 (rfl) rfl rfl rfl (Nat.le_of_ble_eq_true rfl) ⟨by decide, by decide⟩ ?_
  refine wa_eqi (y := (0)) (by rw [hk]; rfl) ?_
  refine wa_if_ne 19 dX9_turn_14 (by decide) (fun c_14 => absurd c_14 (by decide)) (fun c_14 => ?_)
  refine wa_iconst (-1) dX9_turn_17 (by decide) ?_
  exact wa_iret dX9_turn_18 rfl ⟨congrArg (fun z => some (Value.int z)) (rfl), rfl⟩

theorem c_turn_un {G : wm_G} {M : wm_M} (w h rn s yr : Nat) (ci : CI M w h rn s yr) (k : Nat) (hk : k < w * h) (hm : mtB M (w * h) (nI k) = false) : MD G t_X9_turn [wm_r G (0), .int (nI (k))] (M) (some (.int (-3))) (tNote M 3) := by
  obtain ⟨⟨hW, hwh⟩, hSt, ⟨h12, h13, hyr, hs4, hsh⟩, hRo, hTx, hLw, hKp, hRO, ⟨hL1, hL10, hL29, hL58⟩, hSe, hDy⟩ := id ci
  have hn6 := TW_n hW
  have hs : s < 4096 := Nat.lt_of_lt_of_le hs4 (p4_le hn6)
  have hw3 := hW.2.2.1
  have hh2 := hW.2.2.2
  refine wm_met (by decide) (Nat.le_of_ble_eq_true rfl) ?_
  show WA G t_X9_turn (fun v_ N_ => v_ = some (.int (-3)) ∧ N_ = tNote M 3) 0 [(0, wm_r G (0)), (1, .int (nI (k)))] [] (M)
  refine wa_iload_n dX9_turn_0 rfl 1 rfl ?_
  refine wa_bipush (-9) dX9_turn_1 (by decide) ?_
  refine wa_icmp_eq 19 dX9_turn_3 (by decide) (fun c_3 => absurd c_3 (nI_ne9 (by omega))) (fun c_3 => ?_)
  refine wa_aload_n dX9_turn_6 rfl 0 rfl ?_
  refine wa_getr gX9_turn_7 (rfl) rfl ?_
  refine wa_iload_n dX9_turn_10 rfl 1 rfl ?_
  refine wa_cVi (m_sknowsN w h hW k (by omega)) vX4_knows iX9_turn_11 (rfl) rfl rfl rfl (Nat.le_of_ble_eq_true rfl) ⟨by decide, by decide⟩ ?_
  refine wa_eqi (y := (1)) (by rw [decide_eq_true hk]; rfl) ?_
  refine wa_if_ne 19 dX9_turn_14 (by decide) (fun c_14 => ?_) (fun c_14 => absurd c_14 (by decide))
  refine wa_aload_n dX9_turn_19 rfl 0 rfl ?_
  refine wa_iload_n dX9_turn_20 rfl 1 rfl ?_
  refine wa_cVi (m_mayTurn w h rn s yr ci (nI k)) vX9_mayTurn iX9_turn_21 (rfl) rfl rfl rfl (Nat.le_of_ble_eq_true rfl) ⟨by decide, by decide⟩ ?_
  refine wa_eqi (y := (0)) (by rw [hm]; rfl) ?_
  refine wa_if_ne 33 dX9_turn_24 (by decide) (fun c_24 => absurd c_24 (by decide)) (fun c_24 => ?_)
  refine wa_aload_n dX9_turn_27 rfl 0 rfl ?_
  refine wa_iconst (3) dX9_turn_28 (by decide) ?_
  refine wa_cVi (m_find 3 (by decide) (by decide)) vX9_find iX9_turn_29 (rfl) rfl rfl rfl (Nat.le_of_ble_eq_true rfl) ⟨by decide, by decide⟩ ?_
  exact wa_iret dX9_turn_32 rfl ⟨congrArg (fun z => some (Value.int z)) (rfl), rfl⟩

theorem c_turn_sp {G : wm_G} {M : wm_M} (w h rn s yr : Nat) (ci : CI M w h rn s yr) (k : Nat) (hk : k < w * h) (hm : mtB M (w * h) (nI k) = true) (hy : yr = 999) : MD G t_X9_turn [wm_r G (0), .int (nI (k))] (M) (some (.int (-6))) (M) := by
  obtain ⟨⟨hW, hwh⟩, hSt, ⟨h12, h13, hyr, hs4, hsh⟩, hRo, hTx, hLw, hKp, hRO, ⟨hL1, hL10, hL29, hL58⟩, hSe, hDy⟩ := id ci
  have hn6 := TW_n hW
  have hs : s < 4096 := Nat.lt_of_lt_of_le hs4 (p4_le hn6)
  have hw3 := hW.2.2.1
  have hh2 := hW.2.2.2
  refine wm_met (by decide) (Nat.le_of_ble_eq_true rfl) ?_
  show WA G t_X9_turn (fun v_ N_ => v_ = some (.int (-6)) ∧ N_ = M) 0 [(0, wm_r G (0)), (1, .int (nI (k)))] [] (M)
  refine wa_iload_n dX9_turn_0 rfl 1 rfl ?_
  refine wa_bipush (-9) dX9_turn_1 (by decide) ?_
  refine wa_icmp_eq 19 dX9_turn_3 (by decide) (fun c_3 => absurd c_3 (nI_ne9 (by omega))) (fun c_3 => ?_)
  refine wa_aload_n dX9_turn_6 rfl 0 rfl ?_
  refine wa_getr gX9_turn_7 (rfl) rfl ?_
  refine wa_iload_n dX9_turn_10 rfl 1 rfl ?_
  refine wa_cVi (m_sknowsN w h hW k (by omega)) vX4_knows iX9_turn_11 (rfl) rfl rfl rfl (Nat.le_of_ble_eq_true rfl) ⟨by decide, by decide⟩ ?_
  refine wa_eqi (y := (1)) (by rw [decide_eq_true hk]; rfl) ?_
  refine wa_if_ne 19 dX9_turn_14 (by decide) (fun c_14 => ?_) (fun c_14 => absurd c_14 (by decide))
  refine wa_aload_n dX9_turn_19 rfl 0 rfl ?_
  refine wa_iload_n dX9_turn_20 rfl 1 rfl ?_
  refine wa_cVi (m_mayTurn w h rn s yr ci (nI k)) vX9_mayTurn iX9_turn_21 (rfl) rfl rfl rfl (Nat.le_of_ble_eq_true rfl) ⟨by decide, by decide⟩ ?_
  refine wa_eqi (y := (1)) (by rw [hm]; rfl) ?_
  refine wa_if_ne 33 dX9_turn_24 (by decide) (fun c_24 => ?_) (fun c_24 => absurd c_24 (by decide))
  refine wa_aload_n dX9_turn_33 rfl 0 rfl ?_
  refine wa_geti gX9_turn_34 (rfl) rfl ?_
  refine wa_eqi (y := (nI (yr))) (h13) ?_
  refine wa_sipush (999) dX9_turn_37 (by decide) ?_
  refine wa_icmp_ltN (a := yr) (b := 999) 46 dX9_turn_40 (by decide) (by omega) (by omega) (fun c_40 => absurd c_40 (by omega)) (fun c_40 => ?_)
  refine wa_bipush (-6) dX9_turn_43 (by decide) ?_
  exact wa_iret dX9_turn_45 rfl ⟨congrArg (fun z => some (Value.int z)) (rfl), rfl⟩

theorem c_turn_ok {G : wm_G} {M : wm_M} (w h rn s yr : Nat) (ci : CI M w h rn s yr) (k : Nat) (hk : k < w * h) (hm : mtB M (w * h) (nI k) = true) (hy : yr < 999) : MD G t_X9_turn [wm_r G (0), .int (nI (k))] (M) (some (.int (nI (yr + 1)))) (wI (wI M 0 12 (nI (sMv s k (sStep (M.1 18 k))))) 0 13 (nI (yr + 1))) := by
  obtain ⟨⟨hW, hwh⟩, hSt, ⟨h12, h13, hyr, hs4, hsh⟩, hRo, hTx, hLw, hKp, hRO, ⟨hL1, hL10, hL29, hL58⟩, hSe, hDy⟩ := id ci
  have hn6 := TW_n hW
  have hs : s < 4096 := Nat.lt_of_lt_of_le hs4 (p4_le hn6)
  have hw3 := hW.2.2.1
  have hh2 := hW.2.2.2
  refine wm_met (by decide) (Nat.le_of_ble_eq_true rfl) ?_
  show WA G t_X9_turn (fun v_ N_ => v_ = some (.int (nI (yr + 1))) ∧ N_ = wI (wI M 0 12 (nI (sMv s k (sStep (M.1 18 k))))) 0 13 (nI (yr + 1))) 0 [(0, wm_r G (0)), (1, .int (nI (k)))] [] (M)
  refine wa_iload_n dX9_turn_0 rfl 1 rfl ?_
  refine wa_bipush (-9) dX9_turn_1 (by decide) ?_
  refine wa_icmp_eq 19 dX9_turn_3 (by decide) (fun c_3 => absurd c_3 (nI_ne9 (by omega))) (fun c_3 => ?_)
  refine wa_aload_n dX9_turn_6 rfl 0 rfl ?_
  refine wa_getr gX9_turn_7 (rfl) rfl ?_
  refine wa_iload_n dX9_turn_10 rfl 1 rfl ?_
  refine wa_cVi (m_sknowsN w h hW k (by omega)) vX4_knows iX9_turn_11 (rfl) rfl rfl rfl (Nat.le_of_ble_eq_true rfl) ⟨by decide, by decide⟩ ?_
  refine wa_eqi (y := (1)) (by rw [decide_eq_true hk]; rfl) ?_
  refine wa_if_ne 19 dX9_turn_14 (by decide) (fun c_14 => ?_) (fun c_14 => absurd c_14 (by decide))
  refine wa_aload_n dX9_turn_19 rfl 0 rfl ?_
  refine wa_iload_n dX9_turn_20 rfl 1 rfl ?_
  refine wa_cVi (m_mayTurn w h rn s yr ci (nI k)) vX9_mayTurn iX9_turn_21 (rfl) rfl rfl rfl (Nat.le_of_ble_eq_true rfl) ⟨by decide, by decide⟩ ?_
  refine wa_eqi (y := (1)) (by rw [hm]; rfl) ?_
  refine wa_if_ne 33 dX9_turn_24 (by decide) (fun c_24 => ?_) (fun c_24 => absurd c_24 (by decide))
  refine wa_aload_n dX9_turn_33 rfl 0 rfl ?_
  refine wa_geti gX9_turn_34 (rfl) rfl ?_
  refine wa_eqi (y := (nI (yr))) (h13) ?_
  refine wa_sipush (999) dX9_turn_37 (by decide) ?_
  refine wa_icmp_ltN (a := yr) (b := 999) 46 dX9_turn_40 (by decide) (by omega) (by omega) (fun c_40 => ?_) (fun c_40 => absurd c_40 (by omega))
  refine wa_aload_n dX9_turn_46 rfl 0 rfl ?_
  refine wa_iload_n dX9_turn_47 rfl 1 rfl ?_
  refine wa_cVv (m_passk w h rn s yr ci k hk) vX9_passYear iX9_turn_48 (rfl) rfl rfl rfl (Nat.le_of_ble_eq_true rfl) ⟨by decide, by decide⟩ ?_
  refine wa_aload_n dX9_turn_51 rfl 0 rfl ?_
  refine wa_geti gX9_turn_52 (rfl) rfl ?_
  refine wa_eqi (y := (nI (yr + 1))) (wI_at) ?_
  exact wa_iret dX9_turn_55 rfl ⟨congrArg (fun z => some (Value.int z)) (rfl), rfl⟩

theorem c_turn9_sp {G : wm_G} {M : wm_M} (w h rn s yr : Nat) (ci : CI M w h rn s yr) (hy : yr = 999) : MD G t_X9_turn [wm_r G (0), .int (-9)] (M) (some (.int (-6))) (M) := by
  obtain ⟨⟨hW, hwh⟩, hSt, ⟨h12, h13, hyr, hs4, hsh⟩, hRo, hTx, hLw, hKp, hRO, ⟨hL1, hL10, hL29, hL58⟩, hSe, hDy⟩ := id ci
  have hn6 := TW_n hW
  have hs : s < 4096 := Nat.lt_of_lt_of_le hs4 (p4_le hn6)
  have hw3 := hW.2.2.1
  have hh2 := hW.2.2.2
  refine wm_met (by decide) (Nat.le_of_ble_eq_true rfl) ?_
  show WA G t_X9_turn (fun v_ N_ => v_ = some (.int (-6)) ∧ N_ = M) 0 [(0, wm_r G (0)), (1, .int (-9))] [] (M)
  refine wa_iload_n dX9_turn_0 rfl 1 rfl ?_
  refine wa_bipush (-9) dX9_turn_1 (by decide) ?_
  refine wa_icmp_eq 19 dX9_turn_3 (by decide) (fun c_3 => ?_) (fun c_3 => absurd c_3 (by decide))
  refine wa_aload_n dX9_turn_19 rfl 0 rfl ?_
  refine wa_iload_n dX9_turn_20 rfl 1 rfl ?_
  refine wa_cVi (m_mayTurn w h rn s yr ci (-9)) vX9_mayTurn iX9_turn_21 (rfl) rfl rfl rfl (Nat.le_of_ble_eq_true rfl) ⟨by decide, by decide⟩ ?_
  refine wa_eqi (y := (1)) (by rfl) ?_
  refine wa_if_ne 33 dX9_turn_24 (by decide) (fun c_24 => ?_) (fun c_24 => absurd c_24 (by decide))
  refine wa_aload_n dX9_turn_33 rfl 0 rfl ?_
  refine wa_geti gX9_turn_34 (rfl) rfl ?_
  refine wa_eqi (y := (nI (yr))) (h13) ?_
  refine wa_sipush (999) dX9_turn_37 (by decide) ?_
  refine wa_icmp_ltN (a := yr) (b := 999) 46 dX9_turn_40 (by decide) (by omega) (by omega) (fun c_40 => absurd c_40 (by omega)) (fun c_40 => ?_)
  refine wa_bipush (-6) dX9_turn_43 (by decide) ?_
  exact wa_iret dX9_turn_45 rfl ⟨congrArg (fun z => some (Value.int z)) (rfl), rfl⟩

theorem c_turn9_ok {G : wm_G} {M : wm_M} (w h rn s yr : Nat) (ci : CI M w h rn s yr) (hy : yr < 999) : MD G t_X9_turn [wm_r G (0), .int (-9)] (M) (some (.int (nI (yr + 1)))) (wI M 0 13 (nI (yr + 1))) := by
  obtain ⟨⟨hW, hwh⟩, hSt, ⟨h12, h13, hyr, hs4, hsh⟩, hRo, hTx, hLw, hKp, hRO, ⟨hL1, hL10, hL29, hL58⟩, hSe, hDy⟩ := id ci
  have hn6 := TW_n hW
  have hs : s < 4096 := Nat.lt_of_lt_of_le hs4 (p4_le hn6)
  have hw3 := hW.2.2.1
  have hh2 := hW.2.2.2
  refine wm_met (by decide) (Nat.le_of_ble_eq_true rfl) ?_
  show WA G t_X9_turn (fun v_ N_ => v_ = some (.int (nI (yr + 1))) ∧ N_ = wI M 0 13 (nI (yr + 1))) 0 [(0, wm_r G (0)), (1, .int (-9))] [] (M)
  refine wa_iload_n dX9_turn_0 rfl 1 rfl ?_
  refine wa_bipush (-9) dX9_turn_1 (by decide) ?_
  refine wa_icmp_eq 19 dX9_turn_3 (by decide) (fun c_3 => ?_) (fun c_3 => absurd c_3 (by decide))
  refine wa_aload_n dX9_turn_19 rfl 0 rfl ?_
  refine wa_iload_n dX9_turn_20 rfl 1 rfl ?_
  refine wa_cVi (m_mayTurn w h rn s yr ci (-9)) vX9_mayTurn iX9_turn_21 (rfl) rfl rfl rfl (Nat.le_of_ble_eq_true rfl) ⟨by decide, by decide⟩ ?_
  refine wa_eqi (y := (1)) (by rfl) ?_
  refine wa_if_ne 33 dX9_turn_24 (by decide) (fun c_24 => ?_) (fun c_24 => absurd c_24 (by decide))
  refine wa_aload_n dX9_turn_33 rfl 0 rfl ?_
  refine wa_geti gX9_turn_34 (rfl) rfl ?_
  refine wa_eqi (y := (nI (yr))) (h13) ?_
  refine wa_sipush (999) dX9_turn_37 (by decide) ?_
  refine wa_icmp_ltN (a := yr) (b := 999) 46 dX9_turn_40 (by decide) (by omega) (by omega) (fun c_40 => ?_) (fun c_40 => absurd c_40 (by omega))
  refine wa_aload_n dX9_turn_46 rfl 0 rfl ?_
  refine wa_iload_n dX9_turn_47 rfl 1 rfl ?_
  refine wa_cVv (m_pass9 w h rn s yr ci) vX9_passYear iX9_turn_48 (rfl) rfl rfl rfl (Nat.le_of_ble_eq_true rfl) ⟨by decide, by decide⟩ ?_
  refine wa_aload_n dX9_turn_51 rfl 0 rfl ?_
  refine wa_geti gX9_turn_52 (rfl) rfl ?_
  refine wa_eqi (y := (nI (yr + 1))) (wI_at) ?_
  exact wa_iret dX9_turn_55 rfl ⟨congrArg (fun z => some (Value.int z)) (rfl), rfl⟩

theorem c_keep_bad {G : wm_G} {M : wm_M} (k : Int32) (hk : wIn k 3 = false) : MD G t_X9_keep [wm_r G (0), .int (k)] (M) (some (.int (-1))) (M) := by
  refine wm_met (by decide) (Nat.le_of_ble_eq_true rfl) ?_
  show WA G t_X9_keep (fun v_ N_ => v_ = some (.int (-1)) ∧ N_ = M) 0 [(0, wm_r G (0)), (1, .int (k))] [] (M)
  refine wa_iload_n dX9_keep_0 rfl 1 rfl ?_
  refine wa_if_lt 9 dX9_keep_1 (by decide) (fun c_1 => ?_) (fun c_1 => ?_)
  · refine wa_iconst (-1) dX9_keep_9 (by decide) ?_
    exact wa_iret dX9_keep_10 rfl ⟨congrArg (fun z => some (Value.int z)) (rfl), rfl⟩
  · refine wa_iload_n dX9_keep_4 rfl 1 rfl ?_
    refine wa_iconst (3) dX9_keep_5 (by decide) ?_
    refine wa_icmp_lt 11 dX9_keep_6 (by decide) (fun c_6 => absurd (wIn_lt (m := 3) (by decide) c_1 c_6) (by rw [hk]; decide)) (fun c_6 => ?_)
    refine wa_iconst (-1) dX9_keep_9 (by decide) ?_
    exact wa_iret dX9_keep_10 rfl ⟨congrArg (fun z => some (Value.int z)) (rfl), rfl⟩

theorem c_keep_st {G : wm_G} {M : wm_M} (w h rn s yr : Nat) (ci : CI M w h rn s yr) (k : Nat) (hk : k < 3) (hn : w * h = 0) : MD G t_X9_keep [wm_r G (0), .int (nI (k))] (M) (some (.int (-4))) (M) := by
  obtain ⟨⟨hW, hwh⟩, hSt, ⟨h12, h13, hyr, hs4, hsh⟩, hRo, hTx, hLw, hKp, hRO, ⟨hL1, hL10, hL29, hL58⟩, hSe, hDy⟩ := id ci
  have hn6 := TW_n hW
  have hs : s < 4096 := Nat.lt_of_lt_of_le hs4 (p4_le hn6)
  have hw3 := hW.2.2.1
  have hh2 := hW.2.2.2
  refine wm_met (by decide) (Nat.le_of_ble_eq_true rfl) ?_
  show WA G t_X9_keep (fun v_ N_ => v_ = some (.int (-4)) ∧ N_ = M) 0 [(0, wm_r G (0)), (1, .int (nI (k)))] [] (M)
  refine wa_iload_n dX9_keep_0 rfl 1 rfl ?_
  refine wa_if_ltN (a := k) 9 dX9_keep_1 (by decide) (by omega) (fun c_1 => absurd c_1 (by omega)) (fun c_1 => ?_)
  refine wa_iload_n dX9_keep_4 rfl 1 rfl ?_
  refine wa_iconst (3) dX9_keep_5 (by decide) ?_
  refine wa_icmp_ltN (a := k) (b := 3) 11 dX9_keep_6 (by decide) (by omega) (by omega) (fun c_6 => ?_) (fun c_6 => absurd c_6 (by omega))
  refine wa_aload_n dX9_keep_11 rfl 0 rfl ?_
  refine wa_getr gX9_keep_12 (rfl) rfl ?_
  refine wa_cVi (m_number 17 w h SO_17 hW.1 hW.2.1) vX4_number iX9_keep_15 (rfl) rfl rfl rfl (Nat.le_of_ble_eq_true rfl) ⟨by decide, by decide⟩ ?_
  refine wa_if_neN (a := w * h) 24 dX9_keep_18 (by decide) (by omega) (fun c_18 => absurd hn c_18) (fun c_18 => ?_)
  refine wa_bipush (-4) dX9_keep_21 (by decide) ?_
  exact wa_iret dX9_keep_23 rfl ⟨congrArg (fun z => some (Value.int z)) (rfl), rfl⟩

theorem c_keep_ok {G : wm_G} {M : wm_M} (w h rn s yr : Nat) (ci : CI M w h rn s yr) (k : Nat) (hk : k < 3) (hn : ¬ w * h = 0) : MD G t_X9_keep [wm_r G (0), .int (nI (k))] (M) (some (.int (nI (yr)))) (wI (wI M 94 k (nI s)) 95 k (nI yr)) := by
  obtain ⟨⟨hW, hwh⟩, hSt, ⟨h12, h13, hyr, hs4, hsh⟩, hRo, hTx, hLw, hKp, hRO, ⟨hL1, hL10, hL29, hL58⟩, hSe, hDy⟩ := id ci
  have hn6 := TW_n hW
  have hs : s < 4096 := Nat.lt_of_lt_of_le hs4 (p4_le hn6)
  have hw3 := hW.2.2.1
  have hh2 := hW.2.2.2
  refine wm_met (by decide) (Nat.le_of_ble_eq_true rfl) ?_
  show WA G t_X9_keep (fun v_ N_ => v_ = some (.int (nI (yr))) ∧ N_ = wI (wI M 94 k (nI s)) 95 k (nI yr)) 0 [(0, wm_r G (0)), (1, .int (nI (k)))] [] (M)
  refine wa_iload_n dX9_keep_0 rfl 1 rfl ?_
  refine wa_if_ltN (a := k) 9 dX9_keep_1 (by decide) (by omega) (fun c_1 => absurd c_1 (by omega)) (fun c_1 => ?_)
  refine wa_iload_n dX9_keep_4 rfl 1 rfl ?_
  refine wa_iconst (3) dX9_keep_5 (by decide) ?_
  refine wa_icmp_ltN (a := k) (b := 3) 11 dX9_keep_6 (by decide) (by omega) (by omega) (fun c_6 => ?_) (fun c_6 => absurd c_6 (by omega))
  refine wa_aload_n dX9_keep_11 rfl 0 rfl ?_
  refine wa_getr gX9_keep_12 (rfl) rfl ?_
  refine wa_cVi (m_number 17 w h SO_17 hW.1 hW.2.1) vX4_number iX9_keep_15 (rfl) rfl rfl rfl (Nat.le_of_ble_eq_true rfl) ⟨by decide, by decide⟩ ?_
  refine wa_if_neN (a := w * h) 24 dX9_keep_18 (by decide) (by omega) (fun c_18 => ?_) (fun c_18 => absurd c_18 hn)
  refine wa_aload_n dX9_keep_24 rfl 0 rfl ?_
  refine wa_getr gX9_keep_25 (rfl) rfl ?_
  refine wa_iload_n dX9_keep_28 rfl 1 rfl ?_
  refine wa_aload_n dX9_keep_29 rfl 0 rfl ?_
  refine wa_geti gX9_keep_30 (rfl) rfl ?_
  refine wa_eqi (y := (nI (s))) (h12) ?_
  refine wa_iastN (e := k) dX9_keep_33 (rfl) (by omega) (by decide) ?_
  refine wa_aload_n dX9_keep_34 rfl 0 rfl ?_
  refine wa_getr gX9_keep_35 (rfl) rfl ?_
  refine wa_iload_n dX9_keep_38 rfl 1 rfl ?_
  refine wa_aload_n dX9_keep_39 rfl 0 rfl ?_
  refine wa_geti gX9_keep_40 (rfl) rfl ?_
  refine wa_eqi (y := (nI (yr))) (by rw [wI_c (by decide)]; exact h13) ?_
  refine wa_iastN (e := k) dX9_keep_43 (rfl) (by omega) (by decide) ?_
  refine wa_aload_n dX9_keep_44 rfl 0 rfl ?_
  refine wa_geti gX9_keep_45 (rfl) rfl ?_
  refine wa_eqi (y := (nI (yr))) (by rw [wI_c (by decide), wI_c (by decide)]; exact h13) ?_
  exact wa_iret dX9_keep_48 rfl ⟨congrArg (fun z => some (Value.int z)) (rfl), rfl⟩

theorem c_on_bad {G : wm_G} {M : wm_M} (k : Int32) (hk : wIn k 3 = false) : MD G t_X9_on [wm_r G (0), .int (k)] (M) (some (.int (-1))) (M) := by
  refine wm_met (by decide) (Nat.le_of_ble_eq_true rfl) ?_
  show WA G t_X9_on (fun v_ N_ => v_ = some (.int (-1)) ∧ N_ = M) 0 [(0, wm_r G (0)), (1, .int (k))] [] (M)
  refine wa_iload_n dX9_on_0 rfl 1 rfl ?_
  refine wa_if_lt 9 dX9_on_1 (by decide) (fun c_1 => ?_) (fun c_1 => ?_)
  · refine wa_iconst (-1) dX9_on_9 (by decide) ?_
    exact wa_iret dX9_on_10 rfl ⟨congrArg (fun z => some (Value.int z)) (rfl), rfl⟩
  · refine wa_iload_n dX9_on_4 rfl 1 rfl ?_
    refine wa_iconst (3) dX9_on_5 (by decide) ?_
    refine wa_icmp_lt 11 dX9_on_6 (by decide) (fun c_6 => absurd (wIn_lt (m := 3) (by decide) c_1 c_6) (by rw [hk]; decide)) (fun c_6 => ?_)
    refine wa_iconst (-1) dX9_on_9 (by decide) ?_
    exact wa_iret dX9_on_10 rfl ⟨congrArg (fun z => some (Value.int z)) (rfl), rfl⟩

theorem c_on_no {G : wm_G} {M : wm_M} (k : Nat) (hk : k < 3) (hz : M.1 95 k = -1) : MD G t_X9_on [wm_r G (0), .int (nI (k))] (M) (some (.int (-3))) (tNote M 1) := by
  refine wm_met (by decide) (Nat.le_of_ble_eq_true rfl) ?_
  show WA G t_X9_on (fun v_ N_ => v_ = some (.int (-3)) ∧ N_ = tNote M 1) 0 [(0, wm_r G (0)), (1, .int (nI (k)))] [] (M)
  refine wa_iload_n dX9_on_0 rfl 1 rfl ?_
  refine wa_if_ltN (a := k) 9 dX9_on_1 (by decide) (by omega) (fun c_1 => absurd c_1 (by omega)) (fun c_1 => ?_)
  refine wa_iload_n dX9_on_4 rfl 1 rfl ?_
  refine wa_iconst (3) dX9_on_5 (by decide) ?_
  refine wa_icmp_ltN (a := k) (b := 3) 11 dX9_on_6 (by decide) (by omega) (by omega) (fun c_6 => ?_) (fun c_6 => absurd c_6 (by omega))
  refine wa_aload_n dX9_on_11 rfl 0 rfl ?_
  refine wa_getr gX9_on_12 (rfl) rfl ?_
  refine wa_iload_n dX9_on_15 rfl 1 rfl ?_
  refine wa_ialdN (e := k) dX9_on_16 (rfl) (by omega) (by decide) ?_
  refine wa_eqi (y := (-1)) (hz) ?_
  refine wa_iconst (-1) dX9_on_17 (by decide) ?_
  refine wa_icmp_ne 27 dX9_on_18 (by decide) (fun c_18 => absurd c_18 (by decide)) (fun c_18 => ?_)
  refine wa_aload_n dX9_on_21 rfl 0 rfl ?_
  refine wa_iconst (1) dX9_on_22 (by decide) ?_
  refine wa_cVi (m_find 1 (by decide) (by decide)) vX9_find iX9_on_23 (rfl) rfl rfl rfl (Nat.le_of_ble_eq_true rfl) ⟨by decide, by decide⟩ ?_
  exact wa_iret dX9_on_26 rfl ⟨congrArg (fun z => some (Value.int z)) (rfl), rfl⟩

theorem c_on_ok {G : wm_G} {M : wm_M} (k y s1 : Nat) (hk : k < 3) (hy : M.1 95 k = nI y) (hs1 : M.1 94 k = nI s1) (hy9 : y ≤ 999) : MD G t_X9_on [wm_r G (0), .int (nI (k))] (M) (some (.int (nI (y)))) (wI (wI M 0 12 (nI s1)) 0 13 (nI y)) := by
  refine wm_met (by decide) (Nat.le_of_ble_eq_true rfl) ?_
  show WA G t_X9_on (fun v_ N_ => v_ = some (.int (nI (y))) ∧ N_ = wI (wI M 0 12 (nI s1)) 0 13 (nI y)) 0 [(0, wm_r G (0)), (1, .int (nI (k)))] [] (M)
  refine wa_iload_n dX9_on_0 rfl 1 rfl ?_
  refine wa_if_ltN (a := k) 9 dX9_on_1 (by decide) (by omega) (fun c_1 => absurd c_1 (by omega)) (fun c_1 => ?_)
  refine wa_iload_n dX9_on_4 rfl 1 rfl ?_
  refine wa_iconst (3) dX9_on_5 (by decide) ?_
  refine wa_icmp_ltN (a := k) (b := 3) 11 dX9_on_6 (by decide) (by omega) (by omega) (fun c_6 => ?_) (fun c_6 => absurd c_6 (by omega))
  refine wa_aload_n dX9_on_11 rfl 0 rfl ?_
  refine wa_getr gX9_on_12 (rfl) rfl ?_
  refine wa_iload_n dX9_on_15 rfl 1 rfl ?_
  refine wa_ialdN (e := k) dX9_on_16 (rfl) (by omega) (by decide) ?_
  refine wa_iconst (-1) dX9_on_17 (by decide) ?_
  refine wa_icmp_ne 27 dX9_on_18 (by decide) (fun c_18 => ?_) (fun c_18 => absurd (hy.symm.trans c_18) (nI_nem1 (by omega)))
  refine wa_aload_n dX9_on_27 rfl 0 rfl ?_
  refine wa_aload_n dX9_on_28 rfl 0 rfl ?_
  refine wa_getr gX9_on_29 (rfl) rfl ?_
  refine wa_iload_n dX9_on_32 rfl 1 rfl ?_
  refine wa_ialdN (e := k) dX9_on_33 (rfl) (by omega) (by decide) ?_
  refine wa_eqi (y := (nI (s1))) (hs1) ?_
  refine wa_puti gX9_on_34 (rfl) rfl ?_
  refine wa_aload_n dX9_on_37 rfl 0 rfl ?_
  refine wa_aload_n dX9_on_38 rfl 0 rfl ?_
  refine wa_getr gX9_on_39 (rfl) rfl ?_
  refine wa_iload_n dX9_on_42 rfl 1 rfl ?_
  refine wa_ialdN (e := k) dX9_on_43 (rfl) (by omega) (by decide) ?_
  refine wa_eqi (y := (nI (y))) (by rw [wI_c (by decide)]; exact hy) ?_
  refine wa_puti gX9_on_44 (rfl) rfl ?_
  refine wa_aload_n dX9_on_47 rfl 0 rfl ?_
  refine wa_geti gX9_on_48 (rfl) rfl ?_
  refine wa_eqi (y := (nI (y))) (wI_at) ?_
  exact wa_iret dX9_on_51 rfl ⟨congrArg (fun z => some (Value.int z)) (rfl), rfl⟩

theorem c_state {G : wm_G} {M : wm_M} (w h rn s yr : Nat) (ci : CI M w h rn s yr) : MD G t_X9_state [wm_r G (0)] (M) (some (.int (nI (s)))) (tTell M (nI yr)) := by
  obtain ⟨⟨hW, hwh⟩, hSt, ⟨h12, h13, hyr, hs4, hsh⟩, hRo, hTx, hLw, hKp, hRO, ⟨hL1, hL10, hL29, hL58⟩, hSe, hDy⟩ := id ci
  have hn6 := TW_n hW
  have hs : s < 4096 := Nat.lt_of_lt_of_le hs4 (p4_le hn6)
  have hw3 := hW.2.2.1
  have hh2 := hW.2.2.2
  refine wm_met (by decide) (Nat.le_of_ble_eq_true rfl) ?_
  show WA G t_X9_state (fun v_ N_ => v_ = some (.int (nI (s))) ∧ N_ = tTell M (nI yr)) 0 [(0, wm_r G (0))] [] (M)
  refine wa_aload_n dX9_state_0 rfl 0 rfl ?_
  refine wa_getr gX9_state_1 (rfl) rfl ?_
  refine wa_aload_n dX9_state_4 rfl 0 rfl ?_
  refine wa_geti gX9_state_5 (rfl) rfl ?_
  refine wa_eqi (y := (nI (yr))) (h13) ?_
  refine wa_puti gX9_state_8 (rfl) rfl ?_
  refine wa_aload_n dX9_state_11 rfl 0 rfl ?_
  refine wa_geti gX9_state_12 (rfl) rfl ?_
  refine wa_eqi (y := (nI (s))) (by rw [wI_c (by decide)]; exact h12) ?_
  exact wa_iret dX9_state_15 rfl ⟨congrArg (fun z => some (Value.int z)) (rfl), rfl⟩
