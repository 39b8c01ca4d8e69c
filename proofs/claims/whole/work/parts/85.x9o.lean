theorem m_passX {G : wm_G} {M : wm_M} (w h rn s yr : Nat) (ci : CI M w h rn s yr) (x : Int32) (hm : mtB M (w * h) x = true) : MD G t_X9_passYear [wm_r G 0, .int x] M none (nwM M (mvS M s x) (yr + 1)) := by
  have hn6 := TW_n ci.1.1
  unfold mvS
  by_cases q : x = -9
  · subst q; rw [if_pos rfl]
    have e : nwM M s (yr + 1) = wI M 0 13 (nI (yr + 1)) := by unfold nwM; rw [wI_self ci.2.2.1.1]
    rw [e]; exact m_pass9 w h rn s yr ci
  · rw [if_neg q]
    have hm2 := hm
    unfold mtB at hm2
    rw [decide_eq_false q, Bool.false_or, Bool.and_eq_true] at hm2
    obtain ⟨j, hj, rfl⟩ := wIn_ex (by omega) hm2.1
    rw [nI_clamp (by omega)]
    exact m_passk w h rn s yr ci j hj

theorem c_till_bad1 {G : wm_G} {M : wm_M} (r l : Int32) (hr : wIn r 6 = false) : MD G t_X9_till [wm_r G (0), .int (r), .int (l)] (M) (some (.int (-1))) (M) := by
  refine wm_met (by decide) (Nat.le_of_ble_eq_true rfl) ?_
  show WA G t_X9_till (fun v_ N_ => v_ = some (.int (-1)) ∧ N_ = M) 0 [(0, wm_r G (0)), (1, .int (r)), (2, .int (l))] [] (M)
  refine wa_aload_n dX9_till_0 rfl 0 rfl ?_
  refine wa_getr gX9_till_1 (rfl) rfl ?_
  refine wa_iload_n dX9_till_4 rfl 1 rfl ?_
  refine wa_cVi (m_knows 1 6 60 TB_rows r) vX5_knows iX9_till_5 (rfl) rfl rfl rfl (Nat.le_of_ble_eq_true rfl) ⟨by decide, by decide⟩ ?_
  refine wa_eqi (y := (0)) (by rw [hr]; rfl) ?_
  refine wa_if_eq 25 dX9_till_8 (by decide) (fun c_8 => ?_) (fun c_8 => absurd c_8 (by decide))
  refine wa_iconst (-1) dX9_till_25 (by decide) ?_
  exact wa_iret dX9_till_26 rfl ⟨congrArg (fun z => some (Value.int z)) (rfl), rfl⟩

theorem c_till_bad2 {G : wm_G} {M : wm_M} (r : Nat) (hr : r < 6) (l : Int32) (hl : wIn l 4 = false) : MD G t_X9_till [wm_r G (0), .int (nI (r)), .int (l)] (M) (some (.int (-1))) (M) := by
  refine wm_met (by decide) (Nat.le_of_ble_eq_true rfl) ?_
  show WA G t_X9_till (fun v_ N_ => v_ = some (.int (-1)) ∧ N_ = M) 0 [(0, wm_r G (0)), (1, .int (nI (r))), (2, .int (l))] [] (M)
  refine wa_aload_n dX9_till_0 rfl 0 rfl ?_
  refine wa_getr gX9_till_1 (rfl) rfl ?_
  refine wa_iload_n dX9_till_4 rfl 1 rfl ?_
  refine wa_cVi (m_knowsN 1 6 60 TB_rows r hr) vX5_knows iX9_till_5 (rfl) rfl rfl rfl (Nat.le_of_ble_eq_true rfl) ⟨by decide, by decide⟩ ?_
  refine wa_if_eq 25 dX9_till_8 (by decide) (fun c_8 => absurd c_8 (by decide)) (fun c_8 => ?_)
  refine wa_aload_n dX9_till_11 rfl 0 rfl ?_
  refine wa_getr gX9_till_12 (rfl) rfl ?_
  refine wa_getr gX9_till_15 (rfl) rfl ?_
  refine wa_iload_n dX9_till_18 rfl 2 rfl ?_
  refine wa_cVi (m_knows 29 4 3 TB_laws l) vX5_knows iX9_till_19 (rfl) rfl rfl rfl (Nat.le_of_ble_eq_true rfl) ⟨by decide, by decide⟩ ?_
  refine wa_eqi (y := (0)) (by rw [hl]; rfl) ?_
  refine wa_if_ne 27 dX9_till_22 (by decide) (fun c_22 => absurd c_22 (by decide)) (fun c_22 => ?_)
  refine wa_iconst (-1) dX9_till_25 (by decide) ?_
  exact wa_iret dX9_till_26 rfl ⟨congrArg (fun z => some (Value.int z)) (rfl), rfl⟩

theorem c_till_no1 {G : wm_G} {M : wm_M} (r : Nat) (hr : r < 6) (l : Nat) (hl : l < 4) (hz : M.1 35 l = -1) : MD G t_X9_till [wm_r G (0), .int (nI (r)), .int (nI (l))] (M) (some (.int (-3))) (tNote M 1) := by
  refine wm_met (by decide) (Nat.le_of_ble_eq_true rfl) ?_
  show WA G t_X9_till (fun v_ N_ => v_ = some (.int (-3)) ∧ N_ = tNote M 1) 0 [(0, wm_r G (0)), (1, .int (nI (r))), (2, .int (nI (l)))] [] (M)
  refine wa_aload_n dX9_till_0 rfl 0 rfl ?_
  refine wa_getr gX9_till_1 (rfl) rfl ?_
  refine wa_iload_n dX9_till_4 rfl 1 rfl ?_
  refine wa_cVi (m_knowsN 1 6 60 TB_rows r hr) vX5_knows iX9_till_5 (rfl) rfl rfl rfl (Nat.le_of_ble_eq_true rfl) ⟨by decide, by decide⟩ ?_
  refine wa_if_eq 25 dX9_till_8 (by decide) (fun c_8 => absurd c_8 (by decide)) (fun c_8 => ?_)
  refine wa_aload_n dX9_till_11 rfl 0 rfl ?_
  refine wa_getr gX9_till_12 (rfl) rfl ?_
  refine wa_getr gX9_till_15 (rfl) rfl ?_
  refine wa_iload_n dX9_till_18 rfl 2 rfl ?_
  refine wa_cVi (m_knowsN 29 4 3 TB_laws l hl) vX5_knows iX9_till_19 (rfl) rfl rfl rfl (Nat.le_of_ble_eq_true rfl) ⟨by decide, by decide⟩ ?_
  refine wa_if_ne 27 dX9_till_22 (by decide) (fun c_22 => ?_) (fun c_22 => absurd c_22 (by decide))
  refine wa_aload_n dX9_till_27 rfl 0 rfl ?_
  refine wa_getr gX9_till_28 (rfl) rfl ?_
  refine wa_getr gX9_till_31 (rfl) rfl ?_
  refine wa_iload_n dX9_till_34 rfl 2 rfl ?_
  refine wa_cVi (m_hasN 29 4 3 TB_laws l hl) vX5_has iX9_till_35 (rfl) rfl rfl rfl (Nat.le_of_ble_eq_true rfl) ⟨by decide, by decide⟩ ?_
  refine wa_eqi (y := (0)) (by rw [show M.1 (29 + 2 + 4) l = -1 from hz]; rfl) ?_
  refine wa_if_eq 52 dX9_till_38 (by decide) (fun c_38 => ?_) (fun c_38 => absurd c_38 (by decide))
  refine wa_aload_n dX9_till_52 rfl 0 rfl ?_
  refine wa_iconst (1) dX9_till_53 (by decide) ?_
  refine wa_cVi (m_find 1 (by decide) (by decide)) vX9_find iX9_till_54 (rfl) rfl rfl rfl (Nat.le_of_ble_eq_true rfl) ⟨by decide, by decide⟩ ?_
  exact wa_iret dX9_till_57 rfl ⟨congrArg (fun z => some (Value.int z)) (rfl), rfl⟩

theorem c_till_no2 {G : wm_G} {M : wm_M} (r : Nat) (hr : r < 6) (l : Nat) (hl : l < 4) (hz : ¬ M.1 35 l = -1) (hzr : M.1 9 r = -1) : MD G t_X9_till [wm_r G (0), .int (nI (r)), .int (nI (l))] (M) (some (.int (-3))) (tNote M 1) := by
  refine wm_met (by decide) (Nat.le_of_ble_eq_true rfl) ?_
  show WA G t_X9_till (fun v_ N_ => v_ = some (.int (-3)) ∧ N_ = tNote M 1) 0 [(0, wm_r G (0)), (1, .int (nI (r))), (2, .int (nI (l)))] [] (M)
  refine wa_aload_n dX9_till_0 rfl 0 rfl ?_
  refine wa_getr gX9_till_1 (rfl) rfl ?_
  refine wa_iload_n dX9_till_4 rfl 1 rfl ?_
  refine wa_cVi (m_knowsN 1 6 60 TB_rows r hr) vX5_knows iX9_till_5 (rfl) rfl rfl rfl (Nat.le_of_ble_eq_true rfl) ⟨by decide, by decide⟩ ?_
  refine wa_if_eq 25 dX9_till_8 (by decide) (fun c_8 => absurd c_8 (by decide)) (fun c_8 => ?_)
  refine wa_aload_n dX9_till_11 rfl 0 rfl ?_
  refine wa_getr gX9_till_12 (rfl) rfl ?_
  refine wa_getr gX9_till_15 (rfl) rfl ?_
  refine wa_iload_n dX9_till_18 rfl 2 rfl ?_
  refine wa_cVi (m_knowsN 29 4 3 TB_laws l hl) vX5_knows iX9_till_19 (rfl) rfl rfl rfl (Nat.le_of_ble_eq_true rfl) ⟨by decide, by decide⟩ ?_
  refine wa_if_ne 27 dX9_till_22 (by decide) (fun c_22 => ?_) (fun c_22 => absurd c_22 (by decide))
  refine wa_aload_n dX9_till_27 rfl 0 rfl ?_
  refine wa_getr gX9_till_28 (rfl) rfl ?_
  refine wa_getr gX9_till_31 (rfl) rfl ?_
  refine wa_iload_n dX9_till_34 rfl 2 rfl ?_
  refine wa_cVi (m_hasN 29 4 3 TB_laws l hl) vX5_has iX9_till_35 (rfl) rfl rfl rfl (Nat.le_of_ble_eq_true rfl) ⟨by decide, by decide⟩ ?_
  refine wa_eqi (y := (1)) (by rw [show decide (M.1 (29 + 2 + 4) l = -1) = false from decide_eq_false hz]; rfl) ?_
  refine wa_if_eq 52 dX9_till_38 (by decide) (fun c_38 => absurd c_38 (by decide)) (fun c_38 => ?_)
  refine wa_aload_n dX9_till_41 rfl 0 rfl ?_
  refine wa_getr gX9_till_42 (rfl) rfl ?_
  refine wa_iload_n dX9_till_45 rfl 1 rfl ?_
  refine wa_cVi (m_hasN 1 6 60 TB_rows r hr) vX5_has iX9_till_46 (rfl) rfl rfl rfl (Nat.le_of_ble_eq_true rfl) ⟨by decide, by decide⟩ ?_
  refine wa_eqi (y := (0)) (by rw [show M.1 (1 + 2 + 6) r = -1 from hzr]; rfl) ?_
  refine wa_if_ne 58 dX9_till_49 (by decide) (fun c_49 => absurd c_49 (by decide)) (fun c_49 => ?_)
  refine wa_aload_n dX9_till_52 rfl 0 rfl ?_
  refine wa_iconst (1) dX9_till_53 (by decide) ?_
  refine wa_cVi (m_find 1 (by decide) (by decide)) vX9_find iX9_till_54 (rfl) rfl rfl rfl (Nat.le_of_ble_eq_true rfl) ⟨by decide, by decide⟩ ?_
  exact wa_iret dX9_till_57 rfl ⟨congrArg (fun z => some (Value.int z)) (rfl), rfl⟩

theorem c_till_un {G : wm_G} {M : wm_M} (w h rn s yr : Nat) (ci : CI M w h rn s yr) (r : Nat) (hr : r < 6) (l : Nat) (hl : l < 4) (hz : ¬ M.1 35 l = -1) (z : Nat) (hz1 : M.1 9 r = nI z) (hz9 : z ≤ 60) (hq : wAll (fun i => mtB M (w * h) (M.1 (3 + r) i)) z = false) : MD G t_X9_till [wm_r G (0), .int (nI (r)), .int (nI (l))] (M) (some (.int (-3))) (tNote M 3) := by
  obtain ⟨⟨hW, hwh⟩, hSt, ⟨h12, h13, hyr, hs4, hsh⟩, hRo, hTx, hLw, hKp, hRO, ⟨hL1, hL10, hL29, hL58⟩, hSe, hDy⟩ := id ci
  have hn6 := TW_n hW
  have hs : s < 4096 := Nat.lt_of_lt_of_le hs4 (p4_le hn6)
  have hw3 := hW.2.2.1
  have hh2 := hW.2.2.2
  have hzr : ¬ M.1 9 r = -1 := by rw [hz1]; exact nI_nem1 (by omega)
  have hsS : hadS M (w * h) s := ⟨hs4, hsh⟩
  refine wm_met (by decide) (Nat.le_of_ble_eq_true rfl) ?_
  show WA G t_X9_till (fun v_ N_ => v_ = some (.int (-3)) ∧ N_ = tNote M 3) 0 [(0, wm_r G (0)), (1, .int (nI (r))), (2, .int (nI (l)))] [] (M)
  refine wa_aload_n dX9_till_0 rfl 0 rfl ?_
  refine wa_getr gX9_till_1 (rfl) rfl ?_
  refine wa_iload_n dX9_till_4 rfl 1 rfl ?_
  refine wa_cVi (m_knowsN 1 6 60 TB_rows r hr) vX5_knows iX9_till_5 (rfl) rfl rfl rfl (Nat.le_of_ble_eq_true rfl) ⟨by decide, by decide⟩ ?_
  refine wa_if_eq 25 dX9_till_8 (by decide) (fun c_8 => absurd c_8 (by decide)) (fun c_8 => ?_)
  refine wa_aload_n dX9_till_11 rfl 0 rfl ?_
  refine wa_getr gX9_till_12 (rfl) rfl ?_
  refine wa_getr gX9_till_15 (rfl) rfl ?_
  refine wa_iload_n dX9_till_18 rfl 2 rfl ?_
  refine wa_cVi (m_knowsN 29 4 3 TB_laws l hl) vX5_knows iX9_till_19 (rfl) rfl rfl rfl (Nat.le_of_ble_eq_true rfl) ⟨by decide, by decide⟩ ?_
  refine wa_if_ne 27 dX9_till_22 (by decide) (fun c_22 => ?_) (fun c_22 => absurd c_22 (by decide))
  refine wa_aload_n dX9_till_27 rfl 0 rfl ?_
  refine wa_getr gX9_till_28 (rfl) rfl ?_
  refine wa_getr gX9_till_31 (rfl) rfl ?_
  refine wa_iload_n dX9_till_34 rfl 2 rfl ?_
  refine wa_cVi (m_hasN 29 4 3 TB_laws l hl) vX5_has iX9_till_35 (rfl) rfl rfl rfl (Nat.le_of_ble_eq_true rfl) ⟨by decide, by decide⟩ ?_
  refine wa_eqi (y := (1)) (by rw [show decide (M.1 (29 + 2 + 4) l = -1) = false from decide_eq_false hz]; rfl) ?_
  refine wa_if_eq 52 dX9_till_38 (by decide) (fun c_38 => absurd c_38 (by decide)) (fun c_38 => ?_)
  refine wa_aload_n dX9_till_41 rfl 0 rfl ?_
  refine wa_getr gX9_till_42 (rfl) rfl ?_
  refine wa_iload_n dX9_till_45 rfl 1 rfl ?_
  refine wa_cVi (m_hasN 1 6 60 TB_rows r hr) vX5_has iX9_till_46 (rfl) rfl rfl rfl (Nat.le_of_ble_eq_true rfl) ⟨by decide, by decide⟩ ?_
  refine wa_eqi (y := (1)) (by rw [show decide (M.1 (1 + 2 + 6) r = -1) = false from decide_eq_false hzr]; rfl) ?_
  refine wa_if_ne 58 dX9_till_49 (by decide) (fun c_49 => ?_) (fun c_49 => absurd c_49 (by decide))
  refine wa_aload_n dX9_till_58 rfl 0 rfl ?_
  refine wa_getr gX9_till_59 (rfl) rfl ?_
  refine wa_iload_n dX9_till_62 rfl 1 rfl ?_
  refine wa_cVi (m_sizeN 1 6 60 TB_rows r hr) vX5_size iX9_till_63 (rfl) rfl rfl rfl (Nat.le_of_ble_eq_true rfl) ⟨by decide, by decide⟩ ?_
  refine wa_eqi (y := (nI (z))) (by rw [show M.1 (1 + 2 + 6) r = nI z from hz1, nI_clamp (by omega)]) ?_
  refine wa_istore_n [(3, .int (nI (z))), (0, wm_r G (0)), (1, .int (nI (r))), (2, .int (nI (l)))] dX9_till_66 rfl (by decide) rfl ?_
  refine wa_iconst (0) dX9_till_67 (by decide) ?_
  refine wa_istore [(4, .int (0)), (3, .int (nI (z))), (0, wm_r G (0)), (1, .int (nI (r))), (2, .int (nI (l)))] dX9_till_68 (by decide) rfl ?_
  have L_70 : ∀ (n_ : Nat) (i : Nat), (z - i) < n_ → (i ≤ z) → (∀ j, j < i → mtB M (w * h) (M.1 (3 + r) j) = true) → WA G t_X9_till (fun v_ N_ => v_ = some (.int (-3)) ∧ N_ = tNote M 3) 70 [(4, .int (nI (i))), (3, .int (nI (z))), (0, wm_r G (0)), (1, .int (nI (r))), (2, .int (nI (l)))] [] (M) := by
    intro n_
    induction n_ with
    | zero => intro i h_; exact absurd h_ (Nat.not_lt_zero _)
    | succ n_ ih_70 =>
      intro i h_ hi hall
      refine wa_iload dX9_till_70 0 rfl ?_
      refine wa_iload_n dX9_till_72 rfl 1 rfl ?_
      refine wa_icmp_geN (a := i) (b := z) 105 dX9_till_73 (by decide) (by omega) (by omega) (fun c_73 => ?_) (fun c_73 => ?_)
      · exact absurd (wAll_t (p := (fun i => mtB M (w * h) (M.1 (3 + r) i))) (n := z) (fun j hj => hall j (by omega))) (by rw [hq]; decide)
      · refine wa_aload_n dX9_till_76 rfl 2 rfl ?_
        refine wa_aload_n dX9_till_77 rfl 2 rfl ?_
        refine wa_getr gX9_till_78 (rfl) rfl ?_
        refine wa_iload_n dX9_till_81 rfl 3 rfl ?_
        refine wa_iload dX9_till_82 0 rfl ?_
        refine wa_cVi (m_getN 1 6 60 TB_rows r i z hr (by omega) hz1 hz9) vX5_get iX9_till_84 (rfl) rfl rfl rfl (Nat.le_of_ble_eq_true rfl) ⟨by decide, by decide⟩ ?_
        refine wa_eqi (y := (M.1 (3 + r) i)) (if_pos (by omega)) ?_
        refine wa_cVi (m_mayTurn w h rn s yr ci (M.1 (3 + r) i)) vX9_mayTurn iX9_till_87 (rfl) rfl rfl rfl (Nat.le_of_ble_eq_true rfl) ⟨by decide, by decide⟩ ?_
        refine wa_if_neB 99 dX9_till_90 (by decide) (fun (c_90 : (mtB M (w * h) (M.1 (3 + r) i)) = true) => ?_) (fun (c_90 : (mtB M (w * h) (M.1 (3 + r) i)) = false) => ?_)
        · refine wa_iinc ((nI (i + 1))) [(4, .int (nI (i + 1))), (3, .int (nI (z))), (0, wm_r G (0)), (1, .int (nI (r))), (2, .int (nI (l)))] dX9_till_99 0 rfl (nI_inc _) (by decide) rfl ?_
          refine wa_goto 70 dX9_till_102 (by decide) ?_
          exact ih_70 (i + 1) (by omega) (by omega) (fun j hj => by rcases Nat.lt_or_eq_of_le (Nat.le_of_lt_succ hj) with q | q; (exact hall j q); (subst q; exact c_90))
        · refine wa_aload_n dX9_till_93 rfl 2 rfl ?_
          refine wa_iconst (3) dX9_till_94 (by decide) ?_
          refine wa_cVi (m_find 3 (by decide) (by decide)) vX9_find iX9_till_95 (rfl) rfl rfl rfl (Nat.le_of_ble_eq_true rfl) ⟨by decide, by decide⟩ ?_
          exact wa_iret dX9_till_98 rfl ⟨congrArg (fun z => some (Value.int z)) (rfl), rfl⟩
  exact L_70 _ 0 (Nat.lt_succ_self _) (Nat.zero_le _) (fun j hj => absurd hj (Nat.not_lt_zero _))

theorem c_till_sp {G : wm_G} {M : wm_M} (w h rn s yr : Nat) (ci : CI M w h rn s yr) (r : Nat) (hr : r < 6) (l : Nat) (hl : l < 4) (hz : ¬ M.1 35 l = -1) (z : Nat) (hz1 : M.1 9 r = nI z) (hz9 : z ≤ 60) (hq : wAll (fun i => mtB M (w * h) (M.1 (3 + r) i)) z = true) (hy : 999 < yr + z) : MD G t_X9_till [wm_r G (0), .int (nI (r)), .int (nI (l))] (M) (some (.int (-6))) (M) := by
  obtain ⟨⟨hW, hwh⟩, hSt, ⟨h12, h13, hyr, hs4, hsh⟩, hRo, hTx, hLw, hKp, hRO, ⟨hL1, hL10, hL29, hL58⟩, hSe, hDy⟩ := id ci
  have hn6 := TW_n hW
  have hs : s < 4096 := Nat.lt_of_lt_of_le hs4 (p4_le hn6)
  have hw3 := hW.2.2.1
  have hh2 := hW.2.2.2
  have hzr : ¬ M.1 9 r = -1 := by rw [hz1]; exact nI_nem1 (by omega)
  have hsS : hadS M (w * h) s := ⟨hs4, hsh⟩
  refine wm_met (by decide) (Nat.le_of_ble_eq_true rfl) ?_
  show WA G t_X9_till (fun v_ N_ => v_ = some (.int (-6)) ∧ N_ = M) 0 [(0, wm_r G (0)), (1, .int (nI (r))), (2, .int (nI (l)))] [] (M)
  refine wa_aload_n dX9_till_0 rfl 0 rfl ?_
  refine wa_getr gX9_till_1 (rfl) rfl ?_
  refine wa_iload_n dX9_till_4 rfl 1 rfl ?_
  refine wa_cVi (m_knowsN 1 6 60 TB_rows r hr) vX5_knows iX9_till_5 (rfl) rfl rfl rfl (Nat.le_of_ble_eq_true rfl) ⟨by decide, by decide⟩ ?_
  refine wa_if_eq 25 dX9_till_8 (by decide) (fun c_8 => absurd c_8 (by decide)) (fun c_8 => ?_)
  refine wa_aload_n dX9_till_11 rfl 0 rfl ?_
  refine wa_getr gX9_till_12 (rfl) rfl ?_
  refine wa_getr gX9_till_15 (rfl) rfl ?_
  refine wa_iload_n dX9_till_18 rfl 2 rfl ?_
  refine wa_cVi (m_knowsN 29 4 3 TB_laws l hl) vX5_knows iX9_till_19 (rfl) rfl rfl rfl (Nat.le_of_ble_eq_true rfl) ⟨by decide, by decide⟩ ?_
  refine wa_if_ne 27 dX9_till_22 (by decide) (fun c_22 => ?_) (fun c_22 => absurd c_22 (by decide))
  refine wa_aload_n dX9_till_27 rfl 0 rfl ?_
  refine wa_getr gX9_till_28 (rfl) rfl ?_
  refine wa_getr gX9_till_31 (rfl) rfl ?_
  refine wa_iload_n dX9_till_34 rfl 2 rfl ?_
  refine wa_cVi (m_hasN 29 4 3 TB_laws l hl) vX5_has iX9_till_35 (rfl) rfl rfl rfl (Nat.le_of_ble_eq_true rfl) ⟨by decide, by decide⟩ ?_
  refine wa_eqi (y := (1)) (by rw [show decide (M.1 (29 + 2 + 4) l = -1) = false from decide_eq_false hz]; rfl) ?_
  refine wa_if_eq 52 dX9_till_38 (by decide) (fun c_38 => absurd c_38 (by decide)) (fun c_38 => ?_)
  refine wa_aload_n dX9_till_41 rfl 0 rfl ?_
  refine wa_getr gX9_till_42 (rfl) rfl ?_
  refine wa_iload_n dX9_till_45 rfl 1 rfl ?_
  refine wa_cVi (m_hasN 1 6 60 TB_rows r hr) vX5_has iX9_till_46 (rfl) rfl rfl rfl (Nat.le_of_ble_eq_true rfl) ⟨by decide, by decide⟩ ?_
  refine wa_eqi (y := (1)) (by rw [show decide (M.1 (1 + 2 + 6) r = -1) = false from decide_eq_false hzr]; rfl) ?_
  refine wa_if_ne 58 dX9_till_49 (by decide) (fun c_49 => ?_) (fun c_49 => absurd c_49 (by decide))
  refine wa_aload_n dX9_till_58 rfl 0 rfl ?_
  refine wa_getr gX9_till_59 (rfl) rfl ?_
  refine wa_iload_n dX9_till_62 rfl 1 rfl ?_
  refine wa_cVi (m_sizeN 1 6 60 TB_rows r hr) vX5_size iX9_till_63 (rfl) rfl rfl rfl (Nat.le_of_ble_eq_true rfl) ⟨by decide, by decide⟩ ?_
  refine wa_eqi (y := (nI (z))) (by rw [show M.1 (1 + 2 + 6) r = nI z from hz1, nI_clamp (by omega)]) ?_
  refine wa_istore_n [(3, .int (nI (z))), (0, wm_r G (0)), (1, .int (nI (r))), (2, .int (nI (l)))] dX9_till_66 rfl (by decide) rfl ?_
  refine wa_iconst (0) dX9_till_67 (by decide) ?_
  refine wa_istore [(4, .int (0)), (3, .int (nI (z))), (0, wm_r G (0)), (1, .int (nI (r))), (2, .int (nI (l)))] dX9_till_68 (by decide) rfl ?_
  have L_70 : ∀ (n_ : Nat) (i : Nat), (z - i) < n_ → (i ≤ z) → (∀ j, j < i → mtB M (w * h) (M.1 (3 + r) j) = true) → WA G t_X9_till (fun v_ N_ => v_ = some (.int (-6)) ∧ N_ = M) 70 [(4, .int (nI (i))), (3, .int (nI (z))), (0, wm_r G (0)), (1, .int (nI (r))), (2, .int (nI (l)))] [] (M) := by
    intro n_
    induction n_ with
    | zero => intro i h_; exact absurd h_ (Nat.not_lt_zero _)
    | succ n_ ih_70 =>
      intro i h_ hi hall
      refine wa_iload dX9_till_70 0 rfl ?_
      refine wa_iload_n dX9_till_72 rfl 1 rfl ?_
      refine wa_icmp_geN (a := i) (b := z) 105 dX9_till_73 (by decide) (by omega) (by omega) (fun c_73 => ?_) (fun c_73 => ?_)
      · refine wa_iload_n dX9_till_105 rfl 1 rfl ?_
        refine wa_sipush (999) dX9_till_106 (by decide) ?_
        refine wa_aload_n dX9_till_109 rfl 2 rfl ?_
        refine wa_geti gX9_till_110 (rfl) rfl ?_
        refine wa_eqi (y := (nI (yr))) (h13) ?_
        refine wa_isubN (a := 999) (b := yr) dX9_till_113 (by omega) ?_
        refine wa_icmp_leN (a := z) (b := (999) - (yr)) 120 dX9_till_114 (by decide) (by omega) (by omega) (fun c_114 => absurd c_114 (by omega)) (fun c_114 => ?_)
        refine wa_bipush (-6) dX9_till_117 (by decide) ?_
        exact wa_iret dX9_till_119 rfl ⟨congrArg (fun z => some (Value.int z)) (rfl), rfl⟩
      · refine wa_aload_n dX9_till_76 rfl 2 rfl ?_
        refine wa_aload_n dX9_till_77 rfl 2 rfl ?_
        refine wa_getr gX9_till_78 (rfl) rfl ?_
        refine wa_iload_n dX9_till_81 rfl 3 rfl ?_
        refine wa_iload dX9_till_82 0 rfl ?_
        refine wa_cVi (m_getN 1 6 60 TB_rows r i z hr (by omega) hz1 hz9) vX5_get iX9_till_84 (rfl) rfl rfl rfl (Nat.le_of_ble_eq_true rfl) ⟨by decide, by decide⟩ ?_
        refine wa_eqi (y := (M.1 (3 + r) i)) (if_pos (by omega)) ?_
        refine wa_cVi (m_mayTurn w h rn s yr ci (M.1 (3 + r) i)) vX9_mayTurn iX9_till_87 (rfl) rfl rfl rfl (Nat.le_of_ble_eq_true rfl) ⟨by decide, by decide⟩ ?_
        refine wa_if_neB 99 dX9_till_90 (by decide) (fun (c_90 : (mtB M (w * h) (M.1 (3 + r) i)) = true) => ?_) (fun (c_90 : (mtB M (w * h) (M.1 (3 + r) i)) = false) => ?_)
        · refine wa_iinc ((nI (i + 1))) [(4, .int (nI (i + 1))), (3, .int (nI (z))), (0, wm_r G (0)), (1, .int (nI (r))), (2, .int (nI (l)))] dX9_till_99 0 rfl (nI_inc _) (by decide) rfl ?_
          refine wa_goto 70 dX9_till_102 (by decide) ?_
          exact ih_70 (i + 1) (by omega) (by omega) (fun j hj => by rcases Nat.lt_or_eq_of_le (Nat.le_of_lt_succ hj) with q | q; (exact hall j q); (subst q; exact c_90))
        · exact absurd (wAll_iff.mp hq i (by omega)) (by rw [c_90]; decide)
  exact L_70 _ 0 (Nat.lt_succ_self _) (Nat.zero_le _) (fun j hj => absurd hj (Nat.not_lt_zero _))

theorem c_till_ok {G : wm_G} {M : wm_M} (w h rn s yr : Nat) (ci : CI M w h rn s yr) (r : Nat) (hr : r < 6) (l : Nat) (hl : l < 4) (hz : ¬ M.1 35 l = -1) (z : Nat) (hz1 : M.1 9 r = nI z) (hz9 : z ≤ 60) (hq : wAll (fun i => mtB M (w * h) (M.1 (3 + r) i)) z = true) (hy : yr + z ≤ 999) : MD G t_X9_till [wm_r G (0), .int (nI (r)), .int (nI (l))] (M) (some (.int (wFind (tlP M (M.1 (3 + r)) s l) (z + 1)))) (nwM M (rwS M (M.1 (3 + r)) s (tlN M (M.1 (3 + r)) s l z)) (yr + tlN M (M.1 (3 + r)) s l z)) := by
  obtain ⟨⟨hW, hwh⟩, hSt, ⟨h12, h13, hyr, hs4, hsh⟩, hRo, hTx, hLw, hKp, hRO, ⟨hL1, hL10, hL29, hL58⟩, hSe, hDy⟩ := id ci
  have hn6 := TW_n hW
  have hs : s < 4096 := Nat.lt_of_lt_of_le hs4 (p4_le hn6)
  have hw3 := hW.2.2.1
  have hh2 := hW.2.2.2
  have hzr : ¬ M.1 9 r = -1 := by rw [hz1]; exact nI_nem1 (by omega)
  have hsS : hadS M (w * h) s := ⟨hs4, hsh⟩
  have hmt : ∀ j, j < z → mtB M (w * h) (M.1 (3 + r) j) = true := fun j hj => wAll_iff.mp hq j hj
  refine wm_met (by decide) (Nat.le_of_ble_eq_true rfl) ?_
  show WA G t_X9_till (fun v_ N_ => v_ = some (.int (wFind (tlP M (M.1 (3 + r)) s l) (z + 1))) ∧ N_ = nwM M (rwS M (M.1 (3 + r)) s (tlN M (M.1 (3 + r)) s l z)) (yr + tlN M (M.1 (3 + r)) s l z)) 0 [(0, wm_r G (0)), (1, .int (nI (r))), (2, .int (nI (l)))] [] (M)
  refine wa_aload_n dX9_till_0 rfl 0 rfl ?_
  refine wa_getr gX9_till_1 (rfl) rfl ?_
  refine wa_iload_n dX9_till_4 rfl 1 rfl ?_
  refine wa_cVi (m_knowsN 1 6 60 TB_rows r hr) vX5_knows iX9_till_5 (rfl) rfl rfl rfl (Nat.le_of_ble_eq_true rfl) ⟨by decide, by decide⟩ ?_
  refine wa_if_eq 25 dX9_till_8 (by decide) (fun c_8 => absurd c_8 (by decide)) (fun c_8 => ?_)
  refine wa_aload_n dX9_till_11 rfl 0 rfl ?_
  refine wa_getr gX9_till_12 (rfl) rfl ?_
  refine wa_getr gX9_till_15 (rfl) rfl ?_
  refine wa_iload_n dX9_till_18 rfl 2 rfl ?_
  refine wa_cVi (m_knowsN 29 4 3 TB_laws l hl) vX5_knows iX9_till_19 (rfl) rfl rfl rfl (Nat.le_of_ble_eq_true rfl) ⟨by decide, by decide⟩ ?_
  refine wa_if_ne 27 dX9_till_22 (by decide) (fun c_22 => ?_) (fun c_22 => absurd c_22 (by decide))
  refine wa_aload_n dX9_till_27 rfl 0 rfl ?_
  refine wa_getr gX9_till_28 (rfl) rfl ?_
  refine wa_getr gX9_till_31 (rfl) rfl ?_
  refine wa_iload_n dX9_till_34 rfl 2 rfl ?_
  refine wa_cVi (m_hasN 29 4 3 TB_laws l hl) vX5_has iX9_till_35 (rfl) rfl rfl rfl (Nat.le_of_ble_eq_true rfl) ⟨by decide, by decide⟩ ?_
  refine wa_eqi (y := (1)) (by rw [show decide (M.1 (29 + 2 + 4) l = -1) = false from decide_eq_false hz]; rfl) ?_
  refine wa_if_eq 52 dX9_till_38 (by decide) (fun c_38 => absurd c_38 (by decide)) (fun c_38 => ?_)
  refine wa_aload_n dX9_till_41 rfl 0 rfl ?_
  refine wa_getr gX9_till_42 (rfl) rfl ?_
  refine wa_iload_n dX9_till_45 rfl 1 rfl ?_
  refine wa_cVi (m_hasN 1 6 60 TB_rows r hr) vX5_has iX9_till_46 (rfl) rfl rfl rfl (Nat.le_of_ble_eq_true rfl) ⟨by decide, by decide⟩ ?_
  refine wa_eqi (y := (1)) (by rw [show decide (M.1 (1 + 2 + 6) r = -1) = false from decide_eq_false hzr]; rfl) ?_
  refine wa_if_ne 58 dX9_till_49 (by decide) (fun c_49 => ?_) (fun c_49 => absurd c_49 (by decide))
  refine wa_aload_n dX9_till_58 rfl 0 rfl ?_
  refine wa_getr gX9_till_59 (rfl) rfl ?_
  refine wa_iload_n dX9_till_62 rfl 1 rfl ?_
  refine wa_cVi (m_sizeN 1 6 60 TB_rows r hr) vX5_size iX9_till_63 (rfl) rfl rfl rfl (Nat.le_of_ble_eq_true rfl) ⟨by decide, by decide⟩ ?_
  refine wa_eqi (y := (nI (z))) (by rw [show M.1 (1 + 2 + 6) r = nI z from hz1, nI_clamp (by omega)]) ?_
  refine wa_istore_n [(3, .int (nI (z))), (0, wm_r G (0)), (1, .int (nI (r))), (2, .int (nI (l)))] dX9_till_66 rfl (by decide) rfl ?_
  refine wa_iconst (0) dX9_till_67 (by decide) ?_
  refine wa_istore [(4, .int (0)), (3, .int (nI (z))), (0, wm_r G (0)), (1, .int (nI (r))), (2, .int (nI (l)))] dX9_till_68 (by decide) rfl ?_
  have L_70 : ∀ (n_ : Nat) (i : Nat), (z - i) < n_ → (i ≤ z) → (∀ j, j < i → mtB M (w * h) (M.1 (3 + r) j) = true) → WA G t_X9_till (fun v_ N_ => v_ = some (.int (wFind (tlP M (M.1 (3 + r)) s l) (z + 1))) ∧ N_ = nwM M (rwS M (M.1 (3 + r)) s (tlN M (M.1 (3 + r)) s l z)) (yr + tlN M (M.1 (3 + r)) s l z)) 70 [(4, .int (nI (i))), (3, .int (nI (z))), (0, wm_r G (0)), (1, .int (nI (r))), (2, .int (nI (l)))] [] (M) := by
    intro n_
    induction n_ with
    | zero => intro i h_; exact absurd h_ (Nat.not_lt_zero _)
    | succ n_ ih_70 =>
      intro i h_ hi hall
      refine wa_iload dX9_till_70 0 rfl ?_
      refine wa_iload_n dX9_till_72 rfl 1 rfl ?_
      refine wa_icmp_geN (a := i) (b := z) 105 dX9_till_73 (by decide) (by omega) (by omega) (fun c_73 => ?_) (fun c_73 => ?_)
      · refine wa_iload_n dX9_till_105 rfl 1 rfl ?_
        refine wa_sipush (999) dX9_till_106 (by decide) ?_
        refine wa_aload_n dX9_till_109 rfl 2 rfl ?_
        refine wa_geti gX9_till_110 (rfl) rfl ?_
        refine wa_eqi (y := (nI (yr))) (h13) ?_
        refine wa_isubN (a := 999) (b := yr) dX9_till_113 (by omega) ?_
        refine wa_icmp_leN (a := z) (b := (999) - (yr)) 120 dX9_till_114 (by decide) (by omega) (by omega) (fun c_114 => ?_) (fun c_114 => absurd c_114 (by omega))
        refine wa_iconst (0) dX9_till_120 (by decide) ?_
        refine wa_istore [(4, .int (0)), (3, .int (nI (z))), (0, wm_r G (0)), (1, .int (nI (r))), (2, .int (nI (l)))] dX9_till_121 (by decide) rfl ?_
        have L_123 : ∀ (n_ : Nat) (i : Nat), (z - i) < n_ → (i ≤ z) → (∀ j, j < i → tlP M (M.1 (3 + r)) s l j = false) → WA G t_X9_till (fun v_ N_ => v_ = some (.int (wFind (tlP M (M.1 (3 + r)) s l) (z + 1))) ∧ N_ = nwM M (rwS M (M.1 (3 + r)) s (tlN M (M.1 (3 + r)) s l z)) (yr + tlN M (M.1 (3 + r)) s l z)) 123 [(4, .int (nI (i))), (3, .int (nI (z))), (0, wm_r G (0)), (1, .int (nI (r))), (2, .int (nI (l)))] [] (nwM M (rwS M (M.1 (3 + r)) s i) (yr + i)) := by
          intro n_
          induction n_ with
          | zero => intro i h_; exact absurd h_ (Nat.not_lt_zero _)
          | succ n_ ih_123 =>
            intro i h_ hi hno
            have hrw := hd_rwS hn6 hsS i (fun j hj => hmt j (by omega))
            have hs2 := rwS_had hn6 hsS i (fun j hj => hmt j (by omega))
            have ci2 := ci.now hrw (show yr + i ≤ 999 by omega)
            have e18 : (nwM M (rwS M (M.1 (3 + r)) s i) (yr + i)).1 18 = M.1 18 := nwM_c (by decide)
            refine wa_iload dX9_till_123 0 rfl ?_
            refine wa_iload_n dX9_till_125 rfl 1 rfl ?_
            refine wa_icmp_geN (a := i) (b := z) 171 dX9_till_126 (by decide) (by omega) (by omega) (fun c_126 => ?_) (fun c_126 => ?_)
            · refine wa_aload_n dX9_till_171 rfl 2 rfl ?_
              refine wa_getr gX9_till_172 (rfl) rfl ?_
              refine wa_getr gX9_till_175 (rfl) rfl ?_
              refine wa_iload_n dX9_till_178 rfl 4 rfl ?_
              refine wa_aaldN (e := l) (Or.inr rfl) dX9_till_179 (rfl) (by omega) (by decide) ?_
              refine wa_aload_n dX9_till_180 rfl 2 rfl ?_
              refine wa_geti gX9_till_181 (rfl) rfl ?_
              refine wa_eqi (y := (nI (rwS M (M.1 (3 + r)) s i))) (nwM_12) ?_
              refine wa_cVi (m_shas (38 + 2 * l) (SSl l hl) (rwS M (M.1 (3 + r)) s i) hs2) vX3_has iX9_till_184 ((SSl l hl).1) rfl rfl rfl (Nat.le_of_ble_eq_true rfl) ⟨by decide, by decide⟩ ?_
              refine wa_eqi (y := (wB (tlP M (M.1 (3 + r)) s l i))) (rfl) ?_
              refine wa_if_eqB 194 dX9_till_187 (by decide) (fun (c_187 : (tlP M (M.1 (3 + r)) s l i) = false) => ?_) (fun (c_187 : (tlP M (M.1 (3 + r)) s l i) = true) => ?_)
              · refine wa_bipush (-9) dX9_till_194 (by decide) ?_
                exact wa_iret dX9_till_196 rfl ⟨congrArg (fun z => some (Value.int z)) (by first | exact (wFind_none (fun j hj => by rcases Nat.lt_or_eq_of_le (Nat.le_of_lt_succ hj) with q | q; (exact hno j (by omega)); (subst q; rw [show j = i by omega]; exact c_187))).symm | (rw [show z = i by omega]; exact (wFind_some (by omega) c_187 hno).symm)), by rw [show tlN M (M.1 (3 + r)) s l z = i from by first | (rw [tlN_none (wFind_none (fun j hj => by rcases Nat.lt_or_eq_of_le (Nat.le_of_lt_succ hj) with q | q; (exact hno j (by omega)); (subst q; rw [show j = i by omega]; exact c_187)))]; omega) | exact tlN_some (by omega) (wFind_some (by omega) c_187 hno)]⟩
              · refine wa_iload_n dX9_till_190 rfl 1 rfl ?_
                refine wa_goto 196 dX9_till_191 (by decide) ?_
                exact wa_iret dX9_till_196 rfl ⟨congrArg (fun z => some (Value.int z)) (by first | exact (wFind_none (fun j hj => by rcases Nat.lt_or_eq_of_le (Nat.le_of_lt_succ hj) with q | q; (exact hno j (by omega)); (subst q; rw [show j = i by omega]; exact c_187))).symm | (rw [show z = i by omega]; exact (wFind_some (by omega) c_187 hno).symm)), by rw [show tlN M (M.1 (3 + r)) s l z = i from by first | (rw [tlN_none (wFind_none (fun j hj => by rcases Nat.lt_or_eq_of_le (Nat.le_of_lt_succ hj) with q | q; (exact hno j (by omega)); (subst q; rw [show j = i by omega]; exact c_187)))]; omega) | exact tlN_some (by omega) (wFind_some (by omega) c_187 hno)]⟩
            · refine wa_aload_n dX9_till_129 rfl 2 rfl ?_
              refine wa_getr gX9_till_130 (rfl) rfl ?_
              refine wa_getr gX9_till_133 (rfl) rfl ?_
              refine wa_iload_n dX9_till_136 rfl 4 rfl ?_
              refine wa_aaldN (e := l) (Or.inr rfl) dX9_till_137 (rfl) (by omega) (by decide) ?_
              refine wa_aload_n dX9_till_138 rfl 2 rfl ?_
              refine wa_geti gX9_till_139 (rfl) rfl ?_
              refine wa_eqi (y := (nI (rwS M (M.1 (3 + r)) s i))) (nwM_12) ?_
              refine wa_cVi (m_shas (38 + 2 * l) (SSl l hl) (rwS M (M.1 (3 + r)) s i) hs2) vX3_has iX9_till_142 ((SSl l hl).1) rfl rfl rfl (Nat.le_of_ble_eq_true rfl) ⟨by decide, by decide⟩ ?_
              refine wa_eqi (y := (wB (tlP M (M.1 (3 + r)) s l i))) (rfl) ?_
              refine wa_if_eqB 151 dX9_till_145 (by decide) (fun (c_145 : (tlP M (M.1 (3 + r)) s l i) = false) => ?_) (fun (c_145 : (tlP M (M.1 (3 + r)) s l i) = true) => ?_)
              · refine wa_aload_n dX9_till_151 rfl 2 rfl ?_
                refine wa_aload_n dX9_till_152 rfl 2 rfl ?_
                refine wa_getr gX9_till_153 (rfl) rfl ?_
                refine wa_iload_n dX9_till_156 rfl 3 rfl ?_
                refine wa_iload dX9_till_157 0 rfl ?_
                refine wa_cVi (m_getN (M := nwM M (rwS M (M.1 (3 + r)) s i) (yr + i)) 1 6 60 TB_rows r i z hr (by omega) (by rw [nwM_c (by decide)]; exact hz1) hz9) vX5_get iX9_till_159 (rfl) rfl rfl rfl (Nat.le_of_ble_eq_true rfl) ⟨by decide, by decide⟩ ?_
                refine wa_eqi (y := (M.1 (3 + r) i)) (by rw [if_pos (by omega)]; exact congrFun (nwM_c (by omega)) i) ?_
                refine wa_cVv (m_passX (M := nwM M (rwS M (M.1 (3 + r)) s i) (yr + i)) w h rn (rwS M (M.1 (3 + r)) s i) (yr + i) ci2 (M.1 (3 + r) i) (by rw [mtB_fr e18]; exact hmt i (by omega))) vX9_passYear iX9_till_162 (rfl) rfl rfl rfl (Nat.le_of_ble_eq_true rfl) ⟨by decide, by decide⟩ ?_
                refine wa_eqm (M' := nwM M (rwS M (M.1 (3 + r)) s (i + 1)) (yr + (i + 1))) (by rw [nwM_2, mvS_fr e18]; rfl) ?_
                refine wa_iinc ((nI (i + 1))) [(4, .int (nI (i + 1))), (3, .int (nI (z))), (0, wm_r G (0)), (1, .int (nI (r))), (2, .int (nI (l)))] dX9_till_165 0 rfl (nI_inc _) (by decide) rfl ?_
                refine wa_goto 123 dX9_till_168 (by decide) ?_
                exact ih_123 (i + 1) (by omega) (by omega) (fun j hj => by rcases Nat.lt_or_eq_of_le (Nat.le_of_lt_succ hj) with q | q; (exact hno j q); (subst q; exact c_145))
              · refine wa_iload dX9_till_148 0 rfl ?_
                exact wa_iret dX9_till_150 rfl ⟨congrArg (fun z => some (Value.int z)) ((wFind_some (by omega) c_145 hno).symm), by rw [tlN_some (i := i) (by omega) (wFind_some (by omega) c_145 hno)]⟩
        refine wa_eqm (M' := nwM M (rwS M (M.1 (3 + r)) s 0) (yr + 0)) (nwM_self h12 h13).symm ?_
        exact L_123 _ 0 (Nat.lt_succ_self _) (Nat.zero_le _) (fun j hj => absurd hj (Nat.not_lt_zero _))
      · refine wa_aload_n dX9_till_76 rfl 2 rfl ?_
        refine wa_aload_n dX9_till_77 rfl 2 rfl ?_
        refine wa_getr gX9_till_78 (rfl) rfl ?_
        refine wa_iload_n dX9_till_81 rfl 3 rfl ?_
        refine wa_iload dX9_till_82 0 rfl ?_
        refine wa_cVi (m_getN 1 6 60 TB_rows r i z hr (by omega) hz1 hz9) vX5_get iX9_till_84 (rfl) rfl rfl rfl (Nat.le_of_ble_eq_true rfl) ⟨by decide, by decide⟩ ?_
        refine wa_eqi (y := (M.1 (3 + r) i)) (if_pos (by omega)) ?_
        refine wa_cVi (m_mayTurn w h rn s yr ci (M.1 (3 + r) i)) vX9_mayTurn iX9_till_87 (rfl) rfl rfl rfl (Nat.le_of_ble_eq_true rfl) ⟨by decide, by decide⟩ ?_
        refine wa_if_neB 99 dX9_till_90 (by decide) (fun (c_90 : (mtB M (w * h) (M.1 (3 + r) i)) = true) => ?_) (fun (c_90 : (mtB M (w * h) (M.1 (3 + r) i)) = false) => ?_)
        · refine wa_iinc ((nI (i + 1))) [(4, .int (nI (i + 1))), (3, .int (nI (z))), (0, wm_r G (0)), (1, .int (nI (r))), (2, .int (nI (l)))] dX9_till_99 0 rfl (nI_inc _) (by decide) rfl ?_
          refine wa_goto 70 dX9_till_102 (by decide) ?_
          exact ih_70 (i + 1) (by omega) (by omega) (fun j hj => by rcases Nat.lt_or_eq_of_le (Nat.le_of_lt_succ hj) with q | q; (exact hall j q); (subst q; exact c_90))
        · exact absurd (wAll_iff.mp hq i (by omega)) (by rw [c_90]; decide)
  exact L_70 _ 0 (Nat.lt_succ_self _) (Nat.zero_le _) (fun j hj => absurd hj (Nat.not_lt_zero _))
