theorem c_engr_bad1 {G : wm_G} {M : wm_M} (y st e r : Int32) (hy : wIn y 10 = false) : MD G t_X9_engrave [wm_r G (0), .int (y), .int (st), .int (e), .int (r)] (M) (some (.int (-1))) (M) := by
  refine wm_met (by decide) (Nat.le_of_ble_eq_true rfl) ?_
  show WA G t_X9_engrave (fun v_ N_ => v_ = some (.int (-1)) ∧ N_ = M) 0 [(0, wm_r G (0)), (1, .int (y)), (2, .int (st)), (3, .int (e)), (4, .int (r))] [] (M)
  refine wa_iload_n dX9_engrave_0 rfl 1 rfl ?_
  refine wa_cSi (m_isTY y) vX9_isToldYear iX9_engrave_1 rfl rfl (Nat.le_of_ble_eq_true rfl) ⟨by decide, by decide⟩ ?_
  refine wa_eqi (y := (0)) (by rw [hy]; rfl) ?_
  refine wa_if_eq 16 dX9_engrave_4 (by decide) (fun c_4 => ?_) (fun c_4 => absurd c_4 (by decide))
  refine wa_iconst (-1) dX9_engrave_16 (by decide) ?_
  exact wa_iret dX9_engrave_17 rfl ⟨congrArg (fun z => some (Value.int z)) (rfl), rfl⟩

theorem c_engr_bad2 {G : wm_G} {M : wm_M} (w h rn s yr : Nat) (ci : CI M w h rn s yr) (y : Nat) (hy : y < 10) (st e r : Int32) (hb : (wIn st (w + h) && wIn e 2) = false) : MD G t_X9_engrave [wm_r G (0), .int (nI (y)), .int (st), .int (e), .int (r)] (M) (some (.int (-1))) (M) := by
  refine wm_met (by decide) (Nat.le_of_ble_eq_true rfl) ?_
  show WA G t_X9_engrave (fun v_ N_ => v_ = some (.int (-1)) ∧ N_ = M) 0 [(0, wm_r G (0)), (1, .int (nI (y))), (2, .int (st)), (3, .int (e)), (4, .int (r))] [] (M)
  refine wa_iload_n dX9_engrave_0 rfl 1 rfl ?_
  refine wa_cSi (m_isTY (nI y)) vX9_isToldYear iX9_engrave_1 rfl rfl (Nat.le_of_ble_eq_true rfl) ⟨by decide, by decide⟩ ?_
  refine wa_eqi (y := (1)) (by rw [wIn_nI (by omega), decide_eq_true (by omega)]; rfl) ?_
  refine wa_if_eq 16 dX9_engrave_4 (by decide) (fun c_4 => absurd c_4 (by decide)) (fun c_4 => ?_)
  refine wa_aload_n dX9_engrave_7 rfl 0 rfl ?_
  refine wa_iload_n dX9_engrave_8 rfl 2 rfl ?_
  refine wa_iload_n dX9_engrave_9 rfl 3 rfl ?_
  refine wa_cVi (m_isSE w h rn s yr ci st e) vX9_isStreetEnd iX9_engrave_10 (rfl) rfl rfl rfl (Nat.le_of_ble_eq_true rfl) ⟨by decide, by decide⟩ ?_
  refine wa_eqi (y := (0)) (by rw [hb]; rfl) ?_
  refine wa_if_ne 18 dX9_engrave_13 (by decide) (fun c_13 => absurd c_13 (by decide)) (fun c_13 => ?_)
  refine wa_iconst (-1) dX9_engrave_16 (by decide) ?_
  exact wa_iret dX9_engrave_17 rfl ⟨congrArg (fun z => some (Value.int z)) (rfl), rfl⟩

theorem c_engr_bad3 {G : wm_G} {M : wm_M} (w h rn s yr : Nat) (ci : CI M w h rn s yr) (y : Nat) (hy : y < 10) (st e : Nat) (hst : st < w + h) (he : e < 2) (r : Int32) (hr : wIn r 6 = false) : MD G t_X9_engrave [wm_r G (0), .int (nI (y)), .int (nI (st)), .int (nI (e)), .int (r)] (M) (some (.int (-1))) (M) := by
  obtain ⟨⟨hW, hwh⟩, hSt, ⟨h12, h13, hyr, hs4, hsh⟩, hRo, hTx, hLw, hKp, hRO, ⟨hL1, hL10, hL29, hL58⟩, hSe, hDy⟩ := id ci
  have hn6 := TW_n hW
  have hs : s < 4096 := Nat.lt_of_lt_of_le hs4 (p4_le hn6)
  have hw3 := hW.2.2.1
  have hh2 := hW.2.2.2
  refine wm_met (by decide) (Nat.le_of_ble_eq_true rfl) ?_
  show WA G t_X9_engrave (fun v_ N_ => v_ = some (.int (-1)) ∧ N_ = M) 0 [(0, wm_r G (0)), (1, .int (nI (y))), (2, .int (nI (st))), (3, .int (nI (e))), (4, .int (r))] [] (M)
  refine wa_iload_n dX9_engrave_0 rfl 1 rfl ?_
  refine wa_cSi (m_isTY (nI y)) vX9_isToldYear iX9_engrave_1 rfl rfl (Nat.le_of_ble_eq_true rfl) ⟨by decide, by decide⟩ ?_
  refine wa_eqi (y := (1)) (by rw [wIn_nI (by omega), decide_eq_true (by omega)]; rfl) ?_
  refine wa_if_eq 16 dX9_engrave_4 (by decide) (fun c_4 => absurd c_4 (by decide)) (fun c_4 => ?_)
  refine wa_aload_n dX9_engrave_7 rfl 0 rfl ?_
  refine wa_iload_n dX9_engrave_8 rfl 2 rfl ?_
  refine wa_iload_n dX9_engrave_9 rfl 3 rfl ?_
  refine wa_cVi (m_isSE w h rn s yr ci (nI st) (nI e)) vX9_isStreetEnd iX9_engrave_10 (rfl) rfl rfl rfl (Nat.le_of_ble_eq_true rfl) ⟨by decide, by decide⟩ ?_
  refine wa_eqi (y := (1)) (by rw [wIn_nI (by omega), wIn_nI (by omega), decide_eq_true hst, decide_eq_true he]; rfl) ?_
  refine wa_if_ne 18 dX9_engrave_13 (by decide) (fun c_13 => ?_) (fun c_13 => absurd c_13 (by decide))
  refine wa_aload_n dX9_engrave_18 rfl 0 rfl ?_
  refine wa_aload_n dX9_engrave_19 rfl 0 rfl ?_
  refine wa_getr gX9_engrave_20 (rfl) rfl ?_
  refine wa_iload dX9_engrave_23 4 rfl ?_
  refine wa_cVi (m_ref_bad 1 6 60 TB_rows r hr) vX9_refusal iX9_engrave_25 (rfl) rfl rfl rfl (Nat.le_of_ble_eq_true rfl) ⟨by decide, by decide⟩ ?_
  refine wa_istore [(5, .int (-1)), (0, wm_r G (0)), (1, .int (nI (y))), (2, .int (nI (st))), (3, .int (nI (e))), (4, .int (r))] dX9_engrave_28 (by decide) rfl ?_
  refine wa_iload dX9_engrave_30 0 rfl ?_
  refine wa_if_eq 38 dX9_engrave_32 (by decide) (fun c_32 => absurd c_32 (by decide)) (fun c_32 => ?_)
  refine wa_iload dX9_engrave_35 0 rfl ?_
  exact wa_iret dX9_engrave_37 rfl ⟨congrArg (fun z => some (Value.int z)) (rfl), rfl⟩

theorem c_engr_no {G : wm_G} {M : wm_M} (w h rn s yr : Nat) (ci : CI M w h rn s yr) (y : Nat) (hy : y < 10) (st e : Nat) (hst : st < w + h) (he : e < 2) (r : Nat) (hr : r < 6) (hz : M.1 9 r = -1) : MD G t_X9_engrave [wm_r G (0), .int (nI (y)), .int (nI (st)), .int (nI (e)), .int (nI (r))] (M) (some (.int (-3))) (tNote M 1) := by
  obtain ⟨⟨hW, hwh⟩, hSt, ⟨h12, h13, hyr, hs4, hsh⟩, hRo, hTx, hLw, hKp, hRO, ⟨hL1, hL10, hL29, hL58⟩, hSe, hDy⟩ := id ci
  have hn6 := TW_n hW
  have hs : s < 4096 := Nat.lt_of_lt_of_le hs4 (p4_le hn6)
  have hw3 := hW.2.2.1
  have hh2 := hW.2.2.2
  refine wm_met (by decide) (Nat.le_of_ble_eq_true rfl) ?_
  show WA G t_X9_engrave (fun v_ N_ => v_ = some (.int (-3)) ∧ N_ = tNote M 1) 0 [(0, wm_r G (0)), (1, .int (nI (y))), (2, .int (nI (st))), (3, .int (nI (e))), (4, .int (nI (r)))] [] (M)
  refine wa_iload_n dX9_engrave_0 rfl 1 rfl ?_
  refine wa_cSi (m_isTY (nI y)) vX9_isToldYear iX9_engrave_1 rfl rfl (Nat.le_of_ble_eq_true rfl) ⟨by decide, by decide⟩ ?_
  refine wa_eqi (y := (1)) (by rw [wIn_nI (by omega), decide_eq_true (by omega)]; rfl) ?_
  refine wa_if_eq 16 dX9_engrave_4 (by decide) (fun c_4 => absurd c_4 (by decide)) (fun c_4 => ?_)
  refine wa_aload_n dX9_engrave_7 rfl 0 rfl ?_
  refine wa_iload_n dX9_engrave_8 rfl 2 rfl ?_
  refine wa_iload_n dX9_engrave_9 rfl 3 rfl ?_
  refine wa_cVi (m_isSE w h rn s yr ci (nI st) (nI e)) vX9_isStreetEnd iX9_engrave_10 (rfl) rfl rfl rfl (Nat.le_of_ble_eq_true rfl) ⟨by decide, by decide⟩ ?_
  refine wa_eqi (y := (1)) (by rw [wIn_nI (by omega), wIn_nI (by omega), decide_eq_true hst, decide_eq_true he]; rfl) ?_
  refine wa_if_ne 18 dX9_engrave_13 (by decide) (fun c_13 => ?_) (fun c_13 => absurd c_13 (by decide))
  refine wa_aload_n dX9_engrave_18 rfl 0 rfl ?_
  refine wa_aload_n dX9_engrave_19 rfl 0 rfl ?_
  refine wa_getr gX9_engrave_20 (rfl) rfl ?_
  refine wa_iload dX9_engrave_23 4 rfl ?_
  refine wa_cVi (m_ref_no 1 6 60 TB_rows r hr hz) vX9_refusal iX9_engrave_25 (rfl) rfl rfl rfl (Nat.le_of_ble_eq_true rfl) ⟨by decide, by decide⟩ ?_
  refine wa_istore [(5, .int (-3)), (0, wm_r G (0)), (1, .int (nI (y))), (2, .int (nI (st))), (3, .int (nI (e))), (4, .int (nI (r)))] dX9_engrave_28 (by decide) rfl ?_
  refine wa_iload dX9_engrave_30 0 rfl ?_
  refine wa_if_eq 38 dX9_engrave_32 (by decide) (fun c_32 => absurd c_32 (by decide)) (fun c_32 => ?_)
  refine wa_iload dX9_engrave_35 0 rfl ?_
  exact wa_iret dX9_engrave_37 rfl ⟨congrArg (fun z => some (Value.int z)) (rfl), rfl⟩

theorem c_engr_size {G : wm_G} {M : wm_M} (w h rn s yr : Nat) (ci : CI M w h rn s yr) (y : Nat) (hy : y < 10) (st e : Nat) (hst : st < w + h) (he : e < 2) (r : Nat) (hr : r < 6) (z : Nat) (hz1 : M.1 9 r = nI z) (hz9 : z ≤ 60) (hne : ¬ z = sLen w h st) : MD G t_X9_engrave [wm_r G (0), .int (nI (y)), .int (nI (st)), .int (nI (e)), .int (nI (r))] (M) (some (.int (-3))) (tNote M 5) := by
  obtain ⟨⟨hW, hwh⟩, hSt, ⟨h12, h13, hyr, hs4, hsh⟩, hRo, hTx, hLw, hKp, hRO, ⟨hL1, hL10, hL29, hL58⟩, hSe, hDy⟩ := id ci
  have hn6 := TW_n hW
  have hs : s < 4096 := Nat.lt_of_lt_of_le hs4 (p4_le hn6)
  have hw3 := hW.2.2.1
  have hh2 := hW.2.2.2
  have hz : ¬ M.1 9 r = -1 := by rw [hz1]; exact nI_nem1 (by omega)
  have hlen : sLen w h st ≤ 3 := by unfold sLen; split <;> omega
  refine wm_met (by decide) (Nat.le_of_ble_eq_true rfl) ?_
  show WA G t_X9_engrave (fun v_ N_ => v_ = some (.int (-3)) ∧ N_ = tNote M 5) 0 [(0, wm_r G (0)), (1, .int (nI (y))), (2, .int (nI (st))), (3, .int (nI (e))), (4, .int (nI (r)))] [] (M)
  refine wa_iload_n dX9_engrave_0 rfl 1 rfl ?_
  refine wa_cSi (m_isTY (nI y)) vX9_isToldYear iX9_engrave_1 rfl rfl (Nat.le_of_ble_eq_true rfl) ⟨by decide, by decide⟩ ?_
  refine wa_eqi (y := (1)) (by rw [wIn_nI (by omega), decide_eq_true (by omega)]; rfl) ?_
  refine wa_if_eq 16 dX9_engrave_4 (by decide) (fun c_4 => absurd c_4 (by decide)) (fun c_4 => ?_)
  refine wa_aload_n dX9_engrave_7 rfl 0 rfl ?_
  refine wa_iload_n dX9_engrave_8 rfl 2 rfl ?_
  refine wa_iload_n dX9_engrave_9 rfl 3 rfl ?_
  refine wa_cVi (m_isSE w h rn s yr ci (nI st) (nI e)) vX9_isStreetEnd iX9_engrave_10 (rfl) rfl rfl rfl (Nat.le_of_ble_eq_true rfl) ⟨by decide, by decide⟩ ?_
  refine wa_eqi (y := (1)) (by rw [wIn_nI (by omega), wIn_nI (by omega), decide_eq_true hst, decide_eq_true he]; rfl) ?_
  refine wa_if_ne 18 dX9_engrave_13 (by decide) (fun c_13 => ?_) (fun c_13 => absurd c_13 (by decide))
  refine wa_aload_n dX9_engrave_18 rfl 0 rfl ?_
  refine wa_aload_n dX9_engrave_19 rfl 0 rfl ?_
  refine wa_getr gX9_engrave_20 (rfl) rfl ?_
  refine wa_iload dX9_engrave_23 4 rfl ?_
  refine wa_cVi (m_ref_ok 1 6 60 TB_rows r hr hz) vX9_refusal iX9_engrave_25 (rfl) rfl rfl rfl (Nat.le_of_ble_eq_true rfl) ⟨by decide, by decide⟩ ?_
  refine wa_istore [(5, .int (0)), (0, wm_r G (0)), (1, .int (nI (y))), (2, .int (nI (st))), (3, .int (nI (e))), (4, .int (nI (r)))] dX9_engrave_28 (by decide) rfl ?_
  refine wa_iload dX9_engrave_30 0 rfl ?_
  refine wa_if_eq 38 dX9_engrave_32 (by decide) (fun c_32 => ?_) (fun c_32 => absurd c_32 (by decide))
  refine wa_aload_n dX9_engrave_38 rfl 1 rfl ?_
  refine wa_getr gX9_engrave_39 (rfl) rfl ?_
  refine wa_iload dX9_engrave_42 5 rfl ?_
  refine wa_cVi (m_sizeN 1 6 60 TB_rows r hr) vX5_size iX9_engrave_44 (rfl) rfl rfl rfl (Nat.le_of_ble_eq_true rfl) ⟨by decide, by decide⟩ ?_
  refine wa_eqi (y := (nI (z))) (by rw [show M.1 (1 + 2 + 6) r = nI z from hz1, nI_clamp (by omega)]) ?_
  refine wa_aload_n dX9_engrave_47 rfl 1 rfl ?_
  refine wa_getr gX9_engrave_48 (rfl) rfl ?_
  refine wa_iload_n dX9_engrave_51 rfl 3 rfl ?_
  refine wa_cVi (m_length w h hW st (by omega)) vX4_length iX9_engrave_52 (rfl) rfl rfl rfl (Nat.le_of_ble_eq_true rfl) ⟨by decide, by decide⟩ ?_
  refine wa_icmp_eqN (a := z) (b := sLen w h st) 64 dX9_engrave_55 (by decide) (by omega) (by omega) (fun c_55 => absurd c_55 hne) (fun c_55 => ?_)
  refine wa_aload_n dX9_engrave_58 rfl 1 rfl ?_
  refine wa_iconst (5) dX9_engrave_59 (by decide) ?_
  refine wa_cVi (m_find 5 (by decide) (by decide)) vX9_find iX9_engrave_60 (rfl) rfl rfl rfl (Nat.le_of_ble_eq_true rfl) ⟨by decide, by decide⟩ ?_
  exact wa_iret dX9_engrave_63 rfl ⟨congrArg (fun z => some (Value.int z)) (rfl), rfl⟩

theorem c_engr_un {G : wm_G} {M : wm_M} (w h rn s yr : Nat) (ci : CI M w h rn s yr) (y : Nat) (hy : y < 10) (st e : Nat) (hst : st < w + h) (he : e < 2) (r : Nat) (hr : r < 6) (z : Nat) (hz1 : M.1 9 r = nI z) (hz9 : z ≤ 60) (hze : z = sLen w h st) (hq : hwB (M.1 (3 + r)) (-1) z = false) : MD G t_X9_engrave [wm_r G (0), .int (nI (y)), .int (nI (st)), .int (nI (e)), .int (nI (r))] (M) (some (.int (-3))) (tNote M 3) := by
  obtain ⟨⟨hW, hwh⟩, hSt, ⟨h12, h13, hyr, hs4, hsh⟩, hRo, hTx, hLw, hKp, hRO, ⟨hL1, hL10, hL29, hL58⟩, hSe, hDy⟩ := id ci
  have hn6 := TW_n hW
  have hs : s < 4096 := Nat.lt_of_lt_of_le hs4 (p4_le hn6)
  have hw3 := hW.2.2.1
  have hh2 := hW.2.2.2
  have hz : ¬ M.1 9 r = -1 := by rw [hz1]; exact nI_nem1 (by omega)
  have hlen : sLen w h st ≤ 3 := by unfold sLen; split <;> omega
  refine wm_met (by decide) (Nat.le_of_ble_eq_true rfl) ?_
  show WA G t_X9_engrave (fun v_ N_ => v_ = some (.int (-3)) ∧ N_ = tNote M 3) 0 [(0, wm_r G (0)), (1, .int (nI (y))), (2, .int (nI (st))), (3, .int (nI (e))), (4, .int (nI (r)))] [] (M)
  refine wa_iload_n dX9_engrave_0 rfl 1 rfl ?_
  refine wa_cSi (m_isTY (nI y)) vX9_isToldYear iX9_engrave_1 rfl rfl (Nat.le_of_ble_eq_true rfl) ⟨by decide, by decide⟩ ?_
  refine wa_eqi (y := (1)) (by rw [wIn_nI (by omega), decide_eq_true (by omega)]; rfl) ?_
  refine wa_if_eq 16 dX9_engrave_4 (by decide) (fun c_4 => absurd c_4 (by decide)) (fun c_4 => ?_)
  refine wa_aload_n dX9_engrave_7 rfl 0 rfl ?_
  refine wa_iload_n dX9_engrave_8 rfl 2 rfl ?_
  refine wa_iload_n dX9_engrave_9 rfl 3 rfl ?_
  refine wa_cVi (m_isSE w h rn s yr ci (nI st) (nI e)) vX9_isStreetEnd iX9_engrave_10 (rfl) rfl rfl rfl (Nat.le_of_ble_eq_true rfl) ⟨by decide, by decide⟩ ?_
  refine wa_eqi (y := (1)) (by rw [wIn_nI (by omega), wIn_nI (by omega), decide_eq_true hst, decide_eq_true he]; rfl) ?_
  refine wa_if_ne 18 dX9_engrave_13 (by decide) (fun c_13 => ?_) (fun c_13 => absurd c_13 (by decide))
  refine wa_aload_n dX9_engrave_18 rfl 0 rfl ?_
  refine wa_aload_n dX9_engrave_19 rfl 0 rfl ?_
  refine wa_getr gX9_engrave_20 (rfl) rfl ?_
  refine wa_iload dX9_engrave_23 4 rfl ?_
  refine wa_cVi (m_ref_ok 1 6 60 TB_rows r hr hz) vX9_refusal iX9_engrave_25 (rfl) rfl rfl rfl (Nat.le_of_ble_eq_true rfl) ⟨by decide, by decide⟩ ?_
  refine wa_istore [(5, .int (0)), (0, wm_r G (0)), (1, .int (nI (y))), (2, .int (nI (st))), (3, .int (nI (e))), (4, .int (nI (r)))] dX9_engrave_28 (by decide) rfl ?_
  refine wa_iload dX9_engrave_30 0 rfl ?_
  refine wa_if_eq 38 dX9_engrave_32 (by decide) (fun c_32 => ?_) (fun c_32 => absurd c_32 (by decide))
  refine wa_aload_n dX9_engrave_38 rfl 1 rfl ?_
  refine wa_getr gX9_engrave_39 (rfl) rfl ?_
  refine wa_iload dX9_engrave_42 5 rfl ?_
  refine wa_cVi (m_sizeN 1 6 60 TB_rows r hr) vX5_size iX9_engrave_44 (rfl) rfl rfl rfl (Nat.le_of_ble_eq_true rfl) ⟨by decide, by decide⟩ ?_
  refine wa_eqi (y := (nI (z))) (by rw [show M.1 (1 + 2 + 6) r = nI z from hz1, nI_clamp (by omega)]) ?_
  refine wa_aload_n dX9_engrave_47 rfl 1 rfl ?_
  refine wa_getr gX9_engrave_48 (rfl) rfl ?_
  refine wa_iload_n dX9_engrave_51 rfl 3 rfl ?_
  refine wa_cVi (m_length w h hW st (by omega)) vX4_length iX9_engrave_52 (rfl) rfl rfl rfl (Nat.le_of_ble_eq_true rfl) ⟨by decide, by decide⟩ ?_
  refine wa_icmp_eqN (a := z) (b := sLen w h st) 64 dX9_engrave_55 (by decide) (by omega) (by omega) (fun c_55 => ?_) (fun c_55 => absurd hze c_55)
  refine wa_aload_n dX9_engrave_64 rfl 1 rfl ?_
  refine wa_iload dX9_engrave_65 5 rfl ?_
  refine wa_iconst (-1) dX9_engrave_67 (by decide) ?_
  refine wa_cVi (m_holdsWords r hr z hz1 hz9 (-1)) vX9_holdsWords iX9_engrave_68 (rfl) rfl rfl rfl (Nat.le_of_ble_eq_true rfl) ⟨by decide, by decide⟩ ?_
  refine wa_eqi (y := (0)) (by rw [hq]; rfl) ?_
  refine wa_if_ne 80 dX9_engrave_71 (by decide) (fun c_71 => absurd c_71 (by decide)) (fun c_71 => ?_)
  refine wa_aload_n dX9_engrave_74 rfl 1 rfl ?_
  refine wa_iconst (3) dX9_engrave_75 (by decide) ?_
  refine wa_cVi (m_find 3 (by decide) (by decide)) vX9_find iX9_engrave_76 (rfl) rfl rfl rfl (Nat.le_of_ble_eq_true rfl) ⟨by decide, by decide⟩ ?_
  exact wa_iret dX9_engrave_79 rfl ⟨congrArg (fun z => some (Value.int z)) (rfl), rfl⟩

theorem c_engr_full {G : wm_G} {M : wm_M} (w h rn s yr : Nat) (ci : CI M w h rn s yr) (y : Nat) (hy : y < 10) (st e : Nat) (hst : st < w + h) (he : e < 2) (r : Nat) (hr : r < 6) (z : Nat) (hz1 : M.1 9 r = nI z) (hz9 : z ≤ 60) (hze : z = sLen w h st) (hq : hwB (M.1 (3 + r)) (-1) z = true) (hf : rn = 4) : MD G t_X9_engrave [wm_r G (0), .int (nI (y)), .int (nI (st)), .int (nI (e)), .int (nI (r))] (M) (some (.int (-2))) (M) := by
  obtain ⟨⟨hW, hwh⟩, hSt, ⟨h12, h13, hyr, hs4, hsh⟩, hRo, hTx, hLw, hKp, hRO, ⟨hL1, hL10, hL29, hL58⟩, hSe, hDy⟩ := id ci
  have hn6 := TW_n hW
  have hs : s < 4096 := Nat.lt_of_lt_of_le hs4 (p4_le hn6)
  have hw3 := hW.2.2.1
  have hh2 := hW.2.2.2
  have hz : ¬ M.1 9 r = -1 := by rw [hz1]; exact nI_nem1 (by omega)
  have hlen : sLen w h st ≤ 3 := by unfold sLen; split <;> omega
  refine wm_met (by decide) (Nat.le_of_ble_eq_true rfl) ?_
  show WA G t_X9_engrave (fun v_ N_ => v_ = some (.int (-2)) ∧ N_ = M) 0 [(0, wm_r G (0)), (1, .int (nI (y))), (2, .int (nI (st))), (3, .int (nI (e))), (4, .int (nI (r)))] [] (M)
  refine wa_iload_n dX9_engrave_0 rfl 1 rfl ?_
  refine wa_cSi (m_isTY (nI y)) vX9_isToldYear iX9_engrave_1 rfl rfl (Nat.le_of_ble_eq_true rfl) ⟨by decide, by decide⟩ ?_
  refine wa_eqi (y := (1)) (by rw [wIn_nI (by omega), decide_eq_true (by omega)]; rfl) ?_
  refine wa_if_eq 16 dX9_engrave_4 (by decide) (fun c_4 => absurd c_4 (by decide)) (fun c_4 => ?_)
  refine wa_aload_n dX9_engrave_7 rfl 0 rfl ?_
  refine wa_iload_n dX9_engrave_8 rfl 2 rfl ?_
  refine wa_iload_n dX9_engrave_9 rfl 3 rfl ?_
  refine wa_cVi (m_isSE w h rn s yr ci (nI st) (nI e)) vX9_isStreetEnd iX9_engrave_10 (rfl) rfl rfl rfl (Nat.le_of_ble_eq_true rfl) ⟨by decide, by decide⟩ ?_
  refine wa_eqi (y := (1)) (by rw [wIn_nI (by omega), wIn_nI (by omega), decide_eq_true hst, decide_eq_true he]; rfl) ?_
  refine wa_if_ne 18 dX9_engrave_13 (by decide) (fun c_13 => ?_) (fun c_13 => absurd c_13 (by decide))
  refine wa_aload_n dX9_engrave_18 rfl 0 rfl ?_
  refine wa_aload_n dX9_engrave_19 rfl 0 rfl ?_
  refine wa_getr gX9_engrave_20 (rfl) rfl ?_
  refine wa_iload dX9_engrave_23 4 rfl ?_
  refine wa_cVi (m_ref_ok 1 6 60 TB_rows r hr hz) vX9_refusal iX9_engrave_25 (rfl) rfl rfl rfl (Nat.le_of_ble_eq_true rfl) ⟨by decide, by decide⟩ ?_
  refine wa_istore [(5, .int (0)), (0, wm_r G (0)), (1, .int (nI (y))), (2, .int (nI (st))), (3, .int (nI (e))), (4, .int (nI (r)))] dX9_engrave_28 (by decide) rfl ?_
  refine wa_iload dX9_engrave_30 0 rfl ?_
  refine wa_if_eq 38 dX9_engrave_32 (by decide) (fun c_32 => ?_) (fun c_32 => absurd c_32 (by decide))
  refine wa_aload_n dX9_engrave_38 rfl 1 rfl ?_
  refine wa_getr gX9_engrave_39 (rfl) rfl ?_
  refine wa_iload dX9_engrave_42 5 rfl ?_
  refine wa_cVi (m_sizeN 1 6 60 TB_rows r hr) vX5_size iX9_engrave_44 (rfl) rfl rfl rfl (Nat.le_of_ble_eq_true rfl) ⟨by decide, by decide⟩ ?_
  refine wa_eqi (y := (nI (z))) (by rw [show M.1 (1 + 2 + 6) r = nI z from hz1, nI_clamp (by omega)]) ?_
  refine wa_aload_n dX9_engrave_47 rfl 1 rfl ?_
  refine wa_getr gX9_engrave_48 (rfl) rfl ?_
  refine wa_iload_n dX9_engrave_51 rfl 3 rfl ?_
  refine wa_cVi (m_length w h hW st (by omega)) vX4_length iX9_engrave_52 (rfl) rfl rfl rfl (Nat.le_of_ble_eq_true rfl) ⟨by decide, by decide⟩ ?_
  refine wa_icmp_eqN (a := z) (b := sLen w h st) 64 dX9_engrave_55 (by decide) (by omega) (by omega) (fun c_55 => ?_) (fun c_55 => absurd hze c_55)
  refine wa_aload_n dX9_engrave_64 rfl 1 rfl ?_
  refine wa_iload dX9_engrave_65 5 rfl ?_
  refine wa_iconst (-1) dX9_engrave_67 (by decide) ?_
  refine wa_cVi (m_holdsWords r hr z hz1 hz9 (-1)) vX9_holdsWords iX9_engrave_68 (rfl) rfl rfl rfl (Nat.le_of_ble_eq_true rfl) ⟨by decide, by decide⟩ ?_
  refine wa_eqi (y := (1)) (by rw [hq]; rfl) ?_
  refine wa_if_ne 80 dX9_engrave_71 (by decide) (fun c_71 => ?_) (fun c_71 => absurd c_71 (by decide))
  refine wa_aload_n dX9_engrave_80 rfl 1 rfl ?_
  refine wa_getr gX9_engrave_81 (rfl) rfl ?_
  refine wa_geti gX9_engrave_84 (rfl) rfl ?_
  refine wa_eqi (y := (nI (rn))) (hRO.1) ?_
  refine wa_iconst (4) dX9_engrave_87 (by decide) ?_
  refine wa_icmp_ltN (a := rn) (b := 4) 94 dX9_engrave_88 (by decide) (by omega) (by omega) (fun c_88 => absurd c_88 (by omega)) (fun c_88 => ?_)
  refine wa_bipush (-2) dX9_engrave_91 (by decide) ?_
  exact wa_iret dX9_engrave_93 rfl ⟨congrArg (fun z => some (Value.int z)) (rfl), rfl⟩

theorem c_engr_ok {G : wm_G} {M : wm_M} (w h rn s yr : Nat) (ci : CI M w h rn s yr) (y : Nat) (hy : y < 10) (st e : Nat) (hst : st < w + h) (he : e < 2) (r : Nat) (hr : r < 6) (z : Nat) (hz1 : M.1 9 r = nI z) (hz9 : z ≤ 60) (hze : z = sLen w h st) (hq : hwB (M.1 (3 + r)) (-1) z = true) (hf : rn < 4) : MD G t_X9_engrave [wm_r G (0), .int (nI (y)), .int (nI (st)), .int (nI (e)), .int (nI (r))] (M) (some (.int (nI (rn)))) (egM M rn y st e r z) := by
  obtain ⟨⟨hW, hwh⟩, hSt, ⟨h12, h13, hyr, hs4, hsh⟩, hRo, hTx, hLw, hKp, hRO, ⟨hL1, hL10, hL29, hL58⟩, hSe, hDy⟩ := id ci
  have hn6 := TW_n hW
  have hs : s < 4096 := Nat.lt_of_lt_of_le hs4 (p4_le hn6)
  have hw3 := hW.2.2.1
  have hh2 := hW.2.2.2
  have hz : ¬ M.1 9 r = -1 := by rw [hz1]; exact nI_nem1 (by omega)
  have hlen : sLen w h st ≤ 3 := by unfold sLen; split <;> omega
  refine wm_met (by decide) (Nat.le_of_ble_eq_true rfl) ?_
  show WA G t_X9_engrave (fun v_ N_ => v_ = some (.int (nI (rn))) ∧ N_ = egM M rn y st e r z) 0 [(0, wm_r G (0)), (1, .int (nI (y))), (2, .int (nI (st))), (3, .int (nI (e))), (4, .int (nI (r)))] [] (M)
  refine wa_iload_n dX9_engrave_0 rfl 1 rfl ?_
  refine wa_cSi (m_isTY (nI y)) vX9_isToldYear iX9_engrave_1 rfl rfl (Nat.le_of_ble_eq_true rfl) ⟨by decide, by decide⟩ ?_
  refine wa_eqi (y := (1)) (by rw [wIn_nI (by omega), decide_eq_true (by omega)]; rfl) ?_
  refine wa_if_eq 16 dX9_engrave_4 (by decide) (fun c_4 => absurd c_4 (by decide)) (fun c_4 => ?_)
  refine wa_aload_n dX9_engrave_7 rfl 0 rfl ?_
  refine wa_iload_n dX9_engrave_8 rfl 2 rfl ?_
  refine wa_iload_n dX9_engrave_9 rfl 3 rfl ?_
  refine wa_cVi (m_isSE w h rn s yr ci (nI st) (nI e)) vX9_isStreetEnd iX9_engrave_10 (rfl) rfl rfl rfl (Nat.le_of_ble_eq_true rfl) ⟨by decide, by decide⟩ ?_
  refine wa_eqi (y := (1)) (by rw [wIn_nI (by omega), wIn_nI (by omega), decide_eq_true hst, decide_eq_true he]; rfl) ?_
  refine wa_if_ne 18 dX9_engrave_13 (by decide) (fun c_13 => ?_) (fun c_13 => absurd c_13 (by decide))
  refine wa_aload_n dX9_engrave_18 rfl 0 rfl ?_
  refine wa_aload_n dX9_engrave_19 rfl 0 rfl ?_
  refine wa_getr gX9_engrave_20 (rfl) rfl ?_
  refine wa_iload dX9_engrave_23 4 rfl ?_
  refine wa_cVi (m_ref_ok 1 6 60 TB_rows r hr hz) vX9_refusal iX9_engrave_25 (rfl) rfl rfl rfl (Nat.le_of_ble_eq_true rfl) ⟨by decide, by decide⟩ ?_
  refine wa_istore [(5, .int (0)), (0, wm_r G (0)), (1, .int (nI (y))), (2, .int (nI (st))), (3, .int (nI (e))), (4, .int (nI (r)))] dX9_engrave_28 (by decide) rfl ?_
  refine wa_iload dX9_engrave_30 0 rfl ?_
  refine wa_if_eq 38 dX9_engrave_32 (by decide) (fun c_32 => ?_) (fun c_32 => absurd c_32 (by decide))
  refine wa_aload_n dX9_engrave_38 rfl 1 rfl ?_
  refine wa_getr gX9_engrave_39 (rfl) rfl ?_
  refine wa_iload dX9_engrave_42 5 rfl ?_
  refine wa_cVi (m_sizeN 1 6 60 TB_rows r hr) vX5_size iX9_engrave_44 (rfl) rfl rfl rfl (Nat.le_of_ble_eq_true rfl) ⟨by decide, by decide⟩ ?_
  refine wa_eqi (y := (nI (z))) (by rw [show M.1 (1 + 2 + 6) r = nI z from hz1, nI_clamp (by omega)]) ?_
  refine wa_aload_n dX9_engrave_47 rfl 1 rfl ?_
  refine wa_getr gX9_engrave_48 (rfl) rfl ?_
  refine wa_iload_n dX9_engrave_51 rfl 3 rfl ?_
  refine wa_cVi (m_length w h hW st (by omega)) vX4_length iX9_engrave_52 (rfl) rfl rfl rfl (Nat.le_of_ble_eq_true rfl) ⟨by decide, by decide⟩ ?_
  refine wa_icmp_eqN (a := z) (b := sLen w h st) 64 dX9_engrave_55 (by decide) (by omega) (by omega) (fun c_55 => ?_) (fun c_55 => absurd hze c_55)
  refine wa_aload_n dX9_engrave_64 rfl 1 rfl ?_
  refine wa_iload dX9_engrave_65 5 rfl ?_
  refine wa_iconst (-1) dX9_engrave_67 (by decide) ?_
  refine wa_cVi (m_holdsWords r hr z hz1 hz9 (-1)) vX9_holdsWords iX9_engrave_68 (rfl) rfl rfl rfl (Nat.le_of_ble_eq_true rfl) ⟨by decide, by decide⟩ ?_
  refine wa_eqi (y := (1)) (by rw [hq]; rfl) ?_
  refine wa_if_ne 80 dX9_engrave_71 (by decide) (fun c_71 => ?_) (fun c_71 => absurd c_71 (by decide))
  refine wa_aload_n dX9_engrave_80 rfl 1 rfl ?_
  refine wa_getr gX9_engrave_81 (rfl) rfl ?_
  refine wa_geti gX9_engrave_84 (rfl) rfl ?_
  refine wa_eqi (y := (nI (rn))) (hRO.1) ?_
  refine wa_iconst (4) dX9_engrave_87 (by decide) ?_
  refine wa_icmp_ltN (a := rn) (b := 4) 94 dX9_engrave_88 (by decide) (by omega) (by omega) (fun c_88 => ?_) (fun c_88 => absurd c_88 (by omega))
  refine wa_aload_n dX9_engrave_94 rfl 1 rfl ?_
  refine wa_getr gX9_engrave_95 (rfl) rfl ?_
  refine wa_iload_n dX9_engrave_98 rfl 2 rfl ?_
  refine wa_iload_n dX9_engrave_99 rfl 3 rfl ?_
  refine wa_iload_n dX9_engrave_100 rfl 4 rfl ?_
  refine wa_aload_n dX9_engrave_101 rfl 1 rfl ?_
  refine wa_getr gX9_engrave_102 (rfl) rfl ?_
  refine wa_iload dX9_engrave_105 5 rfl ?_
  refine wa_cVi (m_add (nI y) (nI st) (nI e) r rn z hf hRO.1 hr hz1 (by omega) hL58) vX2_add iX9_engrave_107 (rfl) rfl rfl rfl (Nat.le_of_ble_eq_true rfl) ⟨by decide, by decide⟩ ?_
  exact wa_iret dX9_engrave_110 rfl ⟨congrArg (fun z => some (Value.int z)) (rfl), rfl⟩

theorem c_cont_bad1 {G : wm_G} {M : wm_M} (l n : Int32) (hl : wIn l 4 = false) : MD G t_X9_contest [wm_r G (0), .int (l), .int (n)] (M) (some (.int (-1))) (M) := by
  refine wm_met (by decide) (Nat.le_of_ble_eq_true rfl) ?_
  show WA G t_X9_contest (fun v_ N_ => v_ = some (.int (-1)) ∧ N_ = M) 0 [(0, wm_r G (0)), (1, .int (l)), (2, .int (n))] [] (M)
  refine wa_aload_n dX9_contest_0 rfl 0 rfl ?_
  refine wa_getr gX9_contest_1 (rfl) rfl ?_
  refine wa_getr gX9_contest_4 (rfl) rfl ?_
  refine wa_iload_n dX9_contest_7 rfl 1 rfl ?_
  refine wa_cVi (m_knows 29 4 3 TB_laws l) vX5_knows iX9_contest_8 (rfl) rfl rfl rfl (Nat.le_of_ble_eq_true rfl) ⟨by decide, by decide⟩ ?_
  refine wa_eqi (y := (0)) (by rw [hl]; rfl) ?_
  refine wa_if_eq 24 dX9_contest_11 (by decide) (fun c_11 => ?_) (fun c_11 => absurd c_11 (by decide))
  refine wa_iconst (-1) dX9_contest_24 (by decide) ?_
  exact wa_iret dX9_contest_25 rfl ⟨congrArg (fun z => some (Value.int z)) (rfl), rfl⟩

theorem c_cont_bad2 {G : wm_G} {M : wm_M} (l : Nat) (hl : l < 4) (n : Int32) (hn : wIn n 13 = false) : MD G t_X9_contest [wm_r G (0), .int (nI (l)), .int (n)] (M) (some (.int (-1))) (M) := by
  refine wm_met (by decide) (Nat.le_of_ble_eq_true rfl) ?_
  show WA G t_X9_contest (fun v_ N_ => v_ = some (.int (-1)) ∧ N_ = M) 0 [(0, wm_r G (0)), (1, .int (nI (l))), (2, .int (n))] [] (M)
  refine wa_aload_n dX9_contest_0 rfl 0 rfl ?_
  refine wa_getr gX9_contest_1 (rfl) rfl ?_
  refine wa_getr gX9_contest_4 (rfl) rfl ?_
  refine wa_iload_n dX9_contest_7 rfl 1 rfl ?_
  refine wa_cVi (m_knowsN 29 4 3 TB_laws l hl) vX5_knows iX9_contest_8 (rfl) rfl rfl rfl (Nat.le_of_ble_eq_true rfl) ⟨by decide, by decide⟩ ?_
  refine wa_if_eq 24 dX9_contest_11 (by decide) (fun c_11 => absurd c_11 (by decide)) (fun c_11 => ?_)
  refine wa_iload_n dX9_contest_14 rfl 2 rfl ?_
  refine wa_if_lt 24 dX9_contest_15 (by decide) (fun c_15 => ?_) (fun c_15 => ?_)
  · refine wa_iconst (-1) dX9_contest_24 (by decide) ?_
    exact wa_iret dX9_contest_25 rfl ⟨congrArg (fun z => some (Value.int z)) (rfl), rfl⟩
  · refine wa_iload_n dX9_contest_18 rfl 2 rfl ?_
    refine wa_bipush (12) dX9_contest_19 (by decide) ?_
    refine wa_icmp_le 26 dX9_contest_21 (by decide) (fun c_21 => absurd (wIn_le (m := 12) (by decide) c_15 c_21) (by rw [hn]; decide)) (fun c_21 => ?_)
    refine wa_iconst (-1) dX9_contest_24 (by decide) ?_
    exact wa_iret dX9_contest_25 rfl ⟨congrArg (fun z => some (Value.int z)) (rfl), rfl⟩

theorem c_cont_no {G : wm_G} {M : wm_M} (l : Nat) (hl : l < 4) (n : Nat) (hn : n ≤ 12) (hz : M.1 35 l = -1) : MD G t_X9_contest [wm_r G (0), .int (nI (l)), .int (nI (n))] (M) (some (.int (-3))) (tNote M 1) := by
  refine wm_met (by decide) (Nat.le_of_ble_eq_true rfl) ?_
  show WA G t_X9_contest (fun v_ N_ => v_ = some (.int (-3)) ∧ N_ = tNote M 1) 0 [(0, wm_r G (0)), (1, .int (nI (l))), (2, .int (nI (n)))] [] (M)
  refine wa_aload_n dX9_contest_0 rfl 0 rfl ?_
  refine wa_getr gX9_contest_1 (rfl) rfl ?_
  refine wa_getr gX9_contest_4 (rfl) rfl ?_
  refine wa_iload_n dX9_contest_7 rfl 1 rfl ?_
  refine wa_cVi (m_knowsN 29 4 3 TB_laws l hl) vX5_knows iX9_contest_8 (rfl) rfl rfl rfl (Nat.le_of_ble_eq_true rfl) ⟨by decide, by decide⟩ ?_
  refine wa_if_eq 24 dX9_contest_11 (by decide) (fun c_11 => absurd c_11 (by decide)) (fun c_11 => ?_)
  refine wa_iload_n dX9_contest_14 rfl 2 rfl ?_
  refine wa_if_ltN (a := n) 24 dX9_contest_15 (by decide) (by omega) (fun c_15 => absurd c_15 (by omega)) (fun c_15 => ?_)
  refine wa_iload_n dX9_contest_18 rfl 2 rfl ?_
  refine wa_bipush (12) dX9_contest_19 (by decide) ?_
  refine wa_icmp_leN (a := n) (b := 12) 26 dX9_contest_21 (by decide) (by omega) (by omega) (fun c_21 => ?_) (fun c_21 => absurd c_21 (by omega))
  refine wa_aload_n dX9_contest_26 rfl 0 rfl ?_
  refine wa_getr gX9_contest_27 (rfl) rfl ?_
  refine wa_getr gX9_contest_30 (rfl) rfl ?_
  refine wa_iload_n dX9_contest_33 rfl 1 rfl ?_
  refine wa_cVi (m_hasN 29 4 3 TB_laws l hl) vX5_has iX9_contest_34 (rfl) rfl rfl rfl (Nat.le_of_ble_eq_true rfl) ⟨by decide, by decide⟩ ?_
  refine wa_eqi (y := (0)) (by rw [show M.1 (29 + 2 + 4) l = -1 from hz]; rfl) ?_
  refine wa_if_ne 46 dX9_contest_37 (by decide) (fun c_37 => absurd c_37 (by decide)) (fun c_37 => ?_)
  refine wa_aload_n dX9_contest_40 rfl 0 rfl ?_
  refine wa_iconst (1) dX9_contest_41 (by decide) ?_
  refine wa_cVi (m_find 1 (by decide) (by decide)) vX9_find iX9_contest_42 (rfl) rfl rfl rfl (Nat.le_of_ble_eq_true rfl) ⟨by decide, by decide⟩ ?_
  exact wa_iret dX9_contest_45 rfl ⟨congrArg (fun z => some (Value.int z)) (rfl), rfl⟩

theorem c_cont_ok {G : wm_G} {M : wm_M} (w h rn s yr : Nat) (ci : CI M w h rn s yr) (l : Nat) (hl : l < 4) (n : Nat) (hn : n ≤ 12) (hz : ¬ M.1 35 l = -1) : MA G t_X9_contest [wm_r G (0), .int (nI (l)), .int (nI (n))] (M) (fun v N => v = some (.int (wB (won M w h l n s))) ∧ EqR (tTell M (opn M w h l n s)) N) := by
  obtain ⟨⟨hW, hwh⟩, hSt, ⟨h12, h13, hyr, hs4, hsh⟩, hRo, hTx, hLw, hKp, hRO, ⟨hL1, hL10, hL29, hL58⟩, hSe, hDy⟩ := id ci
  have hn6 := TW_n hW
  have hs : s < 4096 := Nat.lt_of_lt_of_le hs4 (p4_le hn6)
  have hw3 := hW.2.2.1
  have hh2 := hW.2.2.2
  refine wm_met (by decide) (Nat.le_of_ble_eq_true rfl) ?_
  show WA G t_X9_contest (fun v N => v = some (.int (wB (won M w h l n s))) ∧ EqR (tTell M (opn M w h l n s)) N) 0 [(0, wm_r G (0)), (1, .int (nI (l))), (2, .int (nI (n)))] [] (M)
  refine wa_aload_n dX9_contest_0 rfl 0 rfl ?_
  refine wa_getr gX9_contest_1 (rfl) rfl ?_
  refine wa_getr gX9_contest_4 (rfl) rfl ?_
  refine wa_iload_n dX9_contest_7 rfl 1 rfl ?_
  refine wa_cVi (m_knowsN 29 4 3 TB_laws l hl) vX5_knows iX9_contest_8 (rfl) rfl rfl rfl (Nat.le_of_ble_eq_true rfl) ⟨by decide, by decide⟩ ?_
  refine wa_if_eq 24 dX9_contest_11 (by decide) (fun c_11 => absurd c_11 (by decide)) (fun c_11 => ?_)
  refine wa_iload_n dX9_contest_14 rfl 2 rfl ?_
  refine wa_if_ltN (a := n) 24 dX9_contest_15 (by decide) (by omega) (fun c_15 => absurd c_15 (by omega)) (fun c_15 => ?_)
  refine wa_iload_n dX9_contest_18 rfl 2 rfl ?_
  refine wa_bipush (12) dX9_contest_19 (by decide) ?_
  refine wa_icmp_leN (a := n) (b := 12) 26 dX9_contest_21 (by decide) (by omega) (by omega) (fun c_21 => ?_) (fun c_21 => absurd c_21 (by omega))
  refine wa_aload_n dX9_contest_26 rfl 0 rfl ?_
  refine wa_getr gX9_contest_27 (rfl) rfl ?_
  refine wa_getr gX9_contest_30 (rfl) rfl ?_
  refine wa_iload_n dX9_contest_33 rfl 1 rfl ?_
  refine wa_cVi (m_hasN 29 4 3 TB_laws l hl) vX5_has iX9_contest_34 (rfl) rfl rfl rfl (Nat.le_of_ble_eq_true rfl) ⟨by decide, by decide⟩ ?_
  refine wa_eqi (y := (1)) (by rw [show decide (M.1 (29 + 2 + 4) l = -1) = false from decide_eq_false hz]; rfl) ?_
  refine wa_if_ne 46 dX9_contest_37 (by decide) (fun c_37 => ?_) (fun c_37 => absurd c_37 (by decide))
  refine wa_aload_n dX9_contest_46 rfl 0 rfl ?_
  refine wa_getr gX9_contest_47 (rfl) rfl ?_
  refine wa_iload_n dX9_contest_50 rfl 1 rfl ?_
  refine wa_iload_n dX9_contest_51 rfl 2 rfl ?_
  refine wa_aload_n dX9_contest_52 rfl 0 rfl ?_
  refine wa_geti gX9_contest_53 (rfl) rfl ?_
  refine wa_eqi (y := (nI (s))) (h12) ?_
  refine wa_callV (m_isWon w h hW l n s hl hn hs) vX8_isWon iX9_contest_56 (rfl) rfl rfl rfl (Nat.le_of_ble_eq_true rfl) ⟨by decide, by decide⟩ (fun v_ N h_ => ?_)
  obtain ⟨rfl, hF, hop⟩ := h_
  show WA G t_X9_contest (fun v N => v = some (.int (wB (won M w h l n s))) ∧ EqR (tTell M (opn M w h l n s)) N) 59 [(0, wm_r G (0)), (1, .int (nI (l))), (2, .int (nI (n)))] [.int (wB (won M w h l n s))] (N)
  refine wa_istore_n [(3, .int (wB (won M w h l n s))), (0, wm_r G (0)), (1, .int (nI (l))), (2, .int (nI (n)))] dX9_contest_59 rfl (by decide) rfl ?_
  refine wa_aload_n dX9_contest_60 rfl 1 rfl ?_
  refine wa_getr gX9_contest_61 (rfl) rfl ?_
  refine wa_aload_n dX9_contest_64 rfl 1 rfl ?_
  refine wa_getr gX9_contest_65 (rfl) rfl ?_
  refine wa_geti gX9_contest_68 (rfl) rfl ?_
  refine wa_eqi (y := (opn M w h l n s)) (hop) ?_
  refine wa_puti gX9_contest_71 (rfl) rfl ?_
  refine wa_iload_n dX9_contest_74 rfl 0 rfl ?_
  refine wa_if_eqB 82 dX9_contest_75 (by decide) (fun (c_75 : (won M w h l n s) = false) => ?_) (fun (c_75 : (won M w h l n s) = true) => ?_)
  · refine wa_iconst (0) dX9_contest_82 (by decide) ?_
    refine wa_iret dX9_contest_83 rfl ?_
    exact ⟨by rw [c_75]; rfl, (EqR.want (hF.mono (by simp) (by simp))).tell⟩
  · refine wa_iconst (1) dX9_contest_78 (by decide) ?_
    refine wa_goto 83 dX9_contest_79 (by decide) ?_
    refine wa_iret dX9_contest_83 rfl ?_
    exact ⟨by rw [c_75]; rfl, (EqR.want (hF.mono (by simp) (by simp))).tell⟩
