theorem c_way_bad1 {G : wm_G} {M : wm_M} (set r : Int32) (hset : wIn set 16 = false) : MD G t_X9_way [wm_r G (0), .int (set), .int (r)] (M) (some (.int (-1))) (M) := by
  refine wm_met (by decide) (Nat.le_of_ble_eq_true rfl) ?_
  show WA G t_X9_way (fun v_ N_ => v_ = some (.int (-1)) ∧ N_ = M) 0 [(0, wm_r G (0)), (1, .int (set)), (2, .int (r))] [] (M)
  refine wa_iload_n dX9_way_0 rfl 1 rfl ?_
  refine wa_cSi (m_isLS set) vX9_isLawSet iX9_way_1 rfl rfl (Nat.le_of_ble_eq_true rfl) ⟨by decide, by decide⟩ ?_
  refine wa_eqi (y := (0)) (by rw [hset]; rfl) ?_
  refine wa_if_eq 18 dX9_way_4 (by decide) (fun c_4 => ?_) (fun c_4 => absurd c_4 (by decide))
  refine wa_iconst (-1) dX9_way_18 (by decide) ?_
  exact wa_iret dX9_way_19 rfl ⟨congrArg (fun z => some (Value.int z)) (rfl), rfl⟩

theorem c_way_bad2 {G : wm_G} {M : wm_M} (set : Nat) (hset : set < 16) (r : Int32) (hr : wIn r 6 = false) : MD G t_X9_way [wm_r G (0), .int (nI (set)), .int (r)] (M) (some (.int (-1))) (M) := by
  refine wm_met (by decide) (Nat.le_of_ble_eq_true rfl) ?_
  show WA G t_X9_way (fun v_ N_ => v_ = some (.int (-1)) ∧ N_ = M) 0 [(0, wm_r G (0)), (1, .int (nI (set))), (2, .int (r))] [] (M)
  refine wa_iload_n dX9_way_0 rfl 1 rfl ?_
  refine wa_cSi (m_isLS (nI set)) vX9_isLawSet iX9_way_1 rfl rfl (Nat.le_of_ble_eq_true rfl) ⟨by decide, by decide⟩ ?_
  refine wa_eqi (y := (1)) (by rw [wIn_nI (by omega), decide_eq_true hset]; rfl) ?_
  refine wa_if_eq 18 dX9_way_4 (by decide) (fun c_4 => absurd c_4 (by decide)) (fun c_4 => ?_)
  refine wa_aload_n dX9_way_7 rfl 0 rfl ?_
  refine wa_getr gX9_way_8 (rfl) rfl ?_
  refine wa_iload_n dX9_way_11 rfl 2 rfl ?_
  refine wa_cVi (m_knows 1 6 60 TB_rows r) vX5_knows iX9_way_12 (rfl) rfl rfl rfl (Nat.le_of_ble_eq_true rfl) ⟨by decide, by decide⟩ ?_
  refine wa_eqi (y := (0)) (by rw [hr]; rfl) ?_
  refine wa_if_ne 20 dX9_way_15 (by decide) (fun c_15 => absurd c_15 (by decide)) (fun c_15 => ?_)
  refine wa_iconst (-1) dX9_way_18 (by decide) ?_
  exact wa_iret dX9_way_19 rfl ⟨congrArg (fun z => some (Value.int z)) (rfl), rfl⟩

theorem c_way_no {G : wm_G} {M : wm_M} (w h rn s yr : Nat) (ci : CI M w h rn s yr) (set : Nat) (hset : set < 16) (he : yrs M w h s set = -9) (r : Nat) (hr : r < 6) : MA G t_X9_way [wm_r G (0), .int (nI (set)), .int (nI (r))] (M) (fun v N => v = some (.int (-9)) ∧ EqR M N) := by
  obtain ⟨⟨hW, hwh⟩, hSt, ⟨h12, h13, hyr, hs4, hsh⟩, hRo, hTx, hLw, hKp, hRO, ⟨hL1, hL10, hL29, hL58⟩, hSe, hDy⟩ := id ci
  have hn6 := TW_n hW
  have hs : s < 4096 := Nat.lt_of_lt_of_le hs4 (p4_le hn6)
  have hw3 := hW.2.2.1
  have hh2 := hW.2.2.2
  refine wm_met (by decide) (Nat.le_of_ble_eq_true rfl) ?_
  show WA G t_X9_way (fun v N => v = some (.int (-9)) ∧ EqR M N) 0 [(0, wm_r G (0)), (1, .int (nI (set))), (2, .int (nI (r)))] [] (M)
  refine wa_iload_n dX9_way_0 rfl 1 rfl ?_
  refine wa_cSi (m_isLS (nI set)) vX9_isLawSet iX9_way_1 rfl rfl (Nat.le_of_ble_eq_true rfl) ⟨by decide, by decide⟩ ?_
  refine wa_eqi (y := (1)) (by rw [wIn_nI (by omega), decide_eq_true hset]; rfl) ?_
  refine wa_if_eq 18 dX9_way_4 (by decide) (fun c_4 => absurd c_4 (by decide)) (fun c_4 => ?_)
  refine wa_aload_n dX9_way_7 rfl 0 rfl ?_
  refine wa_getr gX9_way_8 (rfl) rfl ?_
  refine wa_iload_n dX9_way_11 rfl 2 rfl ?_
  refine wa_cVi (m_knowsN 1 6 60 TB_rows r hr) vX5_knows iX9_way_12 (rfl) rfl rfl rfl (Nat.le_of_ble_eq_true rfl) ⟨by decide, by decide⟩ ?_
  refine wa_if_ne 20 dX9_way_15 (by decide) (fun c_15 => ?_) (fun c_15 => absurd c_15 (by decide))
  refine wa_aload_n dX9_way_20 rfl 0 rfl ?_
  refine wa_getr gX9_way_21 (rfl) rfl ?_
  refine wa_aload_n dX9_way_24 rfl 0 rfl ?_
  refine wa_geti gX9_way_25 (rfl) rfl ?_
  refine wa_eqi (y := (nI (s))) (h12) ?_
  refine wa_iload_n dX9_way_28 rfl 1 rfl ?_
  refine wa_callV (m_wleastYears w h hW s set hs hset) vX8_leastYears iX9_way_29 (rfl) rfl rfl rfl (Nat.le_of_ble_eq_true rfl) ⟨by decide, by decide⟩ (fun v_ N h_ => ?_)
  obtain ⟨rfl, hF, hrc⟩ := h_
  show WA G t_X9_way (fun v N => v = some (.int (-9)) ∧ EqR M N) 32 [(0, wm_r G (0)), (1, .int (nI (set))), (2, .int (nI (r)))] [.int (yrs M w h s set)] (N)
  refine wa_eqi (y := (-9)) (he) ?_
  refine wa_istore_n [(3, .int (-9)), (0, wm_r G (0)), (1, .int (nI (set))), (2, .int (nI (r)))] dX9_way_32 rfl (by decide) rfl ?_
  refine wa_iload_n dX9_way_33 rfl 0 rfl ?_
  refine wa_bipush (-9) dX9_way_34 (by decide) ?_
  refine wa_icmp_ne 42 dX9_way_36 (by decide) (fun c_36 => absurd c_36 (by decide)) (fun c_36 => ?_)
  refine wa_bipush (-9) dX9_way_39 (by decide) ?_
  refine wa_iret dX9_way_41 rfl ?_
  exact ⟨rfl, EqR.want hF⟩

theorem c_way_ok {G : wm_G} {M : wm_M} (w h rn s yr : Nat) (ci : CI M w h rn s yr) (set : Nat) (hset : set < 16) (n : Nat) (hn18 : n ≤ 18) (he : yrs M w h s set = nI n) (t : Nat) (hrt : rch M w h s set n = nI t) (ht : hadS M (w * h) t) (hdt : dst (M.1 18) (w * h) s t = n) (r : Nat) (hr : r < 6) : MA G t_X9_way [wm_r G (0), .int (nI (set)), .int (nI (r))] (M) (fun v N => v = some (.int (nI n)) ∧ EqR (wyM M r n (lnF (M.1 18) (w * h) s t)) N) := by
  obtain ⟨⟨hW, hwh⟩, hSt, ⟨h12, h13, hyr, hs4, hsh⟩, hRo, hTx, hLw, hKp, hRO, ⟨hL1, hL10, hL29, hL58⟩, hSe, hDy⟩ := id ci
  have hn6 := TW_n hW
  have hs : s < 4096 := Nat.lt_of_lt_of_le hs4 (p4_le hn6)
  have hw3 := hW.2.2.1
  have hh2 := hW.2.2.2
  have hsS : hadS M (w * h) s := ⟨hs4, hsh⟩
  have ht4 : t < 4096 := Nat.lt_of_lt_of_le ht.1 (p4_le hn6)
  refine wm_met (by decide) (Nat.le_of_ble_eq_true rfl) ?_
  show WA G t_X9_way (fun v N => v = some (.int (nI n)) ∧ EqR (wyM M r n (lnF (M.1 18) (w * h) s t)) N) 0 [(0, wm_r G (0)), (1, .int (nI (set))), (2, .int (nI (r)))] [] (M)
  refine wa_iload_n dX9_way_0 rfl 1 rfl ?_
  refine wa_cSi (m_isLS (nI set)) vX9_isLawSet iX9_way_1 rfl rfl (Nat.le_of_ble_eq_true rfl) ⟨by decide, by decide⟩ ?_
  refine wa_eqi (y := (1)) (by rw [wIn_nI (by omega), decide_eq_true hset]; rfl) ?_
  refine wa_if_eq 18 dX9_way_4 (by decide) (fun c_4 => absurd c_4 (by decide)) (fun c_4 => ?_)
  refine wa_aload_n dX9_way_7 rfl 0 rfl ?_
  refine wa_getr gX9_way_8 (rfl) rfl ?_
  refine wa_iload_n dX9_way_11 rfl 2 rfl ?_
  refine wa_cVi (m_knowsN 1 6 60 TB_rows r hr) vX5_knows iX9_way_12 (rfl) rfl rfl rfl (Nat.le_of_ble_eq_true rfl) ⟨by decide, by decide⟩ ?_
  refine wa_if_ne 20 dX9_way_15 (by decide) (fun c_15 => ?_) (fun c_15 => absurd c_15 (by decide))
  refine wa_aload_n dX9_way_20 rfl 0 rfl ?_
  refine wa_getr gX9_way_21 (rfl) rfl ?_
  refine wa_aload_n dX9_way_24 rfl 0 rfl ?_
  refine wa_geti gX9_way_25 (rfl) rfl ?_
  refine wa_eqi (y := (nI (s))) (h12) ?_
  refine wa_iload_n dX9_way_28 rfl 1 rfl ?_
  refine wa_callV (m_wleastYears w h hW s set hs hset) vX8_leastYears iX9_way_29 (rfl) rfl rfl rfl (Nat.le_of_ble_eq_true rfl) ⟨by decide, by decide⟩ (fun v_ N h_ => ?_)
  obtain ⟨rfl, hF, hrc⟩ := h_
  show WA G t_X9_way (fun v N => v = some (.int (nI n)) ∧ EqR (wyM M r n (lnF (M.1 18) (w * h) s t)) N) 32 [(0, wm_r G (0)), (1, .int (nI (set))), (2, .int (nI (r)))] [.int (yrs M w h s set)] (N)
  refine wa_eqi (y := (nI (n))) (he) ?_
  refine wa_istore_n [(3, .int (nI (n))), (0, wm_r G (0)), (1, .int (nI (set))), (2, .int (nI (r)))] dX9_way_32 rfl (by decide) rfl ?_
  refine wa_iload_n dX9_way_33 rfl 0 rfl ?_
  refine wa_bipush (-9) dX9_way_34 (by decide) ?_
  refine wa_icmp_ne 42 dX9_way_36 (by decide) (fun c_36 => ?_) (fun c_36 => absurd c_36 (nI_ne9 (by omega)))
  refine wa_aload_n dX9_way_42 rfl 1 rfl ?_
  refine wa_getr gX9_way_43 (rfl) rfl ?_
  refine wa_iload_n dX9_way_46 rfl 3 rfl ?_
  refine wa_iload_n dX9_way_47 rfl 0 rfl ?_
  refine wa_iconst (0) dX9_way_48 (by decide) ?_
  refine wa_cVv (m_beginN 1 6 60 TB_rows r n 0 hr (by omega) (by rw [hF.1 1 (nin2 (by decide) (by decide))]; exact hL1)) vX5_begin iX9_way_49 (rfl) rfl rfl rfl (Nat.le_of_ble_eq_true rfl) ⟨by decide, by decide⟩ ?_
  refine wa_eqm (M' := wIa (wI N 9 r (nI n)) (3 + r) (wTo (lnF (M.1 18) (w * h) s t) (wFill (N.1 (3 + r)) 0 n 0) (wSum (tbt (M.1 18) s t) 0))) (by rw [show wSum (tbt (M.1 18) s t) 0 = 0 from rfl, wTo_0]) ?_
  refine wa_iconst (0) dX9_way_52 (by decide) ?_
  refine wa_istore [(4, .int (0)), (3, .int (nI (n))), (0, wm_r G (0)), (1, .int (nI (set))), (2, .int (nI (r)))] dX9_way_53 (by decide) rfl ?_
  refine wa_iconst (0) dX9_way_55 (by decide) ?_
  refine wa_istore [(5, .int (0)), (4, .int (0)), (3, .int (nI (n))), (0, wm_r G (0)), (1, .int (nI (set))), (2, .int (nI (r)))] dX9_way_56 (by decide) rfl ?_
  have L_58 : ∀ (n_ : Nat) (k : Nat), (w * h - k) < n_ → (k ≤ w * h) → WA G t_X9_way (fun v N => v = some (.int (nI n)) ∧ EqR (wyM M r n (lnF (M.1 18) (w * h) s t)) N) 58 [(5, .int (nI (k))), (4, .int (nI (wSum (tbt (M.1 18) s t) k))), (3, .int (nI (n))), (0, wm_r G (0)), (2, .int (nI (r)))] [] (wIa (wI N 9 r (nI n)) (3 + r) (wTo (lnF (M.1 18) (w * h) s t) (wFill (N.1 (3 + r)) 0 n 0) (wSum (tbt (M.1 18) s t) k))) := by
    intro n_
    induction n_ with
    | zero => intro k h_; exact absurd h_ (Nat.not_lt_zero _)
    | succ n_ ih_58 =>
      intro k h_ hk
      have g17 : (wIa (wI N 9 r (nI n)) (3 + r) (wTo (lnF (M.1 18) (w * h) s t) (wFill (N.1 (3 + r)) 0 n 0) (wSum (tbt (M.1 18) s t) k))).1 17 = M.1 17 := by rw [wIa_n (by omega), wI_c (by decide), hF.1 17 (nin2 (by decide) (by decide))]
      have g18 : (wIa (wI N 9 r (nI n)) (3 + r) (wTo (lnF (M.1 18) (w * h) s t) (wFill (N.1 (3 + r)) 0 n 0) (wSum (tbt (M.1 18) s t) k))).1 18 = M.1 18 := by rw [wIa_n (by omega), wI_c (by decide), hF.1 18 (nin2 (by decide) (by decide))]
      have g0 : (wIa (wI N 9 r (nI n)) (3 + r) (wTo (lnF (M.1 18) (w * h) s t) (wFill (N.1 (3 + r)) 0 n 0) (wSum (tbt (M.1 18) s t) k))).1 0 = M.1 0 := by rw [wIa_n (by omega), wI_c (by decide), hF.1 0 (nin2 (by decide) (by decide))]
      have g46 : (wIa (wI N 9 r (nI n)) (3 + r) (wTo (lnF (M.1 18) (w * h) s t) (wFill (N.1 (3 + r)) 0 n 0) (wSum (tbt (M.1 18) s t) k))).1 46 = N.1 46 := by rw [wIa_n (by omega), wI_c (by decide)]
      have hWi := hW.fr g17
      refine wa_iload dX9_way_58 0 rfl ?_
      refine wa_aload_n dX9_way_60 rfl 3 rfl ?_
      refine wa_getr gX9_way_61 (rfl) rfl ?_
      refine wa_cVi (m_number 17 w h SO_17 hWi.1 hWi.2.1) vX4_number iX9_way_64 (rfl) rfl rfl rfl (Nat.le_of_ble_eq_true rfl) ⟨by decide, by decide⟩ ?_
      refine wa_icmp_geN (a := k) (b := w * h) 129 dX9_way_67 (by decide) (by omega) (by omega) (fun c_67 => ?_) (fun c_67 => ?_)
      · refine wa_iload_n dX9_way_129 rfl 2 rfl ?_
        refine wa_iret dX9_way_130 rfl ?_
        exact ⟨rfl, by
          rw [show k = w * h by omega, show wSum (tbt (M.1 18) s t) (w * h) = n from hdt, wTo_fill]
          unfold wyM
          rw [← (EqR.want hF).1 (3 + r) (by unfold scB; simp; omega)]
          exact ((EqR.want hF).sI rfl).sIa⟩
      · refine wa_aload_n dX9_way_70 rfl 3 rfl ?_
        refine wa_getr gX9_way_71 (rfl) rfl ?_
        refine wa_aload_n dX9_way_74 rfl 3 rfl ?_
        refine wa_geti gX9_way_75 (rfl) rfl ?_
        refine wa_eqi (y := (nI (s))) (by rw [g0]; exact h12) ?_
        refine wa_aload_n dX9_way_78 rfl 3 rfl ?_
        refine wa_getr gX9_way_79 (rfl) rfl ?_
        refine wa_geti gX9_way_82 (rfl) rfl ?_
        refine wa_eqi (y := (nI (t))) (by rw [g46]; exact (hrc n hn18 he).trans hrt) ?_
        refine wa_iload dX9_way_85 0 rfl ?_
        refine wa_cVi (m_turnsBetween s t k hs ht4 (by omega)) vX4_turnsBetween iX9_way_87 (rfl) rfl rfl rfl (Nat.le_of_ble_eq_true rfl) ⟨by decide, by decide⟩ ?_
        refine wa_eqi (y := (nI (tbt (M.1 18) s t k))) (by rw [g18]; rfl) ?_
        have h3 := tbt_3 (kd := M.1 18) (s := s) (t := t) (k := k)
        refine wa_istore [(6, .int (nI (tbt (M.1 18) s t k))), (5, .int (nI (k))), (4, .int (nI (wSum (tbt (M.1 18) s t) k))), (3, .int (nI (n))), (0, wm_r G (0)), (2, .int (nI (r)))] dX9_way_90 (by decide) rfl ?_
        refine wa_iconst (0) dX9_way_92 (by decide) ?_
        refine wa_istore [(7, .int (0)), (6, .int (nI (tbt (M.1 18) s t k))), (5, .int (nI (k))), (4, .int (nI (wSum (tbt (M.1 18) s t) k))), (3, .int (nI (n))), (0, wm_r G (0)), (2, .int (nI (r)))] dX9_way_93 (by decide) rfl ?_
        have L_95 : ∀ (n_ : Nat) (q : Nat), (tbt (M.1 18) s t k - q) < n_ → (q ≤ tbt (M.1 18) s t k) → WA G t_X9_way (fun v N => v = some (.int (nI n)) ∧ EqR (wyM M r n (lnF (M.1 18) (w * h) s t)) N) 95 [(7, .int (nI (q))), (6, .int (nI (tbt (M.1 18) s t k))), (5, .int (nI (k))), (4, .int (nI (wSum (tbt (M.1 18) s t) k + q))), (3, .int (nI (n))), (0, wm_r G (0)), (2, .int (nI (r)))] [] (wIa (wI N 9 r (nI n)) (3 + r) (wTo (lnF (M.1 18) (w * h) s t) (wFill (N.1 (3 + r)) 0 n 0) (wSum (tbt (M.1 18) s t) k + q))) := by
          intro n_
          induction n_ with
          | zero => intro q h_; exact absurd h_ (Nat.not_lt_zero _)
          | succ n_ ih_95 =>
            intro q h_ hq
            have hkk : wSum (tbt (M.1 18) s t) (k + 1) ≤ wSum (tbt (M.1 18) s t) (w * h) := wSum_mono (by omega)
            have hkn : wSum (tbt (M.1 18) s t) (w * h) = n := hdt
            simp only [wSum] at hkk
            refine wa_iload dX9_way_95 0 rfl ?_
            refine wa_iload dX9_way_97 1 rfl ?_
            refine wa_icmp_geN (a := q) (b := tbt (M.1 18) s t k) 123 dX9_way_99 (by decide) (by omega) (by omega) (fun c_99 => ?_) (fun c_99 => ?_)
            · refine wa_iinc ((nI (k + 1))) [(5, .int (nI (k + 1))), (7, .int (nI (q))), (6, .int (nI (tbt (M.1 18) s t k))), (4, .int (nI (wSum (tbt (M.1 18) s t) k + q))), (3, .int (nI (n))), (0, wm_r G (0)), (2, .int (nI (r)))] dX9_way_123 2 rfl (nI_inc _) (by decide) rfl ?_
              refine wa_goto 58 dX9_way_126 (by decide) ?_
              refine wa_sub [0, 3, 4, 5, 6] rfl ?_
              rw [show wSum (tbt (M.1 18) s t) k + q = wSum (tbt (M.1 18) s t) (k + 1) by simp only [wSum]; omega]
              exact ih_58 (k + 1) (by omega) (by omega)
            · refine wa_aload_n dX9_way_102 rfl 5 rfl ?_
              refine wa_getr gX9_way_103 (rfl) rfl ?_
              refine wa_iload_n dX9_way_106 rfl 6 rfl ?_
              refine wa_iload dX9_way_107 3 rfl ?_
              refine wa_iinc ((nI (wSum (tbt (M.1 18) s t) k + (q + 1)))) [(4, .int (nI (wSum (tbt (M.1 18) s t) k + (q + 1)))), (7, .int (nI (q))), (6, .int (nI (tbt (M.1 18) s t k))), (5, .int (nI (k))), (3, .int (nI (n))), (0, wm_r G (0)), (2, .int (nI (r)))] dX9_way_109 3 rfl (nI_inc _) (by decide) rfl ?_
              refine wa_iload dX9_way_112 3 rfl ?_
              refine wa_cVv (m_setN (M := wIa (wI N 9 r (nI n)) (3 + r) (wTo (lnF (M.1 18) (w * h) s t) (wFill (N.1 (3 + r)) 0 n 0) (wSum (tbt (M.1 18) s t) k + q))) 1 6 60 TB_rows r (wSum (tbt (M.1 18) s t) k + q) n (nI k) hr (by omega) (by rw [wIa_n (by omega), wI_at]) (by omega)) vX5_set iX9_way_114 (rfl) rfl rfl rfl (Nat.le_of_ble_eq_true rfl) ⟨by decide, by decide⟩ ?_
              refine wa_eqm (M' := wIa (wI N 9 r (nI n)) (3 + r) (wTo (lnF (M.1 18) (w * h) s t) (wFill (N.1 (3 + r)) 0 n 0) (wSum (tbt (M.1 18) s t) k + (q + 1)))) (by rw [wI_wIa, wTo_s (ln_at (by omega) (by omega)).symm]; rfl) ?_
              refine wa_iinc ((nI (q + 1))) [(7, .int (nI (q + 1))), (4, .int (nI (wSum (tbt (M.1 18) s t) k + (q + 1)))), (6, .int (nI (tbt (M.1 18) s t k))), (5, .int (nI (k))), (3, .int (nI (n))), (0, wm_r G (0)), (2, .int (nI (r)))] dX9_way_117 1 rfl (nI_inc _) (by decide) rfl ?_
              refine wa_goto 95 dX9_way_120 (by decide) ?_
              refine wa_sub [0, 2, 3, 1, 4, 5, 6] rfl ?_
              exact ih_95 (q + 1) (by omega) (by omega)
        exact L_95 _ 0 (Nat.lt_succ_self _) (Nat.zero_le _)
  refine wa_sub [0, 1, 2, 3, 5] rfl ?_
  exact L_58 _ 0 (Nat.lt_succ_self _) (Nat.zero_le _)

theorem c_lost_bad {G : wm_G} {M : wm_M} (set : Int32) (hset : wIn set 16 = false) : MD G t_X9_lost [wm_r G (0), .int (set)] (M) (some (.int (-1))) (M) := by
  refine wm_met (by decide) (Nat.le_of_ble_eq_true rfl) ?_
  show WA G t_X9_lost (fun v_ N_ => v_ = some (.int (-1)) ∧ N_ = M) 0 [(0, wm_r G (0)), (1, .int (set))] [] (M)
  refine wa_iload_n dX9_lost_0 rfl 1 rfl ?_
  refine wa_cSi (m_isLS set) vX9_isLawSet iX9_lost_1 rfl rfl (Nat.le_of_ble_eq_true rfl) ⟨by decide, by decide⟩ ?_
  refine wa_eqi (y := (0)) (by rw [hset]; rfl) ?_
  refine wa_if_ne 9 dX9_lost_4 (by decide) (fun c_4 => absurd c_4 (by decide)) (fun c_4 => ?_)
  refine wa_iconst (-1) dX9_lost_7 (by decide) ?_
  exact wa_iret dX9_lost_8 rfl ⟨congrArg (fun z => some (Value.int z)) (rfl), rfl⟩

theorem c_lost_no {G : wm_G} {M : wm_M} (w h rn s yr : Nat) (ci : CI M w h rn s yr) (set : Nat) (hset : set < 16) (he : yrs M w h s set = -9) : MA G t_X9_lost [wm_r G (0), .int (nI (set))] (M) (fun v N => v = some (.int (-9)) ∧ EqR M N) := by
  obtain ⟨⟨hW, hwh⟩, hSt, ⟨h12, h13, hyr, hs4, hsh⟩, hRo, hTx, hLw, hKp, hRO, ⟨hL1, hL10, hL29, hL58⟩, hSe, hDy⟩ := id ci
  have hn6 := TW_n hW
  have hs : s < 4096 := Nat.lt_of_lt_of_le hs4 (p4_le hn6)
  have hw3 := hW.2.2.1
  have hh2 := hW.2.2.2
  refine wm_met (by decide) (Nat.le_of_ble_eq_true rfl) ?_
  show WA G t_X9_lost (fun v N => v = some (.int (-9)) ∧ EqR M N) 0 [(0, wm_r G (0)), (1, .int (nI (set)))] [] (M)
  refine wa_iload_n dX9_lost_0 rfl 1 rfl ?_
  refine wa_cSi (m_isLS (nI set)) vX9_isLawSet iX9_lost_1 rfl rfl (Nat.le_of_ble_eq_true rfl) ⟨by decide, by decide⟩ ?_
  refine wa_eqi (y := (1)) (by rw [wIn_nI (by omega), decide_eq_true hset]; rfl) ?_
  refine wa_if_ne 9 dX9_lost_4 (by decide) (fun c_4 => ?_) (fun c_4 => absurd c_4 (by decide))
  refine wa_aload_n dX9_lost_9 rfl 0 rfl ?_
  refine wa_getr gX9_lost_10 (rfl) rfl ?_
  refine wa_aload_n dX9_lost_13 rfl 0 rfl ?_
  refine wa_geti gX9_lost_14 (rfl) rfl ?_
  refine wa_eqi (y := (nI (s))) (h12) ?_
  refine wa_iload_n dX9_lost_17 rfl 1 rfl ?_
  refine wa_callV (m_wleastYears w h hW s set hs hset) vX8_leastYears iX9_lost_18 (rfl) rfl rfl rfl (Nat.le_of_ble_eq_true rfl) ⟨by decide, by decide⟩ (fun v_ N h_ => ?_)
  obtain ⟨rfl, hF, hrc⟩ := h_
  show WA G t_X9_lost (fun v N => v = some (.int (-9)) ∧ EqR M N) 21 [(0, wm_r G (0)), (1, .int (nI (set)))] [.int (yrs M w h s set)] (N)
  refine wa_eqi (y := (-9)) (he) ?_
  refine wa_bipush (-9) dX9_lost_21 (by decide) ?_
  refine wa_icmp_ne 29 dX9_lost_23 (by decide) (fun c_23 => absurd c_23 (by decide)) (fun c_23 => ?_)
  refine wa_bipush (-9) dX9_lost_26 (by decide) ?_
  refine wa_iret dX9_lost_28 rfl ?_
  exact ⟨rfl, EqR.want hF⟩

theorem c_lost_ok {G : wm_G} {M : wm_M} (w h rn s yr : Nat) (ci : CI M w h rn s yr) (set : Nat) (hset : set < 16) (n : Nat) (hn18 : n ≤ 18) (he : yrs M w h s set = nI n) (t : Nat) (hrt : rch M w h s set n = nI t) (ht : hadS M (w * h) t) (hdt : dst (M.1 18) (w * h) s t = n) : MA G t_X9_lost [wm_r G (0), .int (nI (set))] (M) (fun v N => v = some (.int (nI (wBits (fun l => stB M s l && !stB M (rwS M (lnF (M.1 18) (w * h) s t) s n) l) 4))) ∧ EqR (tTell M (nI (wBits (alB M (lnF (M.1 18) (w * h) s t) s (n)) 4))) N) := by
  obtain ⟨⟨hW, hwh⟩, hSt, ⟨h12, h13, hyr, hs4, hsh⟩, hRo, hTx, hLw, hKp, hRO, ⟨hL1, hL10, hL29, hL58⟩, hSe, hDy⟩ := id ci
  have hn6 := TW_n hW
  have hs : s < 4096 := Nat.lt_of_lt_of_le hs4 (p4_le hn6)
  have hw3 := hW.2.2.1
  have hh2 := hW.2.2.2
  have hsS : hadS M (w * h) s := ⟨hs4, hsh⟩
  have ht4 : t < 4096 := Nat.lt_of_lt_of_le ht.1 (p4_le hn6)
  refine wm_met (by decide) (Nat.le_of_ble_eq_true rfl) ?_
  show WA G t_X9_lost (fun v N => v = some (.int (nI (wBits (fun l => stB M s l && !stB M (rwS M (lnF (M.1 18) (w * h) s t) s n) l) 4))) ∧ EqR (tTell M (nI (wBits (alB M (lnF (M.1 18) (w * h) s t) s (n)) 4))) N) 0 [(0, wm_r G (0)), (1, .int (nI (set)))] [] (M)
  refine wa_iload_n dX9_lost_0 rfl 1 rfl ?_
  refine wa_cSi (m_isLS (nI set)) vX9_isLawSet iX9_lost_1 rfl rfl (Nat.le_of_ble_eq_true rfl) ⟨by decide, by decide⟩ ?_
  refine wa_eqi (y := (1)) (by rw [wIn_nI (by omega), decide_eq_true hset]; rfl) ?_
  refine wa_if_ne 9 dX9_lost_4 (by decide) (fun c_4 => ?_) (fun c_4 => absurd c_4 (by decide))
  refine wa_aload_n dX9_lost_9 rfl 0 rfl ?_
  refine wa_getr gX9_lost_10 (rfl) rfl ?_
  refine wa_aload_n dX9_lost_13 rfl 0 rfl ?_
  refine wa_geti gX9_lost_14 (rfl) rfl ?_
  refine wa_eqi (y := (nI (s))) (h12) ?_
  refine wa_iload_n dX9_lost_17 rfl 1 rfl ?_
  refine wa_callV (m_wleastYears w h hW s set hs hset) vX8_leastYears iX9_lost_18 (rfl) rfl rfl rfl (Nat.le_of_ble_eq_true rfl) ⟨by decide, by decide⟩ (fun v_ N h_ => ?_)
  obtain ⟨rfl, hF, hrc⟩ := h_
  show WA G t_X9_lost (fun v N => v = some (.int (nI (wBits (fun l => stB M s l && !stB M (rwS M (lnF (M.1 18) (w * h) s t) s n) l) 4))) ∧ EqR (tTell M (nI (wBits (alB M (lnF (M.1 18) (w * h) s t) s (n)) 4))) N) 21 [(0, wm_r G (0)), (1, .int (nI (set)))] [.int (yrs M w h s set)] (N)
  refine wa_eqi (y := (nI (n))) (he) ?_
  refine wa_bipush (-9) dX9_lost_21 (by decide) ?_
  refine wa_icmp_ne 29 dX9_lost_23 (by decide) (fun c_23 => ?_) (fun c_23 => absurd c_23 (nI_ne9 (by omega)))
  have hJ : ∀ l, l < 4 → N.2.1 (38 + 2 * l + 1) = M.2.1 (38 + 2 * l + 1) := fun l hl => hF.2.1 _ (nin3 (by omega) (by omega) (by omega))
  have g17 := hF.1 17 (nin2 (by decide) (by decide))
  have g18 := hF.1 18 (nin2 (by decide) (by decide))
  have g0 := hF.1 0 (nin2 (by decide) (by decide))
  have hWi := hW.fr g17
  have hln : ∀ i, i ≤ n → rwS M (lnF (M.1 18) (w * h) s t) s i < 4096 := fun i hi => rwS_had hn6 hsS i (fun j hj => ln_mt hn6 hsS ht (by omega))
  refine wa_aload_n dX9_lost_29 rfl 0 rfl ?_
  refine wa_getr gX9_lost_30 (rfl) rfl ?_
  refine wa_aload_n dX9_lost_33 rfl 0 rfl ?_
  refine wa_geti gX9_lost_34 (rfl) rfl ?_
  refine wa_eqi (y := (nI (s))) (by rw [g0]; exact h12) ?_
  refine wa_cVi (m_standingIn (s) (hs)) vX0_standingIn iX9_lost_37 (rfl) rfl rfl rfl (Nat.le_of_ble_eq_true rfl) ⟨by decide, by decide⟩ ?_
  refine wa_eqi (y := (nI (wBits (stB M (s)) 4))) (congrArg nI (wBits_cong (fun l hl => by show sb (N.2.1 (38 + 2 * l + 1)) _ = _; rw [hJ l hl]; rfl))) ?_
  refine wa_istore_n [(2, .int (nI (wBits (stB M (s)) 4))), (0, wm_r G (0)), (1, .int (nI (set)))] dX9_lost_40 rfl (by decide) rfl ?_
  refine wa_iload_n dX9_lost_41 rfl 0 rfl ?_
  refine wa_eqi (y := (nI (wBits (alB M (lnF (M.1 18) (w * h) s t) s (wSum (tbt (M.1 18) s t) 0)) 4))) (congrArg nI (wBits_cong (fun l _ => by unfold alB; rw [wAll_s]; rfl))) ?_
  refine wa_istore_n [(3, .int (nI (wBits (alB M (lnF (M.1 18) (w * h) s t) s (wSum (tbt (M.1 18) s t) 0)) 4))), (2, .int (nI (wBits (stB M (s)) 4))), (0, wm_r G (0)), (1, .int (nI (set)))] dX9_lost_42 rfl (by decide) rfl ?_
  refine wa_aload_n dX9_lost_43 rfl 2 rfl ?_
  refine wa_geti gX9_lost_44 (rfl) rfl ?_
  refine wa_eqi (y := (nI (s))) (by rw [g0]; exact h12) ?_
  refine wa_eqi (y := (nI (rwS M (lnF (M.1 18) (w * h) s t) s (wSum (tbt (M.1 18) s t) 0)))) (rfl) ?_
  refine wa_istore [(4, .int (nI (rwS M (lnF (M.1 18) (w * h) s t) s (wSum (tbt (M.1 18) s t) 0)))), (3, .int (nI (wBits (alB M (lnF (M.1 18) (w * h) s t) s (wSum (tbt (M.1 18) s t) 0)) 4))), (2, .int (nI (wBits (stB M (s)) 4))), (0, wm_r G (0)), (1, .int (nI (set)))] dX9_lost_47 (by decide) rfl ?_
  refine wa_iconst (0) dX9_lost_49 (by decide) ?_
  refine wa_istore [(5, .int (0)), (4, .int (nI (rwS M (lnF (M.1 18) (w * h) s t) s (wSum (tbt (M.1 18) s t) 0)))), (3, .int (nI (wBits (alB M (lnF (M.1 18) (w * h) s t) s (wSum (tbt (M.1 18) s t) 0)) 4))), (2, .int (nI (wBits (stB M (s)) 4))), (0, wm_r G (0)), (1, .int (nI (set)))] dX9_lost_50 (by decide) rfl ?_
  have L_52 : ∀ (n_ : Nat) (k : Nat), (w * h - k) < n_ → (k ≤ w * h) → WA G t_X9_lost (fun v N => v = some (.int (nI (wBits (fun l => stB M s l && !stB M (rwS M (lnF (M.1 18) (w * h) s t) s n) l) 4))) ∧ EqR (tTell M (nI (wBits (alB M (lnF (M.1 18) (w * h) s t) s (n)) 4))) N) 52 [(5, .int (nI (k))), (4, .int (nI (rwS M (lnF (M.1 18) (w * h) s t) s (wSum (tbt (M.1 18) s t) k)))), (3, .int (nI (wBits (alB M (lnF (M.1 18) (w * h) s t) s (wSum (tbt (M.1 18) s t) k)) 4))), (2, .int (nI (wBits (stB M s) 4))), (0, wm_r G (0))] [] (N) := by
    intro n_
    induction n_ with
    | zero => intro k h_; exact absurd h_ (Nat.not_lt_zero _)
    | succ n_ ih_52 =>
      intro k h_ hk
      refine wa_iload dX9_lost_52 0 rfl ?_
      refine wa_aload_n dX9_lost_54 rfl 4 rfl ?_
      refine wa_getr gX9_lost_55 (rfl) rfl ?_
      refine wa_cVi (m_number 17 w h SO_17 hWi.1 hWi.2.1) vX4_number iX9_lost_58 (rfl) rfl rfl rfl (Nat.le_of_ble_eq_true rfl) ⟨by decide, by decide⟩ ?_
      refine wa_icmp_geN (a := k) (b := w * h) 133 dX9_lost_61 (by decide) (by omega) (by omega) (fun c_61 => ?_) (fun c_61 => ?_)
      · refine wa_aload_n dX9_lost_133 rfl 4 rfl ?_
        refine wa_getr gX9_lost_134 (rfl) rfl ?_
        refine wa_iload_n dX9_lost_137 rfl 2 rfl ?_
        refine wa_puti gX9_lost_138 (rfl) rfl ?_
        refine wa_iload_n dX9_lost_141 rfl 3 rfl ?_
        refine wa_aload_n dX9_lost_142 rfl 4 rfl ?_
        refine wa_getr gX9_lost_143 (rfl) rfl ?_
        refine wa_iload dX9_lost_146 1 rfl ?_
        refine wa_cVi (m_standingIn (rwS M (lnF (M.1 18) (w * h) s t) s (wSum (tbt (M.1 18) s t) k)) (hln _ (by rw [show k = w * h by omega]; exact Nat.le_of_eq hdt))) vX0_standingIn iX9_lost_148 (rfl) rfl rfl rfl (Nat.le_of_ble_eq_true rfl) ⟨by decide, by decide⟩ ?_
        refine wa_eqi (y := (nI (wBits (stB M (rwS M (lnF (M.1 18) (w * h) s t) s (wSum (tbt (M.1 18) s t) k))) 4))) (congrArg nI (wBits_cong (fun l hl => by show sb (N.2.1 (38 + 2 * l + 1)) _ = _; rw [hJ l hl]; rfl))) ?_
        refine wa_iconst (-1) dX9_lost_151 (by decide) ?_
        refine wa_ixor dX9_lost_152 ?_
        refine wa_iand dX9_lost_153 ?_
        refine wa_eqi (y := (nI (wBits (fun l => stB M s l && !stB M (rwS M (lnF (M.1 18) (w * h) s t) s (wSum (tbt (M.1 18) s t) k)) l) 4))) (by rw [lo_bits _ (wBits_lt _ 4) _ (wBits_lt _ 4), wBits_sub]) ?_
        refine wa_iret dX9_lost_154 rfl ?_
        have hkn : wSum (tbt (M.1 18) s t) k = n := by rw [show k = w * h by omega]; exact hdt
        exact ⟨by rw [hkn], by rw [hkn]; exact (EqR.want hF).tell⟩
      · refine wa_aload_n dX9_lost_64 rfl 4 rfl ?_
        refine wa_getr gX9_lost_65 (rfl) rfl ?_
        refine wa_aload_n dX9_lost_68 rfl 4 rfl ?_
        refine wa_geti gX9_lost_69 (rfl) rfl ?_
        refine wa_eqi (y := (nI (s))) (by rw [g0]; exact h12) ?_
        refine wa_aload_n dX9_lost_72 rfl 4 rfl ?_
        refine wa_getr gX9_lost_73 (rfl) rfl ?_
        refine wa_geti gX9_lost_76 (rfl) rfl ?_
        refine wa_eqi (y := (nI (t))) ((hrc n hn18 he).trans hrt) ?_
        refine wa_iload dX9_lost_79 0 rfl ?_
        refine wa_cVi (m_turnsBetween s t k hs ht4 (by omega)) vX4_turnsBetween iX9_lost_81 (rfl) rfl rfl rfl (Nat.le_of_ble_eq_true rfl) ⟨by decide, by decide⟩ ?_
        refine wa_eqi (y := (nI (tbt (M.1 18) s t k))) (by rw [g18]; rfl) ?_
        have h3 := tbt_3 (kd := M.1 18) (s := s) (t := t) (k := k)
        refine wa_istore [(6, .int (nI (tbt (M.1 18) s t k))), (5, .int (nI (k))), (4, .int (nI (rwS M (lnF (M.1 18) (w * h) s t) s (wSum (tbt (M.1 18) s t) k)))), (3, .int (nI (wBits (alB M (lnF (M.1 18) (w * h) s t) s (wSum (tbt (M.1 18) s t) k)) 4))), (2, .int (nI (wBits (stB M s) 4))), (0, wm_r G (0))] dX9_lost_84 (by decide) rfl ?_
        refine wa_iconst (0) dX9_lost_86 (by decide) ?_
        refine wa_istore [(7, .int (0)), (6, .int (nI (tbt (M.1 18) s t k))), (5, .int (nI (k))), (4, .int (nI (rwS M (lnF (M.1 18) (w * h) s t) s (wSum (tbt (M.1 18) s t) k)))), (3, .int (nI (wBits (alB M (lnF (M.1 18) (w * h) s t) s (wSum (tbt (M.1 18) s t) k)) 4))), (2, .int (nI (wBits (stB M s) 4))), (0, wm_r G (0))] dX9_lost_87 (by decide) rfl ?_
        have L_89 : ∀ (n_ : Nat) (q : Nat), (tbt (M.1 18) s t k - q) < n_ → (q ≤ tbt (M.1 18) s t k) → WA G t_X9_lost (fun v N => v = some (.int (nI (wBits (fun l => stB M s l && !stB M (rwS M (lnF (M.1 18) (w * h) s t) s n) l) 4))) ∧ EqR (tTell M (nI (wBits (alB M (lnF (M.1 18) (w * h) s t) s (n)) 4))) N) 89 [(7, .int (nI (q))), (6, .int (nI (tbt (M.1 18) s t k))), (5, .int (nI (k))), (4, .int (nI (rwS M (lnF (M.1 18) (w * h) s t) s (wSum (tbt (M.1 18) s t) k + q)))), (3, .int (nI (wBits (alB M (lnF (M.1 18) (w * h) s t) s (wSum (tbt (M.1 18) s t) k + q)) 4))), (2, .int (nI (wBits (stB M s) 4))), (0, wm_r G (0))] [] (N) := by
          intro n_
          induction n_ with
          | zero => intro q h_; exact absurd h_ (Nat.not_lt_zero _)
          | succ n_ ih_89 =>
            intro q h_ hq
            have hkk : wSum (tbt (M.1 18) s t) (k + 1) ≤ wSum (tbt (M.1 18) s t) (w * h) := wSum_mono (by omega)
            have hkn : wSum (tbt (M.1 18) s t) (w * h) = n := hdt
            simp only [wSum] at hkk
            refine wa_iload dX9_lost_89 0 rfl ?_
            refine wa_iload dX9_lost_91 1 rfl ?_
            refine wa_icmp_geN (a := q) (b := tbt (M.1 18) s t k) 127 dX9_lost_93 (by decide) (by omega) (by omega) (fun c_93 => ?_) (fun c_93 => ?_)
            · refine wa_iinc ((nI (k + 1))) [(5, .int (nI (k + 1))), (7, .int (nI (q))), (6, .int (nI (tbt (M.1 18) s t k))), (4, .int (nI (rwS M (lnF (M.1 18) (w * h) s t) s (wSum (tbt (M.1 18) s t) k + q)))), (3, .int (nI (wBits (alB M (lnF (M.1 18) (w * h) s t) s (wSum (tbt (M.1 18) s t) k + q)) 4))), (2, .int (nI (wBits (stB M s) 4))), (0, wm_r G (0))] dX9_lost_127 2 rfl (nI_inc _) (by decide) rfl ?_
              refine wa_goto 52 dX9_lost_130 (by decide) ?_
              refine wa_sub [0, 3, 4, 5, 6] rfl ?_
              rw [show wSum (tbt (M.1 18) s t) k + q = wSum (tbt (M.1 18) s t) (k + 1) by simp only [wSum]; omega]
              exact ih_52 (k + 1) (by omega) (by omega)
            · refine wa_aload_n dX9_lost_96 rfl 6 rfl ?_
              refine wa_getr gX9_lost_97 (rfl) rfl ?_
              refine wa_iload dX9_lost_100 3 rfl ?_
              refine wa_iload dX9_lost_102 2 rfl ?_
              refine wa_cVi (m_moved (rwS M (lnF (M.1 18) (w * h) s t) s (wSum (tbt (M.1 18) s t) k + q)) k (hln _ (by omega)) (by omega)) vX4_moved iX9_lost_104 (rfl) rfl rfl rfl (Nat.le_of_ble_eq_true rfl) ⟨by decide, by decide⟩ ?_
              refine wa_eqi (y := (nI (rwS M (lnF (M.1 18) (w * h) s t) s (wSum (tbt (M.1 18) s t) k + (q + 1))))) (by rw [g18, ← Nat.add_assoc, rw_ln hn6 (by omega) (by omega)]) ?_
              refine wa_istore [(4, .int (nI (rwS M (lnF (M.1 18) (w * h) s t) s (wSum (tbt (M.1 18) s t) k + (q + 1))))), (7, .int (nI (q))), (6, .int (nI (tbt (M.1 18) s t k))), (5, .int (nI (k))), (3, .int (nI (wBits (alB M (lnF (M.1 18) (w * h) s t) s (wSum (tbt (M.1 18) s t) k + q)) 4))), (2, .int (nI (wBits (stB M s) 4))), (0, wm_r G (0))] dX9_lost_107 (by decide) rfl ?_
              refine wa_iload_n dX9_lost_109 rfl 4 rfl ?_
              refine wa_aload_n dX9_lost_110 rfl 6 rfl ?_
              refine wa_getr gX9_lost_111 (rfl) rfl ?_
              refine wa_iload dX9_lost_114 0 rfl ?_
              refine wa_cVi (m_standingIn (rwS M (lnF (M.1 18) (w * h) s t) s (wSum (tbt (M.1 18) s t) k + (q + 1))) (hln _ (by omega))) vX0_standingIn iX9_lost_116 (rfl) rfl rfl rfl (Nat.le_of_ble_eq_true rfl) ⟨by decide, by decide⟩ ?_
              refine wa_eqi (y := (nI (wBits (stB M (rwS M (lnF (M.1 18) (w * h) s t) s (wSum (tbt (M.1 18) s t) k + (q + 1)))) 4))) (congrArg nI (wBits_cong (fun l hl => by show sb (N.2.1 (38 + 2 * l + 1)) _ = _; rw [hJ l hl]; rfl))) ?_
              refine wa_iand dX9_lost_119 ?_
              refine wa_eqi (y := (nI (wBits (alB M (lnF (M.1 18) (w * h) s t) s (wSum (tbt (M.1 18) s t) k + (q + 1))) 4))) (by rw [nI_and, wBits_and]; exact congrArg nI (wBits_cong (fun l _ => (alB_s _ _ _ _ _).symm))) ?_
              refine wa_istore_n [(3, .int (nI (wBits (alB M (lnF (M.1 18) (w * h) s t) s (wSum (tbt (M.1 18) s t) k + (q + 1))) 4))), (4, .int (nI (rwS M (lnF (M.1 18) (w * h) s t) s (wSum (tbt (M.1 18) s t) k + (q + 1))))), (7, .int (nI (q))), (6, .int (nI (tbt (M.1 18) s t k))), (5, .int (nI (k))), (2, .int (nI (wBits (stB M s) 4))), (0, wm_r G (0))] dX9_lost_120 rfl (by decide) rfl ?_
              refine wa_iinc ((nI (q + 1))) [(7, .int (nI (q + 1))), (3, .int (nI (wBits (alB M (lnF (M.1 18) (w * h) s t) s (wSum (tbt (M.1 18) s t) k + (q + 1))) 4))), (4, .int (nI (rwS M (lnF (M.1 18) (w * h) s t) s (wSum (tbt (M.1 18) s t) k + (q + 1))))), (6, .int (nI (tbt (M.1 18) s t k))), (5, .int (nI (k))), (2, .int (nI (wBits (stB M s) 4))), (0, wm_r G (0))] dX9_lost_121 2 rfl (nI_inc _) (by decide) rfl ?_
              refine wa_goto 89 dX9_lost_124 (by decide) ?_
              refine wa_sub [0, 3, 4, 2, 1, 5, 6] rfl ?_
              exact ih_89 (q + 1) (by omega) (by omega)
        exact L_89 _ 0 (Nat.lt_succ_self _) (Nat.zero_le _)
  refine wa_sub [0, 1, 2, 3, 4] rfl ?_
  exact L_52 _ 0 (Nat.lt_succ_self _) (Nat.zero_le _)
