theorem x_layTurns {G : wm_G} {M : wm_M} (C : wm_M) (w h : Nat) (hX : xStn C M w h) (hW : TW C w h) (s : Nat) (hQ : ∀ k, k < w * h → M.1 107 k = nI (sQ s k)) (hs : hadS C (w * h) s) : MD G t_X10_layTurns [wm_r G (96)] (M) (none) (wIa M 114 (wTo (tT (C.1 18) (w * h) s) (M.1 114) (4 ^ (w * h)))) := by
  obtain ⟨x10, x11, x12, x103, x104, x105, x106⟩ := id hX
  have hn6 := TW_n hW
  have hw3 := hW.2.2.1
  have hh2 := hW.2.2.2
  have h4 := p4_le hn6
  refine wm_met (by decide) (Nat.le_of_ble_eq_true rfl) ?_
  show WA G t_X10_layTurns (fun v_ N_ => v_ = none ∧ N_ = wIa M 114 (wTo (tT (C.1 18) (w * h) s) (M.1 114) (4 ^ (w * h)))) 0 [(0, wm_r G (96))] [] (M)
  refine wa_iconst (0) dX10_layTurns_0 (by decide) ?_
  refine wa_istore_n [(1, .int (0)), (0, wm_r G (96))] dX10_layTurns_1 rfl (by decide) rfl ?_
  have L_2 : ∀ (n_ : Nat) (t : Nat), (4 ^ (w * h) - t) < n_ → (t ≤ 4 ^ (w * h)) → WA G t_X10_layTurns (fun v_ N_ => v_ = none ∧ N_ = wIa M 114 (wTo (tT (C.1 18) (w * h) s) (M.1 114) (4 ^ (w * h)))) 2 [(1, .int (nI (t))), (0, wm_r G (96))] [] (wIa M 114 (wTo (tT (C.1 18) (w * h) s) (M.1 114) (t))) := by
    intro n_
    induction n_ with
    | zero => intro t h_; exact absurd h_ (Nat.not_lt_zero _)
    | succ n_ ih_2 =>
      intro t h_ ht
      have hXt : xStn C (wIa M 114 (wTo (tT (C.1 18) (w * h) s) (M.1 114) (t))) w h := FrN.t.stn hX
      refine wa_iload_n dX10_layTurns_2 rfl 0 rfl ?_
      refine wa_aload_n dX10_layTurns_3 rfl 1 rfl ?_
      refine wa_cVi (x_stateMany (w * h) hn6 (by rw [wIa_n (by decide)]; exact x12)) vX10_stateMany iX10_layTurns_4 (rfl) rfl rfl rfl (Nat.le_of_ble_eq_true rfl) ⟨by decide, by decide⟩ ?_
      refine wa_icmp_geN (a := t) (b := 4 ^ (w * h)) 79 dX10_layTurns_7 (by decide) (by omega) (by omega) (fun c_7 => ?_) (fun c_7 => ?_)
      · exact wa_vret dX10_layTurns_79 rfl ⟨rfl, by rw [show t = 4 ^ (w * h) by omega]⟩
      · refine wa_iconst (0) dX10_layTurns_10 (by decide) ?_
        refine wa_eqi (y := (tsI (C.1 18) s t 0)) (rfl) ?_
        refine wa_istore_n [(2, .int (tsI (C.1 18) s t 0)), (1, .int (nI (t))), (0, wm_r G (96))] dX10_layTurns_11 rfl (by decide) rfl ?_
        refine wa_iconst (0) dX10_layTurns_12 (by decide) ?_
        refine wa_istore_n [(3, .int (0)), (2, .int (tsI (C.1 18) s t 0)), (1, .int (nI (t))), (0, wm_r G (96))] dX10_layTurns_13 rfl (by decide) rfl ?_
        have L_14 : ∀ (n_ : Nat) (k : Nat), (w * h - k) < n_ → (k ≤ w * h) → WA G t_X10_layTurns (fun v_ N_ => v_ = none ∧ N_ = wIa M 114 (wTo (tT (C.1 18) (w * h) s) (M.1 114) (4 ^ (w * h)))) 14 [(3, .int (nI (k))), (2, .int (tsI (C.1 18) s t k)), (1, .int (nI (t))), (0, wm_r G (96))] [] (wIa M 114 (wTo (tT (C.1 18) (w * h) s) (M.1 114) (t))) := by
          intro n_
          induction n_ with
          | zero => intro k h_; exact absurd h_ (Nat.not_lt_zero _)
          | succ n_ ih_14 =>
            intro k h_ hk
            refine wa_iload_n dX10_layTurns_14 rfl 0 rfl ?_
            refine wa_aload_n dX10_layTurns_15 rfl 3 rfl ?_
            refine wa_geti gX10_layTurns_16 (rfl) rfl ?_
            refine wa_eqi (y := (nI (w * h))) (by rw [wIa_n (by decide)]; exact x12) ?_
            refine wa_icmp_geN (a := k) (b := w * h) 66 dX10_layTurns_19 (by decide) (by omega) (by omega) (fun c_19 => ?_) (fun c_19 => ?_)
            · refine wa_aload_n dX10_layTurns_66 rfl 3 rfl ?_
              refine wa_getr gX10_layTurns_67 (rfl) rfl ?_
              refine wa_iload_n dX10_layTurns_70 rfl 2 rfl ?_
              refine wa_iload_n dX10_layTurns_71 rfl 1 rfl ?_
              refine wa_iastN (e := t) dX10_layTurns_72 (rfl) (by omega) (by decide) ?_
              refine wa_eqm (M' := wIa M 114 (wTo (tT (C.1 18) (w * h) s) (M.1 114) (t + 1))) (wI_wIa.trans (congrArg (wIa M 114) (wTo_s (by rw [show k = w * h by omega]; exact tsI_n hn6 (by omega))))) ?_
              refine wa_iinc ((nI (t + 1))) [(1, .int (nI (t + 1))), (3, .int (nI (k))), (2, .int (tsI (C.1 18) s t k)), (0, wm_r G (96))] dX10_layTurns_73 2 rfl (nI_inc _) (by decide) rfl ?_
              refine wa_goto 2 dX10_layTurns_76 (by decide) ?_
              refine wa_sub [0, 3] rfl ?_
              exact ih_2 (t + 1) (by omega) (by omega)
            · refine wa_aload_n dX10_layTurns_22 rfl 3 rfl ?_
              refine wa_iload_n dX10_layTurns_23 rfl 0 rfl ?_
              refine wa_aload_n dX10_layTurns_24 rfl 3 rfl ?_
              refine wa_getr gX10_layTurns_25 (rfl) rfl ?_
              refine wa_iload_n dX10_layTurns_28 rfl 0 rfl ?_
              refine wa_ialdN (e := k) dX10_layTurns_29 (rfl) (by omega) (by decide) ?_
              refine wa_eqi (y := (nI (sQ s k))) (by rw [wIa_n (by decide)]; exact hQ k (by omega)) ?_
              refine wa_iload_n dX10_layTurns_30 rfl 2 rfl ?_
              refine wa_iconst (2) dX10_layTurns_31 (by decide) ?_
              refine wa_iload_n dX10_layTurns_32 rfl 0 rfl ?_
              refine wa_imulN (a := 2) (b := k) dX10_layTurns_33 ?_
              refine wa_ishr dX10_layTurns_34 ?_
              refine wa_eqi (y := (nI (t / 2 ^ (2 * k)))) (nI_shr (by omega) (by omega)) ?_
              refine wa_iconst (3) dX10_layTurns_35 (by decide) ?_
              refine wa_iand dX10_layTurns_36 ?_
              refine wa_eqi (y := (nI (sQ t k))) (by rw [nI_and3 (Nat.lt_of_le_of_lt (Nat.div_le_self _ _) (by omega)), p4]; rfl) ?_
              refine wa_cVi (x_turnsBy (M := wIa M 114 (wTo (tT (C.1 18) (w * h) s) (M.1 114) (t))) C w h hXt hW k (by omega) (sQ s k) (sQ t k) (sQ_lt _ _) (sQ_lt _ _)) vX10_turnsBy iX10_layTurns_37 (rfl) rfl rfl rfl (Nat.le_of_ble_eq_true rfl) ⟨by decide, by decide⟩ ?_
              refine wa_eqi (y := (if hqA (C.1 18) t k then nI (tbt (C.1 18) s t k) else -1)) (tbI_eq ((hdB_iff hn6 hs.1).mp hs.2 k (by omega))) ?_
              refine wa_istore [(4, .int (if hqA (C.1 18) t k then nI (tbt (C.1 18) s t k) else -1)), (3, .int (nI (k))), (2, .int (tsI (C.1 18) s t k)), (1, .int (nI (t))), (0, wm_r G (96))] dX10_layTurns_40 (by decide) rfl ?_
              refine wa_iload_n dX10_layTurns_42 rfl 2 rfl ?_
              refine wa_if_lt 51 dX10_layTurns_43 (by decide) (fun c_43 => ?_) (fun c_43 => ?_)
              · refine wa_iconst (-1) dX10_layTurns_51 (by decide) ?_
                refine wa_goto 59 dX10_layTurns_52 (by decide) ?_
                refine wa_eqi (y := (tsI (C.1 18) s t (k + 1))) (by rw [tsI_s (by omega)]; first | (rw [if_pos (Or.inl c_43)]; done) | (rw [if_pos (Or.inr (Int32.not_le.mp c_48))]; done) | (rw [if_neg (fun q => Or.elim q c_43 (fun q => absurd c_48 (Int32.not_le.mpr q)))]; done)) ?_
                refine wa_istore_n [(2, .int (tsI (C.1 18) s t (k + 1))), (4, .int (if hqA (C.1 18) t k then nI (tbt (C.1 18) s t k) else -1)), (3, .int (nI (k))), (1, .int (nI (t))), (0, wm_r G (96))] dX10_layTurns_59 rfl (by decide) rfl ?_
                refine wa_iinc ((nI (k + 1))) [(3, .int (nI (k + 1))), (2, .int (tsI (C.1 18) s t (k + 1))), (4, .int (if hqA (C.1 18) t k then nI (tbt (C.1 18) s t k) else -1)), (1, .int (nI (t))), (0, wm_r G (96))] dX10_layTurns_60 2 rfl (nI_inc _) (by decide) rfl ?_
                refine wa_goto 14 dX10_layTurns_63 (by decide) ?_
                refine wa_sub [0, 1, 3, 4] rfl ?_
                exact ih_14 (k + 1) (by omega) (by omega)
              · refine wa_iload dX10_layTurns_46 0 rfl ?_
                refine wa_if_ge 55 dX10_layTurns_48 (by decide) (fun c_48 => ?_) (fun c_48 => ?_)
                · refine wa_iload_n dX10_layTurns_55 rfl 2 rfl ?_
                  refine wa_iload dX10_layTurns_56 0 rfl ?_
                  refine wa_iadd dX10_layTurns_58 ?_
                  refine wa_eqi (y := (tsI (C.1 18) s t (k + 1))) (by rw [tsI_s (by omega)]; first | (rw [if_pos (Or.inl c_43)]; done) | (rw [if_pos (Or.inr (Int32.not_le.mp c_48))]; done) | (rw [if_neg (fun q => Or.elim q c_43 (fun q => absurd c_48 (Int32.not_le.mpr q)))]; done)) ?_
                  refine wa_istore_n [(2, .int (tsI (C.1 18) s t (k + 1))), (4, .int (if hqA (C.1 18) t k then nI (tbt (C.1 18) s t k) else -1)), (3, .int (nI (k))), (1, .int (nI (t))), (0, wm_r G (96))] dX10_layTurns_59 rfl (by decide) rfl ?_
                  refine wa_iinc ((nI (k + 1))) [(3, .int (nI (k + 1))), (2, .int (tsI (C.1 18) s t (k + 1))), (4, .int (if hqA (C.1 18) t k then nI (tbt (C.1 18) s t k) else -1)), (1, .int (nI (t))), (0, wm_r G (96))] dX10_layTurns_60 2 rfl (nI_inc _) (by decide) rfl ?_
                  refine wa_goto 14 dX10_layTurns_63 (by decide) ?_
                  refine wa_sub [0, 1, 3, 4] rfl ?_
                  exact ih_14 (k + 1) (by omega) (by omega)
                · refine wa_iconst (-1) dX10_layTurns_51 (by decide) ?_
                  refine wa_goto 59 dX10_layTurns_52 (by decide) ?_
                  refine wa_eqi (y := (tsI (C.1 18) s t (k + 1))) (by rw [tsI_s (by omega)]; first | (rw [if_pos (Or.inl c_43)]; done) | (rw [if_pos (Or.inr (Int32.not_le.mp c_48))]; done) | (rw [if_neg (fun q => Or.elim q c_43 (fun q => absurd c_48 (Int32.not_le.mpr q)))]; done)) ?_
                  refine wa_istore_n [(2, .int (tsI (C.1 18) s t (k + 1))), (4, .int (if hqA (C.1 18) t k then nI (tbt (C.1 18) s t k) else -1)), (3, .int (nI (k))), (1, .int (nI (t))), (0, wm_r G (96))] dX10_layTurns_59 rfl (by decide) rfl ?_
                  refine wa_iinc ((nI (k + 1))) [(3, .int (nI (k + 1))), (2, .int (tsI (C.1 18) s t (k + 1))), (4, .int (if hqA (C.1 18) t k then nI (tbt (C.1 18) s t k) else -1)), (1, .int (nI (t))), (0, wm_r G (96))] dX10_layTurns_60 2 rfl (nI_inc _) (by decide) rfl ?_
                  refine wa_goto 14 dX10_layTurns_63 (by decide) ?_
                  refine wa_sub [0, 1, 3, 4] rfl ?_
                  exact ih_14 (k + 1) (by omega) (by omega)
        exact L_14 _ 0 (Nat.lt_succ_self _) (Nat.zero_le _)
  refine wa_eqm (M' := wIa M 114 (wTo (tT (C.1 18) (w * h) s) (M.1 114) (0))) (wTo_start rfl) ?_
  exact L_2 _ 0 (Nat.lt_succ_self _) (Nat.zero_le _)

theorem x_layStands {G : wm_G} {M : wm_M} (C : wm_M) (w h : Nat) (hX : xStn C M w h) (hW : TW C w h) (hXL : xLaw C M) (hCL : cLaw C) (hCS : cStn C (w * h)) (b : Bool) (P : Nat → Bool) (hP : ∀ t, t < 4 ^ (w * h) → (b = true → P t = true) ∧ (b = false → (M.1 114 t < 0 ↔ P t = false))) : MA G t_X10_layStands [wm_r G (96), .int (wB (b))] (M) (fun v N => v = none ∧ FrS M N ∧ ∀ t, t < 4 ^ (w * h) → P t = true → N.1 115 t = nI (stdN C w h t)) := by
  obtain ⟨x10, x11, x12, x103, x104, x105, x106⟩ := id hX
  have hn6 := TW_n hW
  have hw3 := hW.2.2.1
  have hh2 := hW.2.2.2
  have h4 := p4_le hn6
  refine wm_met (by decide) (Nat.le_of_ble_eq_true rfl) ?_
  show WA G t_X10_layStands (fun v N => v = none ∧ FrS M N ∧ ∀ t, t < 4 ^ (w * h) → P t = true → N.1 115 t = nI (stdN C w h t)) 0 [(0, wm_r G (96)), (1, .int (wB (b)))] [] (M)
  refine wa_iconst (0) dX10_layStands_0 (by decide) ?_
  refine wa_istore_n [(2, .int (0)), (0, wm_r G (96)), (1, .int (wB (b)))] dX10_layStands_1 rfl (by decide) rfl ?_
  have L_2 : ∀ (n_ : Nat) (t : Nat) (N : wm_M), (4 ^ (w * h) - t) < n_ → (t ≤ 4 ^ (w * h)) → (FrS M N) → (∀ t2, t2 < t → P t2 = true → N.1 115 t2 = nI (stdN C w h t2)) → WA G t_X10_layStands (fun v N => v = none ∧ FrS M N ∧ ∀ t, t < 4 ^ (w * h) → P t = true → N.1 115 t = nI (stdN C w h t)) 2 [(2, .int (nI (t))), (0, wm_r G (96)), (1, .int (wB (b)))] [] (N) := by
    intro n_
    induction n_ with
    | zero => intro t N h_; exact absurd h_ (Nat.not_lt_zero _)
    | succ n_ ih_2 =>
      intro t N h_ ht hF hst
      refine wa_iload_n dX10_layStands_2 rfl 0 rfl ?_
      refine wa_aload_n dX10_layStands_3 rfl 1 rfl ?_
      refine wa_cVi (x_stateMany (w * h) hn6 (by rw [hF.1 96 (by decide) (by decide)]; exact x12)) vX10_stateMany iX10_layStands_4 (rfl) rfl rfl rfl (Nat.le_of_ble_eq_true rfl) ⟨by decide, by decide⟩ ?_
      refine wa_icmp_geN (a := t) (b := 4 ^ (w * h)) 44 dX10_layStands_7 (by decide) (by omega) (by omega) (fun c_7 => ?_) (fun c_7 => ?_)
      · refine wa_vret dX10_layStands_44 rfl ?_
        exact ⟨rfl, hF, fun t2 h2 hp => hst t2 (by omega) hp⟩
      · refine wa_iload_n dX10_layStands_10 rfl 2 rfl ?_
        refine wa_if_neB 23 dX10_layStands_11 (by decide) (fun (c_11 : (b) = true) => ?_) (fun (c_11 : (b) = false) => ?_)
        · refine wa_aload_n dX10_layStands_23 rfl 1 rfl ?_
          refine wa_iload_n dX10_layStands_24 rfl 0 rfl ?_
          refine wa_cVv (x_layState (M := N) (w * h) t hn6 (by rw [hF.1 96 (by decide) (by decide)]; exact x12) (by omega)) vX10_layState iX10_layStands_25 (rfl) rfl rfl rfl (Nat.le_of_ble_eq_true rfl) ⟨by decide, by decide⟩ ?_
          refine wa_aload_n dX10_layStands_28 rfl 1 rfl ?_
          refine wa_getr gX10_layStands_29 (rfl) rfl ?_
          refine wa_iload_n dX10_layStands_32 rfl 0 rfl ?_
          refine wa_aload_n dX10_layStands_33 rfl 1 rfl ?_
          refine wa_cVi (x_standing C w h t (XQ.lay (s := t) hW (hF.n.stn hX) (hF.n.law hXL) hCL hCS (fun k _ => rfl))) vX10_standing iX10_layStands_34 (rfl) rfl rfl rfl (Nat.le_of_ble_eq_true rfl) ⟨by decide, by decide⟩ ?_
          refine wa_iastN (e := t) dX10_layStands_37 (rfl) (by omega) (by decide) ?_
          have hF3 : FrS M (wI (lyM N (w * h) (fun k => nI (sQ t k))) 115 t (nI (stdN C w h t))) := (hF.tr FrS.l).tr FrS.s
          have hst3 : ∀ t2, t2 < t + 1 → P t2 = true → (wI (lyM N (w * h) (fun k => nI (sQ t k))) 115 t (nI (stdN C w h t))).1 115 t2 = nI (stdN C w h t2) := fun t2 h2 hp => by
            by_cases q : t2 = t
            · subst q; rw [wI_at]
            · rw [wI_ne (fun e => q e.2)]; show (wIa N 111 _).1 115 t2 = _; rw [wIa_n (by decide)]; exact hst t2 (by omega) hp
          refine wa_iinc ((nI (t + 1))) [(2, .int (nI (t + 1))), (0, wm_r G (96)), (1, .int (wB (b)))] dX10_layStands_38 0 rfl (nI_inc _) (by decide) rfl ?_
          refine wa_goto 2 dX10_layStands_41 (by decide) ?_
          exact ih_2 (t + 1) _ (by omega) (by omega) (by first | exact hF3 | exact hF) (by first | exact hst3 | exact (fun t2 h2 hp => by rcases Nat.lt_or_eq_of_le (Nat.le_of_lt_succ h2) with q | q; (exact hst t2 q hp); (subst q; rw [hskip] at hp; cases hp)))
        · refine wa_aload_n dX10_layStands_14 rfl 1 rfl ?_
          refine wa_getr gX10_layStands_15 (rfl) rfl ?_
          refine wa_iload_n dX10_layStands_18 rfl 0 rfl ?_
          refine wa_ialdN (e := t) dX10_layStands_19 (rfl) (by omega) (by decide) ?_
          refine wa_eqi (y := (M.1 114 t)) (by rw [hF.1 114 (by decide) (by decide)]) ?_
          refine wa_if_lt 38 dX10_layStands_20 (by decide) (fun c_20 => ?_) (fun c_20 => ?_)
          · have hskip : P t = false := ((hP t (by omega)).2 c_11).mp c_20
            refine wa_iinc ((nI (t + 1))) [(2, .int (nI (t + 1))), (0, wm_r G (96)), (1, .int (wB (b)))] dX10_layStands_38 0 rfl (nI_inc _) (by decide) rfl ?_
            refine wa_goto 2 dX10_layStands_41 (by decide) ?_
            exact ih_2 (t + 1) _ (by omega) (by omega) (by first | exact hF3 | exact hF) (by first | exact hst3 | exact (fun t2 h2 hp => by rcases Nat.lt_or_eq_of_le (Nat.le_of_lt_succ h2) with q | q; (exact hst t2 q hp); (subst q; rw [hskip] at hp; cases hp)))
          · refine wa_aload_n dX10_layStands_23 rfl 1 rfl ?_
            refine wa_iload_n dX10_layStands_24 rfl 0 rfl ?_
            refine wa_cVv (x_layState (M := N) (w * h) t hn6 (by rw [hF.1 96 (by decide) (by decide)]; exact x12) (by omega)) vX10_layState iX10_layStands_25 (rfl) rfl rfl rfl (Nat.le_of_ble_eq_true rfl) ⟨by decide, by decide⟩ ?_
            refine wa_aload_n dX10_layStands_28 rfl 1 rfl ?_
            refine wa_getr gX10_layStands_29 (rfl) rfl ?_
            refine wa_iload_n dX10_layStands_32 rfl 0 rfl ?_
            refine wa_aload_n dX10_layStands_33 rfl 1 rfl ?_
            refine wa_cVi (x_standing C w h t (XQ.lay (s := t) hW (hF.n.stn hX) (hF.n.law hXL) hCL hCS (fun k _ => rfl))) vX10_standing iX10_layStands_34 (rfl) rfl rfl rfl (Nat.le_of_ble_eq_true rfl) ⟨by decide, by decide⟩ ?_
            refine wa_iastN (e := t) dX10_layStands_37 (rfl) (by omega) (by decide) ?_
            have hF3 : FrS M (wI (lyM N (w * h) (fun k => nI (sQ t k))) 115 t (nI (stdN C w h t))) := (hF.tr FrS.l).tr FrS.s
            have hst3 : ∀ t2, t2 < t + 1 → P t2 = true → (wI (lyM N (w * h) (fun k => nI (sQ t k))) 115 t (nI (stdN C w h t))).1 115 t2 = nI (stdN C w h t2) := fun t2 h2 hp => by
              by_cases q : t2 = t
              · subst q; rw [wI_at]
              · rw [wI_ne (fun e => q e.2)]; show (wIa N 111 _).1 115 t2 = _; rw [wIa_n (by decide)]; exact hst t2 (by omega) hp
            refine wa_iinc ((nI (t + 1))) [(2, .int (nI (t + 1))), (0, wm_r G (96)), (1, .int (wB (b)))] dX10_layStands_38 0 rfl (nI_inc _) (by decide) rfl ?_
            refine wa_goto 2 dX10_layStands_41 (by decide) ?_
            exact ih_2 (t + 1) _ (by omega) (by omega) (by first | exact hF3 | exact hF) (by first | exact hst3 | exact (fun t2 h2 hp => by rcases Nat.lt_or_eq_of_le (Nat.le_of_lt_succ h2) with q | q; (exact hst t2 q hp); (subst q; rw [hskip] at hp; cases hp)))
  exact L_2 _ 0 M (Nat.lt_succ_self _) (Nat.zero_le _) (FrS.rf M) (fun t2 h2 => absurd h2 (Nat.not_lt_zero _))

theorem x_near {G : wm_G} {M : wm_M} (C : wm_M) (w h s : Nat) (hX : xStn C M w h) (hW : TW C w h) (hXL : xLaw C M) (hCL : cLaw C) (hCS : cStn C (w * h)) (hQ : ∀ k, k < w * h → M.1 107 k = nI (sQ s k)) (hs : hadS C (w * h) s) (set : Nat) (hset : set < 16) : MA G t_X10_nearest [wm_r G (96), .int (nI (set))] (M) (fun v N => ∃ b, v = some (.int b) ∧ BsP C w h s set (4 ^ (w * h)) b ∧ FrN M N ∧ ∀ t, t < 4 ^ (w * h) → N.1 114 t = tT (C.1 18) (w * h) s t) := by
  obtain ⟨x10, x11, x12, x103, x104, x105, x106⟩ := id hX
  have hn6 := TW_n hW
  have hw3 := hW.2.2.1
  have hh2 := hW.2.2.2
  have h4 := p4_le hn6
  refine wm_met (by decide) (Nat.le_of_ble_eq_true rfl) ?_
  show WA G t_X10_nearest (fun v N => ∃ b, v = some (.int b) ∧ BsP C w h s set (4 ^ (w * h)) b ∧ FrN M N ∧ ∀ t, t < 4 ^ (w * h) → N.1 114 t = tT (C.1 18) (w * h) s t) 0 [(0, wm_r G (96)), (1, .int (nI (set)))] [] (M)
  refine wa_aload_n dX10_nearest_0 rfl 0 rfl ?_
  refine wa_cVv (x_layTurns C w h hX hW s hQ hs) vX10_layTurns iX10_nearest_1 (rfl) rfl rfl rfl (Nat.le_of_ble_eq_true rfl) ⟨by decide, by decide⟩ ?_
  refine wa_top (fun N1 e_N1 => ?_)
  have hF1 : FrN M N1 := by rw [e_N1]; exact FrN.t
  have h114 : ∀ t, t < 4 ^ (w * h) → N1.1 114 t = tT (C.1 18) (w * h) s t := fun t ht => by rw [e_N1, wIa_s, wTo_in ht]
  refine wa_aload_n dX10_nearest_4 rfl 0 rfl ?_
  refine wa_iconst (0) dX10_nearest_5 (by decide) ?_
  refine wa_eqi (y := (wB (false))) (rfl) ?_
  refine wa_callV (x_layStands (M := N1) C w h (hF1.stn hX) hW (hF1.law hXL) hCL hCS false (fun t => prodB (hadN (C.1 18) (w * h)) t) (fun t ht => ⟨fun q => (by cases q), fun _ => by rw [h114 t ht]; exact tT_neg hn6⟩)) vX10_layStands iX10_nearest_6 (rfl) rfl rfl rfl (Nat.le_of_ble_eq_true rfl) ⟨by decide, by decide⟩ (fun v_ N2 h_ => ?_)
  obtain ⟨rfl, hF2, hst⟩ := h_
  show WA G t_X10_nearest (fun v N => ∃ b, v = some (.int b) ∧ BsP C w h s set (4 ^ (w * h)) b ∧ FrN M N ∧ ∀ t, t < 4 ^ (w * h) → N.1 114 t = tT (C.1 18) (w * h) s t) 9 [(0, wm_r G (96)), (1, .int (nI (set)))] [] (N2)
  have hF : FrN M N2 := hF1.tr hF2.n
  have h114 : ∀ t, t < 4 ^ (w * h) → N2.1 114 t = tT (C.1 18) (w * h) s t := fun t ht => by rw [hF2.1 114 (by decide) (by decide)]; exact h114 t ht
  have h12 : N2.1 96 12 = nI (w * h) := by rw [hF.1 96 (by decide) (by decide) (by decide)]; exact x12
  refine wa_bipush (-9) dX10_nearest_9 (by decide) ?_
  refine wa_istore_n [(2, .int (-9)), (0, wm_r G (96)), (1, .int (nI (set)))] dX10_nearest_11 rfl (by decide) rfl ?_
  refine wa_iconst (0) dX10_nearest_12 (by decide) ?_
  refine wa_istore_n [(3, .int (0)), (2, .int (-9)), (0, wm_r G (96)), (1, .int (nI (set)))] dX10_nearest_13 rfl (by decide) rfl ?_
  have L_14 : ∀ (n_ : Nat) (t : Nat) (bst : Int32), (4 ^ (w * h) - t) < n_ → (t ≤ 4 ^ (w * h)) → (BsP C w h s set t bst) → WA G t_X10_nearest (fun v N => ∃ b, v = some (.int b) ∧ BsP C w h s set (4 ^ (w * h)) b ∧ FrN M N ∧ ∀ t, t < 4 ^ (w * h) → N.1 114 t = tT (C.1 18) (w * h) s t) 14 [(3, .int (nI (t))), (2, .int (bst)), (0, wm_r G (96)), (1, .int (nI (set)))] [] (N2) := by
    intro n_
    induction n_ with
    | zero => intro t bst h_; exact absurd h_ (Nat.not_lt_zero _)
    | succ n_ ih_14 =>
      intro t bst h_ ht hb
      refine wa_iload_n dX10_nearest_14 rfl 0 rfl ?_
      refine wa_aload_n dX10_nearest_15 rfl 2 rfl ?_
      refine wa_cVi (x_stateMany (w * h) hn6 h12) vX10_stateMany iX10_nearest_16 (rfl) rfl rfl rfl (Nat.le_of_ble_eq_true rfl) ⟨by decide, by decide⟩ ?_
      refine wa_icmp_geN (a := t) (b := 4 ^ (w * h)) 88 dX10_nearest_19 (by decide) (by omega) (by omega) (fun c_19 => ?_) (fun c_19 => ?_)
      · refine wa_iload_n dX10_nearest_88 rfl 1 rfl ?_
        refine wa_iret dX10_nearest_89 rfl ?_
        exact ⟨bst, rfl, by rw [show 4 ^ (w * h) = t by omega]; exact hb, hF, h114⟩
      · refine wa_aload_n dX10_nearest_22 rfl 2 rfl ?_
        refine wa_getr gX10_nearest_23 (rfl) rfl ?_
        refine wa_iload_n dX10_nearest_26 rfl 0 rfl ?_
        refine wa_ialdN (e := t) dX10_nearest_27 (rfl) (by omega) (by decide) ?_
        refine wa_eqi (y := (tT (C.1 18) (w * h) s t)) (h114 t (by omega)) ?_
        refine wa_if_lt 47 dX10_nearest_28 (by decide) (fun c_28 => ?_) (fun c_28 => ?_)
        · refine wa_iconst (0) dX10_nearest_47 (by decide) ?_
          refine wa_eqi (y := (wB (gd C w h set t))) (by first | (unfold gd gS; rw [(tT_neg hn6).mp c_28]; rfl) | (unfold gd gS; rw [hpt, decide_eq_false c_40]; rfl) | (unfold gd gS; rw [hpt, decide_eq_true c_40]; rfl)) ?_
          refine wa_istore [(4, .int (wB (gd C w h set t))), (3, .int (nI (t))), (2, .int (bst)), (0, wm_r G (96)), (1, .int (nI (set)))] dX10_nearest_48 (by decide) rfl ?_
          have L_50 : WA G t_X10_nearest (fun v N => ∃ b, v = some (.int b) ∧ BsP C w h s set (4 ^ (w * h)) b ∧ FrN M N ∧ ∀ t, t < 4 ^ (w * h) → N.1 114 t = tT (C.1 18) (w * h) s t) 50 [(4, .int (wB (gd C w h set t))), (3, .int (nI (t))), (2, .int (bst)), (0, wm_r G (96)), (1, .int (nI (set)))] [] (N2) := by
            refine wa_iload dX10_nearest_50 0 rfl ?_
            refine wa_if_eqB 80 dX10_nearest_52 (by decide) (fun (c_52 : (gd C w h set t) = false) => ?_) (fun (c_52 : (gd C w h set t) = true) => ?_)
            · refine wa_iload_n dX10_nearest_80 rfl 2 rfl ?_
              refine wa_istore_n [(2, .int (bst)), (4, .int (wB (gd C w h set t))), (3, .int (nI (t))), (0, wm_r G (96)), (1, .int (nI (set)))] dX10_nearest_81 rfl (by decide) rfl ?_
              refine wa_iinc ((nI (t + 1))) [(3, .int (nI (t + 1))), (2, .int (bst)), (4, .int (wB (gd C w h set t))), (0, wm_r G (96)), (1, .int (nI (set)))] dX10_nearest_82 2 rfl (nI_inc _) (by decide) rfl ?_
              refine wa_goto 14 dX10_nearest_85 (by decide) ?_
              refine wa_sub [0, 1, 3, 4] rfl ?_
              exact ih_14 (t + 1) _ (by omega) (by omega) (by first | exact bs_keep hb c_52 | exact bs_ge hb eu (by omega) (by omega) (by omega) | exact bs_less hb c_52 eu (by omega) (by omega) (by omega) | exact bs_first hb c_52 c_58 (by omega))
            · have hpt : prodB (hadN (C.1 18) (w * h)) t = true := by have q := c_52; unfold gd at q; rw [Bool.and_eq_true] at q; exact q.1
              have hd1 := dst18 (kd := C.1 18) (s := s) (t := t) hn6
              refine wa_iload_n dX10_nearest_55 rfl 2 rfl ?_
              refine wa_bipush (-9) dX10_nearest_56 (by decide) ?_
              refine wa_icmp_eq 76 dX10_nearest_58 (by decide) (fun c_58 => ?_) (fun c_58 => ?_)
              · refine wa_iload_n dX10_nearest_76 rfl 1 rfl ?_
                refine wa_goto 81 dX10_nearest_77 (by decide) ?_
                refine wa_istore_n [(2, .int (nI (t))), (4, .int (wB (gd C w h set t))), (3, .int (nI (t))), (0, wm_r G (96)), (1, .int (nI (set)))] dX10_nearest_81 rfl (by decide) rfl ?_
                refine wa_iinc ((nI (t + 1))) [(3, .int (nI (t + 1))), (2, .int (nI (t))), (4, .int (wB (gd C w h set t))), (0, wm_r G (96)), (1, .int (nI (set)))] dX10_nearest_82 2 rfl (nI_inc _) (by decide) rfl ?_
                refine wa_goto 14 dX10_nearest_85 (by decide) ?_
                refine wa_sub [0, 1, 3, 4] rfl ?_
                exact ih_14 (t + 1) _ (by omega) (by omega) (by first | exact bs_keep hb c_52 | exact bs_ge hb eu (by omega) (by omega) (by omega) | exact bs_less hb c_52 eu (by omega) (by omega) (by omega) | exact bs_first hb c_52 c_58 (by omega))
              · obtain ⟨u, hu, eu, gu, -, -⟩ := id (hb.resolve_left (fun q => c_58 q.1))
                have hd2 := dst18 (kd := C.1 18) (s := s) (t := u) hn6
                have hpu : prodB (hadN (C.1 18) (w * h)) u = true := by have q := gu; unfold gd at q; rw [Bool.and_eq_true] at q; exact q.1
                refine wa_aload_n dX10_nearest_61 rfl 3 rfl ?_
                refine wa_getr gX10_nearest_62 (rfl) rfl ?_
                refine wa_iload_n dX10_nearest_65 rfl 1 rfl ?_
                refine wa_ialdN (e := t) dX10_nearest_66 (rfl) (by omega) (by decide) ?_
                refine wa_eqi (y := (nI (dst (C.1 18) (w * h) s t))) ((h114 t (by omega)).trans (tT_had hpt)) ?_
                refine wa_aload_n dX10_nearest_67 rfl 3 rfl ?_
                refine wa_getr gX10_nearest_68 (rfl) rfl ?_
                refine wa_iload_n dX10_nearest_71 rfl 2 rfl ?_
                refine wa_eqi (y := (nI (u))) (eu) ?_
                refine wa_ialdN (e := u) dX10_nearest_72 (rfl) (by omega) (by decide) ?_
                refine wa_eqi (y := (nI (dst (C.1 18) (w * h) s u))) ((h114 u (by omega)).trans (tT_had hpu)) ?_
                refine wa_icmp_geN (a := dst (C.1 18) (w * h) s t) (b := dst (C.1 18) (w * h) s u) 80 dX10_nearest_73 (by decide) (by omega) (by omega) (fun c_73 => ?_) (fun c_73 => ?_)
                · refine wa_iload_n dX10_nearest_80 rfl 2 rfl ?_
                  refine wa_istore_n [(2, .int (bst)), (4, .int (wB (gd C w h set t))), (3, .int (nI (t))), (0, wm_r G (96)), (1, .int (nI (set)))] dX10_nearest_81 rfl (by decide) rfl ?_
                  refine wa_iinc ((nI (t + 1))) [(3, .int (nI (t + 1))), (2, .int (bst)), (4, .int (wB (gd C w h set t))), (0, wm_r G (96)), (1, .int (nI (set)))] dX10_nearest_82 2 rfl (nI_inc _) (by decide) rfl ?_
                  refine wa_goto 14 dX10_nearest_85 (by decide) ?_
                  refine wa_sub [0, 1, 3, 4] rfl ?_
                  exact ih_14 (t + 1) _ (by omega) (by omega) (by first | exact bs_keep hb c_52 | exact bs_ge hb eu (by omega) (by omega) (by omega) | exact bs_less hb c_52 eu (by omega) (by omega) (by omega) | exact bs_first hb c_52 c_58 (by omega))
                · refine wa_iload_n dX10_nearest_76 rfl 1 rfl ?_
                  refine wa_goto 81 dX10_nearest_77 (by decide) ?_
                  refine wa_istore_n [(2, .int (nI (t))), (4, .int (wB (gd C w h set t))), (3, .int (nI (t))), (0, wm_r G (96)), (1, .int (nI (set)))] dX10_nearest_81 rfl (by decide) rfl ?_
                  refine wa_iinc ((nI (t + 1))) [(3, .int (nI (t + 1))), (2, .int (nI (t))), (4, .int (wB (gd C w h set t))), (0, wm_r G (96)), (1, .int (nI (set)))] dX10_nearest_82 2 rfl (nI_inc _) (by decide) rfl ?_
                  refine wa_goto 14 dX10_nearest_85 (by decide) ?_
                  refine wa_sub [0, 1, 3, 4] rfl ?_
                  exact ih_14 (t + 1) _ (by omega) (by omega) (by first | exact bs_keep hb c_52 | exact bs_ge hb eu (by omega) (by omega) (by omega) | exact bs_less hb c_52 eu (by omega) (by omega) (by omega) | exact bs_first hb c_52 c_58 (by omega))
          exact L_50  
        · have hpt : prodB (hadN (C.1 18) (w * h)) t = true := by
            cases q : prodB (hadN (C.1 18) (w * h)) t with
            | true => rfl
            | false => exact absurd ((tT_neg (s := s) hn6).mpr q) c_28
          refine wa_aload_n dX10_nearest_31 rfl 2 rfl ?_
          refine wa_getr gX10_nearest_32 (rfl) rfl ?_
          refine wa_iload_n dX10_nearest_35 rfl 0 rfl ?_
          refine wa_ialdN (e := t) dX10_nearest_36 (rfl) (by omega) (by decide) ?_
          refine wa_eqi (y := (nI (stdN C w h t))) (hst t (by omega) hpt) ?_
          refine wa_iload_n dX10_nearest_37 rfl 3 rfl ?_
          refine wa_iand dX10_nearest_38 ?_
          refine wa_eqi (y := (nI (stdN C w h t &&& set))) (nI_and _ _) ?_
          refine wa_iload_n dX10_nearest_39 rfl 3 rfl ?_
          refine wa_icmp_neN (a := stdN C w h t &&& set) (b := set) 47 dX10_nearest_40 (by decide) (Nat.lt_of_le_of_lt Nat.and_le_right (by omega)) (by omega) (fun c_40 => ?_) (fun c_40 => ?_)
          · refine wa_iconst (0) dX10_nearest_47 (by decide) ?_
            refine wa_eqi (y := (wB (gd C w h set t))) (by first | (unfold gd gS; rw [(tT_neg hn6).mp c_28]; rfl) | (unfold gd gS; rw [hpt, decide_eq_false c_40]; rfl) | (unfold gd gS; rw [hpt, decide_eq_true c_40]; rfl)) ?_
            refine wa_istore [(4, .int (wB (gd C w h set t))), (3, .int (nI (t))), (2, .int (bst)), (0, wm_r G (96)), (1, .int (nI (set)))] dX10_nearest_48 (by decide) rfl ?_
            have L_50 : WA G t_X10_nearest (fun v N => ∃ b, v = some (.int b) ∧ BsP C w h s set (4 ^ (w * h)) b ∧ FrN M N ∧ ∀ t, t < 4 ^ (w * h) → N.1 114 t = tT (C.1 18) (w * h) s t) 50 [(4, .int (wB (gd C w h set t))), (3, .int (nI (t))), (2, .int (bst)), (0, wm_r G (96)), (1, .int (nI (set)))] [] (N2) := by
              refine wa_iload dX10_nearest_50 0 rfl ?_
              refine wa_if_eqB 80 dX10_nearest_52 (by decide) (fun (c_52 : (gd C w h set t) = false) => ?_) (fun (c_52 : (gd C w h set t) = true) => ?_)
              · refine wa_iload_n dX10_nearest_80 rfl 2 rfl ?_
                refine wa_istore_n [(2, .int (bst)), (4, .int (wB (gd C w h set t))), (3, .int (nI (t))), (0, wm_r G (96)), (1, .int (nI (set)))] dX10_nearest_81 rfl (by decide) rfl ?_
                refine wa_iinc ((nI (t + 1))) [(3, .int (nI (t + 1))), (2, .int (bst)), (4, .int (wB (gd C w h set t))), (0, wm_r G (96)), (1, .int (nI (set)))] dX10_nearest_82 2 rfl (nI_inc _) (by decide) rfl ?_
                refine wa_goto 14 dX10_nearest_85 (by decide) ?_
                refine wa_sub [0, 1, 3, 4] rfl ?_
                exact ih_14 (t + 1) _ (by omega) (by omega) (by first | exact bs_keep hb c_52 | exact bs_ge hb eu (by omega) (by omega) (by omega) | exact bs_less hb c_52 eu (by omega) (by omega) (by omega) | exact bs_first hb c_52 c_58 (by omega))
              · have hpt : prodB (hadN (C.1 18) (w * h)) t = true := by have q := c_52; unfold gd at q; rw [Bool.and_eq_true] at q; exact q.1
                have hd1 := dst18 (kd := C.1 18) (s := s) (t := t) hn6
                refine wa_iload_n dX10_nearest_55 rfl 2 rfl ?_
                refine wa_bipush (-9) dX10_nearest_56 (by decide) ?_
                refine wa_icmp_eq 76 dX10_nearest_58 (by decide) (fun c_58 => ?_) (fun c_58 => ?_)
                · refine wa_iload_n dX10_nearest_76 rfl 1 rfl ?_
                  refine wa_goto 81 dX10_nearest_77 (by decide) ?_
                  refine wa_istore_n [(2, .int (nI (t))), (4, .int (wB (gd C w h set t))), (3, .int (nI (t))), (0, wm_r G (96)), (1, .int (nI (set)))] dX10_nearest_81 rfl (by decide) rfl ?_
                  refine wa_iinc ((nI (t + 1))) [(3, .int (nI (t + 1))), (2, .int (nI (t))), (4, .int (wB (gd C w h set t))), (0, wm_r G (96)), (1, .int (nI (set)))] dX10_nearest_82 2 rfl (nI_inc _) (by decide) rfl ?_
                  refine wa_goto 14 dX10_nearest_85 (by decide) ?_
                  refine wa_sub [0, 1, 3, 4] rfl ?_
                  exact ih_14 (t + 1) _ (by omega) (by omega) (by first | exact bs_keep hb c_52 | exact bs_ge hb eu (by omega) (by omega) (by omega) | exact bs_less hb c_52 eu (by omega) (by omega) (by omega) | exact bs_first hb c_52 c_58 (by omega))
                · obtain ⟨u, hu, eu, gu, -, -⟩ := id (hb.resolve_left (fun q => c_58 q.1))
                  have hd2 := dst18 (kd := C.1 18) (s := s) (t := u) hn6
                  have hpu : prodB (hadN (C.1 18) (w * h)) u = true := by have q := gu; unfold gd at q; rw [Bool.and_eq_true] at q; exact q.1
                  refine wa_aload_n dX10_nearest_61 rfl 3 rfl ?_
                  refine wa_getr gX10_nearest_62 (rfl) rfl ?_
                  refine wa_iload_n dX10_nearest_65 rfl 1 rfl ?_
                  refine wa_ialdN (e := t) dX10_nearest_66 (rfl) (by omega) (by decide) ?_
                  refine wa_eqi (y := (nI (dst (C.1 18) (w * h) s t))) ((h114 t (by omega)).trans (tT_had hpt)) ?_
                  refine wa_aload_n dX10_nearest_67 rfl 3 rfl ?_
                  refine wa_getr gX10_nearest_68 (rfl) rfl ?_
                  refine wa_iload_n dX10_nearest_71 rfl 2 rfl ?_
                  refine wa_eqi (y := (nI (u))) (eu) ?_
                  refine wa_ialdN (e := u) dX10_nearest_72 (rfl) (by omega) (by decide) ?_
                  refine wa_eqi (y := (nI (dst (C.1 18) (w * h) s u))) ((h114 u (by omega)).trans (tT_had hpu)) ?_
                  refine wa_icmp_geN (a := dst (C.1 18) (w * h) s t) (b := dst (C.1 18) (w * h) s u) 80 dX10_nearest_73 (by decide) (by omega) (by omega) (fun c_73 => ?_) (fun c_73 => ?_)
                  · refine wa_iload_n dX10_nearest_80 rfl 2 rfl ?_
                    refine wa_istore_n [(2, .int (bst)), (4, .int (wB (gd C w h set t))), (3, .int (nI (t))), (0, wm_r G (96)), (1, .int (nI (set)))] dX10_nearest_81 rfl (by decide) rfl ?_
                    refine wa_iinc ((nI (t + 1))) [(3, .int (nI (t + 1))), (2, .int (bst)), (4, .int (wB (gd C w h set t))), (0, wm_r G (96)), (1, .int (nI (set)))] dX10_nearest_82 2 rfl (nI_inc _) (by decide) rfl ?_
                    refine wa_goto 14 dX10_nearest_85 (by decide) ?_
                    refine wa_sub [0, 1, 3, 4] rfl ?_
                    exact ih_14 (t + 1) _ (by omega) (by omega) (by first | exact bs_keep hb c_52 | exact bs_ge hb eu (by omega) (by omega) (by omega) | exact bs_less hb c_52 eu (by omega) (by omega) (by omega) | exact bs_first hb c_52 c_58 (by omega))
                  · refine wa_iload_n dX10_nearest_76 rfl 1 rfl ?_
                    refine wa_goto 81 dX10_nearest_77 (by decide) ?_
                    refine wa_istore_n [(2, .int (nI (t))), (4, .int (wB (gd C w h set t))), (3, .int (nI (t))), (0, wm_r G (96)), (1, .int (nI (set)))] dX10_nearest_81 rfl (by decide) rfl ?_
                    refine wa_iinc ((nI (t + 1))) [(3, .int (nI (t + 1))), (2, .int (nI (t))), (4, .int (wB (gd C w h set t))), (0, wm_r G (96)), (1, .int (nI (set)))] dX10_nearest_82 2 rfl (nI_inc _) (by decide) rfl ?_
                    refine wa_goto 14 dX10_nearest_85 (by decide) ?_
                    refine wa_sub [0, 1, 3, 4] rfl ?_
                    exact ih_14 (t + 1) _ (by omega) (by omega) (by first | exact bs_keep hb c_52 | exact bs_ge hb eu (by omega) (by omega) (by omega) | exact bs_less hb c_52 eu (by omega) (by omega) (by omega) | exact bs_first hb c_52 c_58 (by omega))
            exact L_50  
          · refine wa_iconst (1) dX10_nearest_43 (by decide) ?_
            refine wa_goto 48 dX10_nearest_44 (by decide) ?_
            refine wa_eqi (y := (wB (gd C w h set t))) (by first | (unfold gd gS; rw [(tT_neg hn6).mp c_28]; rfl) | (unfold gd gS; rw [hpt, decide_eq_false c_40]; rfl) | (unfold gd gS; rw [hpt, decide_eq_true c_40]; rfl)) ?_
            refine wa_istore [(4, .int (wB (gd C w h set t))), (3, .int (nI (t))), (2, .int (bst)), (0, wm_r G (96)), (1, .int (nI (set)))] dX10_nearest_48 (by decide) rfl ?_
            have L_50 : WA G t_X10_nearest (fun v N => ∃ b, v = some (.int b) ∧ BsP C w h s set (4 ^ (w * h)) b ∧ FrN M N ∧ ∀ t, t < 4 ^ (w * h) → N.1 114 t = tT (C.1 18) (w * h) s t) 50 [(4, .int (wB (gd C w h set t))), (3, .int (nI (t))), (2, .int (bst)), (0, wm_r G (96)), (1, .int (nI (set)))] [] (N2) := by
              refine wa_iload dX10_nearest_50 0 rfl ?_
              refine wa_if_eqB 80 dX10_nearest_52 (by decide) (fun (c_52 : (gd C w h set t) = false) => ?_) (fun (c_52 : (gd C w h set t) = true) => ?_)
              · refine wa_iload_n dX10_nearest_80 rfl 2 rfl ?_
                refine wa_istore_n [(2, .int (bst)), (4, .int (wB (gd C w h set t))), (3, .int (nI (t))), (0, wm_r G (96)), (1, .int (nI (set)))] dX10_nearest_81 rfl (by decide) rfl ?_
                refine wa_iinc ((nI (t + 1))) [(3, .int (nI (t + 1))), (2, .int (bst)), (4, .int (wB (gd C w h set t))), (0, wm_r G (96)), (1, .int (nI (set)))] dX10_nearest_82 2 rfl (nI_inc _) (by decide) rfl ?_
                refine wa_goto 14 dX10_nearest_85 (by decide) ?_
                refine wa_sub [0, 1, 3, 4] rfl ?_
                exact ih_14 (t + 1) _ (by omega) (by omega) (by first | exact bs_keep hb c_52 | exact bs_ge hb eu (by omega) (by omega) (by omega) | exact bs_less hb c_52 eu (by omega) (by omega) (by omega) | exact bs_first hb c_52 c_58 (by omega))
              · have hpt : prodB (hadN (C.1 18) (w * h)) t = true := by have q := c_52; unfold gd at q; rw [Bool.and_eq_true] at q; exact q.1
                have hd1 := dst18 (kd := C.1 18) (s := s) (t := t) hn6
                refine wa_iload_n dX10_nearest_55 rfl 2 rfl ?_
                refine wa_bipush (-9) dX10_nearest_56 (by decide) ?_
                refine wa_icmp_eq 76 dX10_nearest_58 (by decide) (fun c_58 => ?_) (fun c_58 => ?_)
                · refine wa_iload_n dX10_nearest_76 rfl 1 rfl ?_
                  refine wa_goto 81 dX10_nearest_77 (by decide) ?_
                  refine wa_istore_n [(2, .int (nI (t))), (4, .int (wB (gd C w h set t))), (3, .int (nI (t))), (0, wm_r G (96)), (1, .int (nI (set)))] dX10_nearest_81 rfl (by decide) rfl ?_
                  refine wa_iinc ((nI (t + 1))) [(3, .int (nI (t + 1))), (2, .int (nI (t))), (4, .int (wB (gd C w h set t))), (0, wm_r G (96)), (1, .int (nI (set)))] dX10_nearest_82 2 rfl (nI_inc _) (by decide) rfl ?_
                  refine wa_goto 14 dX10_nearest_85 (by decide) ?_
                  refine wa_sub [0, 1, 3, 4] rfl ?_
                  exact ih_14 (t + 1) _ (by omega) (by omega) (by first | exact bs_keep hb c_52 | exact bs_ge hb eu (by omega) (by omega) (by omega) | exact bs_less hb c_52 eu (by omega) (by omega) (by omega) | exact bs_first hb c_52 c_58 (by omega))
                · obtain ⟨u, hu, eu, gu, -, -⟩ := id (hb.resolve_left (fun q => c_58 q.1))
                  have hd2 := dst18 (kd := C.1 18) (s := s) (t := u) hn6
                  have hpu : prodB (hadN (C.1 18) (w * h)) u = true := by have q := gu; unfold gd at q; rw [Bool.and_eq_true] at q; exact q.1
                  refine wa_aload_n dX10_nearest_61 rfl 3 rfl ?_
                  refine wa_getr gX10_nearest_62 (rfl) rfl ?_
                  refine wa_iload_n dX10_nearest_65 rfl 1 rfl ?_
                  refine wa_ialdN (e := t) dX10_nearest_66 (rfl) (by omega) (by decide) ?_
                  refine wa_eqi (y := (nI (dst (C.1 18) (w * h) s t))) ((h114 t (by omega)).trans (tT_had hpt)) ?_
                  refine wa_aload_n dX10_nearest_67 rfl 3 rfl ?_
                  refine wa_getr gX10_nearest_68 (rfl) rfl ?_
                  refine wa_iload_n dX10_nearest_71 rfl 2 rfl ?_
                  refine wa_eqi (y := (nI (u))) (eu) ?_
                  refine wa_ialdN (e := u) dX10_nearest_72 (rfl) (by omega) (by decide) ?_
                  refine wa_eqi (y := (nI (dst (C.1 18) (w * h) s u))) ((h114 u (by omega)).trans (tT_had hpu)) ?_
                  refine wa_icmp_geN (a := dst (C.1 18) (w * h) s t) (b := dst (C.1 18) (w * h) s u) 80 dX10_nearest_73 (by decide) (by omega) (by omega) (fun c_73 => ?_) (fun c_73 => ?_)
                  · refine wa_iload_n dX10_nearest_80 rfl 2 rfl ?_
                    refine wa_istore_n [(2, .int (bst)), (4, .int (wB (gd C w h set t))), (3, .int (nI (t))), (0, wm_r G (96)), (1, .int (nI (set)))] dX10_nearest_81 rfl (by decide) rfl ?_
                    refine wa_iinc ((nI (t + 1))) [(3, .int (nI (t + 1))), (2, .int (bst)), (4, .int (wB (gd C w h set t))), (0, wm_r G (96)), (1, .int (nI (set)))] dX10_nearest_82 2 rfl (nI_inc _) (by decide) rfl ?_
                    refine wa_goto 14 dX10_nearest_85 (by decide) ?_
                    refine wa_sub [0, 1, 3, 4] rfl ?_
                    exact ih_14 (t + 1) _ (by omega) (by omega) (by first | exact bs_keep hb c_52 | exact bs_ge hb eu (by omega) (by omega) (by omega) | exact bs_less hb c_52 eu (by omega) (by omega) (by omega) | exact bs_first hb c_52 c_58 (by omega))
                  · refine wa_iload_n dX10_nearest_76 rfl 1 rfl ?_
                    refine wa_goto 81 dX10_nearest_77 (by decide) ?_
                    refine wa_istore_n [(2, .int (nI (t))), (4, .int (wB (gd C w h set t))), (3, .int (nI (t))), (0, wm_r G (96)), (1, .int (nI (set)))] dX10_nearest_81 rfl (by decide) rfl ?_
                    refine wa_iinc ((nI (t + 1))) [(3, .int (nI (t + 1))), (2, .int (nI (t))), (4, .int (wB (gd C w h set t))), (0, wm_r G (96)), (1, .int (nI (set)))] dX10_nearest_82 2 rfl (nI_inc _) (by decide) rfl ?_
                    refine wa_goto 14 dX10_nearest_85 (by decide) ?_
                    refine wa_sub [0, 1, 3, 4] rfl ?_
                    exact ih_14 (t + 1) _ (by omega) (by omega) (by first | exact bs_keep hb c_52 | exact bs_ge hb eu (by omega) (by omega) (by omega) | exact bs_less hb c_52 eu (by omega) (by omega) (by omega) | exact bs_first hb c_52 c_58 (by omega))
            exact L_50  
  exact L_14 _ 0 _ (Nat.lt_succ_self _) (Nat.zero_le _) (Or.inl ⟨rfl, fun t ht => absurd ht (Nat.not_lt_zero _)⟩)

theorem x_near_no {G : wm_G} {M : wm_M} (C : wm_M) (w h s : Nat) (hX : xStn C M w h) (hW : TW C w h) (hXL : xLaw C M) (hCL : cLaw C) (hCS : cStn C (w * h)) (hQ : ∀ k, k < w * h → M.1 107 k = nI (sQ s k)) (hs : hadS C (w * h) s) (set : Nat) (hset : set < 16) (hn : NrNo C w h set) : MA G t_X10_nearest [wm_r G 96, .int (nI set)] M (fun v N => v = some (.int (-9)) ∧ FrN M N) :=
  MA.mono (x_near C w h s hX hW hXL hCL hCS hQ hs set hset) (fun v N ⟨b, e, q, f, _⟩ => ⟨by rw [e, nr_no q hn], f⟩)
theorem x_near_is {G : wm_G} {M : wm_M} (C : wm_M) (w h s : Nat) (hX : xStn C M w h) (hW : TW C w h) (hXL : xLaw C M) (hCL : cLaw C) (hCS : cStn C (w * h)) (hQ : ∀ k, k < w * h → M.1 107 k = nI (sQ s k)) (hs : hadS C (w * h) s) (set : Nat) (hset : set < 16) (t : Nat) (hn : NrIs C w h s set t) : MA G t_X10_nearest [wm_r G 96, .int (nI set)] M (fun v N => v = some (.int (nI t)) ∧ FrN M N ∧ N.1 114 t = nI (dst (C.1 18) (w * h) s t)) :=
  MA.mono (x_near C w h s hX hW hXL hCL hCS hQ hs set hset) (fun v N ⟨b, e, q, f, g⟩ => ⟨by rw [e, nr_is q hn], f, (g t hn.1.1).trans (tT_had hn.1.2)⟩)

theorem x_years_bad {G : wm_G} {M : wm_M} (set : Int32) (hset : wIn set 16 = false) : MD G t_X10_years [wm_r G (96), .int (set)] (M) (some (.int (-1))) (M) := by
  refine wm_met (by decide) (Nat.le_of_ble_eq_true rfl) ?_
  show WA G t_X10_years (fun v_ N_ => v_ = some (.int (-1)) ∧ N_ = M) 0 [(0, wm_r G (96)), (1, .int (set))] [] (M)
  refine wa_iload_n dX10_years_0 rfl 1 rfl ?_
  refine wa_cSi (x_isSet set) vX10_isSet iX10_years_1 rfl rfl (Nat.le_of_ble_eq_true rfl) ⟨by decide, by decide⟩ ?_
  refine wa_eqi (y := (0)) (by rw [hset]; rfl) ?_
  refine wa_if_ne 9 dX10_years_4 (by decide) (fun c_4 => absurd c_4 (by decide)) (fun c_4 => ?_)
  refine wa_iconst (-1) dX10_years_7 (by decide) ?_
  exact wa_iret dX10_years_8 rfl ⟨congrArg (fun z => some (Value.int z)) (rfl), rfl⟩

theorem x_years_no {G : wm_G} {M : wm_M} (C : wm_M) (w h s : Nat) (hX : xStn C M w h) (hW : TW C w h) (hXL : xLaw C M) (hCL : cLaw C) (hCS : cStn C (w * h)) (hQ : ∀ k, k < w * h → M.1 107 k = nI (sQ s k)) (hs : hadS C (w * h) s) (set : Nat) (hset : set < 16) (hn : NrNo C w h set) : MA G t_X10_years [wm_r G (96), .int (nI (set))] (M) (fun v N => v = some (.int (-9)) ∧ FrN M N) := by
  obtain ⟨x10, x11, x12, x103, x104, x105, x106⟩ := id hX
  have hn6 := TW_n hW
  have hw3 := hW.2.2.1
  have hh2 := hW.2.2.2
  have h4 := p4_le hn6
  refine wm_met (by decide) (Nat.le_of_ble_eq_true rfl) ?_
  show WA G t_X10_years (fun v N => v = some (.int (-9)) ∧ FrN M N) 0 [(0, wm_r G (96)), (1, .int (nI (set)))] [] (M)
  refine wa_iload_n dX10_years_0 rfl 1 rfl ?_
  refine wa_cSi (x_isSet (nI set)) vX10_isSet iX10_years_1 rfl rfl (Nat.le_of_ble_eq_true rfl) ⟨by decide, by decide⟩ ?_
  refine wa_eqi (y := (1)) (by rw [wIn_nI (by omega), decide_eq_true (by omega)]; rfl) ?_
  refine wa_if_ne 9 dX10_years_4 (by decide) (fun c_4 => ?_) (fun c_4 => absurd c_4 (by decide))
  refine wa_aload_n dX10_years_9 rfl 0 rfl ?_
  refine wa_iload_n dX10_years_10 rfl 1 rfl ?_
  refine wa_callV (x_near_no C w h s hX hW hXL hCL hCS hQ hs set hset hn) vX10_nearest iX10_years_11 (rfl) rfl rfl rfl (Nat.le_of_ble_eq_true rfl) ⟨by decide, by decide⟩ (fun v_ N h_ => ?_)
  obtain ⟨rfl, hF⟩ := h_
  show WA G t_X10_years (fun v N => v = some (.int (-9)) ∧ FrN M N) 14 [(0, wm_r G (96)), (1, .int (nI (set)))] [.int (-9)] (N)
  refine wa_istore_n [(2, .int (-9)), (0, wm_r G (96)), (1, .int (nI (set)))] dX10_years_14 rfl (by decide) rfl ?_
  refine wa_iload_n dX10_years_15 rfl 0 rfl ?_
  refine wa_bipush (-9) dX10_years_16 (by decide) ?_
  refine wa_icmp_ne 26 dX10_years_18 (by decide) (fun c_18 => absurd c_18 (by decide)) (fun c_18 => ?_)
  refine wa_bipush (-9) dX10_years_21 (by decide) ?_
  refine wa_goto 37 dX10_years_23 (by decide) ?_
  refine wa_iret dX10_years_37 rfl ?_
  exact ⟨rfl, hF⟩

theorem x_years_ok {G : wm_G} {M : wm_M} (C : wm_M) (w h s : Nat) (hX : xStn C M w h) (hW : TW C w h) (hXL : xLaw C M) (hCL : cLaw C) (hCS : cStn C (w * h)) (hQ : ∀ k, k < w * h → M.1 107 k = nI (sQ s k)) (hs : hadS C (w * h) s) (set : Nat) (hset : set < 16) (t n : Nat) (hn : NrIs C w h s set t) (hd : dst (C.1 18) (w * h) s t = n) : MA G t_X10_years [wm_r G (96), .int (nI (set))] (M) (fun v N => v = some (.int (nI n)) ∧ ∃ O, FrN M O ∧ N = xTell O (nI t)) := by
  obtain ⟨x10, x11, x12, x103, x104, x105, x106⟩ := id hX
  have hn6 := TW_n hW
  have hw3 := hW.2.2.1
  have hh2 := hW.2.2.2
  have h4 := p4_le hn6
  have ht4 : t < 4096 := Nat.lt_of_lt_of_le hn.1.1 h4
  have hn18 : n ≤ 18 := by rw [← hd]; exact dst18 hn6
  refine wm_met (by decide) (Nat.le_of_ble_eq_true rfl) ?_
  show WA G t_X10_years (fun v N => v = some (.int (nI n)) ∧ ∃ O, FrN M O ∧ N = xTell O (nI t)) 0 [(0, wm_r G (96)), (1, .int (nI (set)))] [] (M)
  refine wa_iload_n dX10_years_0 rfl 1 rfl ?_
  refine wa_cSi (x_isSet (nI set)) vX10_isSet iX10_years_1 rfl rfl (Nat.le_of_ble_eq_true rfl) ⟨by decide, by decide⟩ ?_
  refine wa_eqi (y := (1)) (by rw [wIn_nI (by omega), decide_eq_true (by omega)]; rfl) ?_
  refine wa_if_ne 9 dX10_years_4 (by decide) (fun c_4 => ?_) (fun c_4 => absurd c_4 (by decide))
  refine wa_aload_n dX10_years_9 rfl 0 rfl ?_
  refine wa_iload_n dX10_years_10 rfl 1 rfl ?_
  refine wa_callV (x_near_is C w h s hX hW hXL hCL hCS hQ hs set hset t hn) vX10_nearest iX10_years_11 (rfl) rfl rfl rfl (Nat.le_of_ble_eq_true rfl) ⟨by decide, by decide⟩ (fun v_ N h_ => ?_)
  obtain ⟨rfl, hF, h114⟩ := h_
  show WA G t_X10_years (fun v N => v = some (.int (nI n)) ∧ ∃ O, FrN M O ∧ N = xTell O (nI t)) 14 [(0, wm_r G (96)), (1, .int (nI (set)))] [.int (nI (t))] (N)
  refine wa_istore_n [(2, .int (nI (t))), (0, wm_r G (96)), (1, .int (nI (set)))] dX10_years_14 rfl (by decide) rfl ?_
  refine wa_iload_n dX10_years_15 rfl 0 rfl ?_
  refine wa_bipush (-9) dX10_years_16 (by decide) ?_
  refine wa_icmp_ne 26 dX10_years_18 (by decide) (fun c_18 => ?_) (fun c_18 => absurd c_18 (nI_ne9 (by omega)))
  refine wa_aload_n dX10_years_26 rfl 1 rfl ?_
  refine wa_iload_n dX10_years_27 rfl 0 rfl ?_
  refine wa_aload_n dX10_years_28 rfl 1 rfl ?_
  refine wa_getr gX10_years_29 (rfl) rfl ?_
  refine wa_iload_n dX10_years_32 rfl 0 rfl ?_
  refine wa_ialdN (e := t) dX10_years_33 (rfl) (by omega) (by decide) ?_
  refine wa_eqi (y := (nI (n))) (by rw [h114, hd]) ?_
  refine wa_cVi (x_tells (nI t) (nI n)) vX10_tells iX10_years_34 (rfl) rfl rfl rfl (Nat.le_of_ble_eq_true rfl) ⟨by decide, by decide⟩ ?_
  refine wa_iret dX10_years_37 rfl ?_
  exact ⟨rfl, N, hF, rfl⟩

theorem x_lives_bad1 {G : wm_G} {M : wm_M} (set p : Int32) (hset : wIn set 16 = false) : MD G t_X10_lives [wm_r G (96), .int (set), .int (p)] (M) (some (.int (-1))) (M) := by
  refine wm_met (by decide) (Nat.le_of_ble_eq_true rfl) ?_
  show WA G t_X10_lives (fun v_ N_ => v_ = some (.int (-1)) ∧ N_ = M) 0 [(0, wm_r G (96)), (1, .int (set)), (2, .int (p))] [] (M)
  refine wa_iload_n dX10_lives_0 rfl 1 rfl ?_
  refine wa_cSi (x_isSet set) vX10_isSet iX10_lives_1 rfl rfl (Nat.le_of_ble_eq_true rfl) ⟨by decide, by decide⟩ ?_
  refine wa_eqi (y := (0)) (by rw [hset]; rfl) ?_
  refine wa_if_eq 17 dX10_lives_4 (by decide) (fun c_4 => ?_) (fun c_4 => absurd c_4 (by decide))
  refine wa_iconst (-1) dX10_lives_17 (by decide) ?_
  exact wa_iret dX10_lives_18 rfl ⟨congrArg (fun z => some (Value.int z)) (rfl), rfl⟩

theorem x_lives_bad2 {G : wm_G} {M : wm_M} (set : Nat) (hset : set < 16) (p : Int32) (hp : p < 1 ∨ ¬ p ≤ 12) : MD G t_X10_lives [wm_r G (96), .int (nI (set)), .int (p)] (M) (some (.int (-1))) (M) := by
  refine wm_met (by decide) (Nat.le_of_ble_eq_true rfl) ?_
  show WA G t_X10_lives (fun v_ N_ => v_ = some (.int (-1)) ∧ N_ = M) 0 [(0, wm_r G (96)), (1, .int (nI (set))), (2, .int (p))] [] (M)
  refine wa_iload_n dX10_lives_0 rfl 1 rfl ?_
  refine wa_cSi (x_isSet (nI set)) vX10_isSet iX10_lives_1 rfl rfl (Nat.le_of_ble_eq_true rfl) ⟨by decide, by decide⟩ ?_
  refine wa_eqi (y := (1)) (by rw [wIn_nI (by omega), decide_eq_true (by omega)]; rfl) ?_
  refine wa_if_eq 17 dX10_lives_4 (by decide) (fun c_4 => absurd c_4 (by decide)) (fun c_4 => ?_)
  refine wa_iload_n dX10_lives_7 rfl 2 rfl ?_
  refine wa_iconst (1) dX10_lives_8 (by decide) ?_
  refine wa_bipush (12) dX10_lives_9 (by decide) ?_
  refine wa_cSi (x_in p 1 12) vX10_in iX10_lives_11 rfl rfl (Nat.le_of_ble_eq_true rfl) ⟨by decide, by decide⟩ ?_
  refine wa_eqi (y := (0)) (by rw [show inC p 1 12 = false from Bool.eq_false_iff.mpr (fun q => (inC_1 (m := 12) (by decide)).mp q hp)]; rfl) ?_
  refine wa_if_ne 19 dX10_lives_14 (by decide) (fun c_14 => absurd c_14 (by decide)) (fun c_14 => ?_)
  refine wa_iconst (-1) dX10_lives_17 (by decide) ?_
  exact wa_iret dX10_lives_18 rfl ⟨congrArg (fun z => some (Value.int z)) (rfl), rfl⟩

theorem x_lives_no {G : wm_G} {M : wm_M} (C : wm_M) (w h s : Nat) (hX : xStn C M w h) (hW : TW C w h) (hXL : xLaw C M) (hCL : cLaw C) (hCS : cStn C (w * h)) (hQ : ∀ k, k < w * h → M.1 107 k = nI (sQ s k)) (hs : hadS C (w * h) s) (set : Nat) (hset : set < 16) (hn : NrNo C w h set) (p : Nat) (hp1 : 1 ≤ p) (hp : p ≤ 12) : MA G t_X10_lives [wm_r G (96), .int (nI (set)), .int (nI (p))] (M) (fun v N => v = some (.int (-9)) ∧ FrN M N) := by
  obtain ⟨x10, x11, x12, x103, x104, x105, x106⟩ := id hX
  have hn6 := TW_n hW
  have hw3 := hW.2.2.1
  have hh2 := hW.2.2.2
  have h4 := p4_le hn6
  refine wm_met (by decide) (Nat.le_of_ble_eq_true rfl) ?_
  show WA G t_X10_lives (fun v N => v = some (.int (-9)) ∧ FrN M N) 0 [(0, wm_r G (96)), (1, .int (nI (set))), (2, .int (nI (p)))] [] (M)
  refine wa_iload_n dX10_lives_0 rfl 1 rfl ?_
  refine wa_cSi (x_isSet (nI set)) vX10_isSet iX10_lives_1 rfl rfl (Nat.le_of_ble_eq_true rfl) ⟨by decide, by decide⟩ ?_
  refine wa_eqi (y := (1)) (by rw [wIn_nI (by omega), decide_eq_true (by omega)]; rfl) ?_
  refine wa_if_eq 17 dX10_lives_4 (by decide) (fun c_4 => absurd c_4 (by decide)) (fun c_4 => ?_)
  refine wa_iload_n dX10_lives_7 rfl 2 rfl ?_
  refine wa_iconst (1) dX10_lives_8 (by decide) ?_
  refine wa_bipush (12) dX10_lives_9 (by decide) ?_
  refine wa_cSi (x_in (nI p) 1 12) vX10_in iX10_lives_11 rfl rfl (Nat.le_of_ble_eq_true rfl) ⟨by decide, by decide⟩ ?_
  refine wa_eqi (y := (1)) (by rw [show inC (nI p) 1 12 = true from inC_t (fun q => by have := (nI_ltI (b := 1) (by omega) (by decide)).mp q; omega) ((nI_leI (b := 12) (by omega) (by decide)).mpr hp)]; rfl) ?_
  refine wa_if_ne 19 dX10_lives_14 (by decide) (fun c_14 => ?_) (fun c_14 => absurd c_14 (by decide))
  refine wa_aload_n dX10_lives_19 rfl 0 rfl ?_
  refine wa_iload_n dX10_lives_20 rfl 1 rfl ?_
  refine wa_callV (x_near_no C w h s hX hW hXL hCL hCS hQ hs set hset hn) vX10_nearest iX10_lives_21 (rfl) rfl rfl rfl (Nat.le_of_ble_eq_true rfl) ⟨by decide, by decide⟩ (fun v_ N h_ => ?_)
  obtain ⟨rfl, hF⟩ := h_
  show WA G t_X10_lives (fun v N => v = some (.int (-9)) ∧ FrN M N) 24 [(0, wm_r G (96)), (1, .int (nI (set))), (2, .int (nI (p)))] [.int (-9)] (N)
  refine wa_istore_n [(3, .int (-9)), (0, wm_r G (96)), (1, .int (nI (set))), (2, .int (nI (p)))] dX10_lives_24 rfl (by decide) rfl ?_
  refine wa_iload_n dX10_lives_25 rfl 0 rfl ?_
  refine wa_bipush (-9) dX10_lives_26 (by decide) ?_
  refine wa_icmp_ne 34 dX10_lives_28 (by decide) (fun c_28 => absurd c_28 (by decide)) (fun c_28 => ?_)
  refine wa_bipush (-9) dX10_lives_31 (by decide) ?_
  refine wa_iret dX10_lives_33 rfl ?_
  exact ⟨rfl, hF⟩

theorem x_lives_sp {G : wm_G} {M : wm_M} (C : wm_M) (w h s : Nat) (hX : xStn C M w h) (hW : TW C w h) (hXL : xLaw C M) (hCL : cLaw C) (hCS : cStn C (w * h)) (hQ : ∀ k, k < w * h → M.1 107 k = nI (sQ s k)) (hs : hadS C (w * h) s) (set : Nat) (hset : set < 16) (t n : Nat) (hn : NrIs C w h s set t) (hd : dst (C.1 18) (w * h) s t = n) (p : Nat) (hp1 : 1 ≤ p) (hp : p ≤ 12) (h17 : 17 < n) : MA G t_X10_lives [wm_r G (96), .int (nI (set)), .int (nI (p))] (M) (fun v N => v = some (.int (-6)) ∧ FrN M N) := by
  obtain ⟨x10, x11, x12, x103, x104, x105, x106⟩ := id hX
  have hn6 := TW_n hW
  have hw3 := hW.2.2.1
  have hh2 := hW.2.2.2
  have h4 := p4_le hn6
  have ht4 : t < 4096 := Nat.lt_of_lt_of_le hn.1.1 h4
  have hn18 : n ≤ 18 := by rw [← hd]; exact dst18 hn6
  refine wm_met (by decide) (Nat.le_of_ble_eq_true rfl) ?_
  show WA G t_X10_lives (fun v N => v = some (.int (-6)) ∧ FrN M N) 0 [(0, wm_r G (96)), (1, .int (nI (set))), (2, .int (nI (p)))] [] (M)
  refine wa_iload_n dX10_lives_0 rfl 1 rfl ?_
  refine wa_cSi (x_isSet (nI set)) vX10_isSet iX10_lives_1 rfl rfl (Nat.le_of_ble_eq_true rfl) ⟨by decide, by decide⟩ ?_
  refine wa_eqi (y := (1)) (by rw [wIn_nI (by omega), decide_eq_true (by omega)]; rfl) ?_
  refine wa_if_eq 17 dX10_lives_4 (by decide) (fun c_4 => absurd c_4 (by decide)) (fun c_4 => ?_)
  refine wa_iload_n dX10_lives_7 rfl 2 rfl ?_
  refine wa_iconst (1) dX10_lives_8 (by decide) ?_
  refine wa_bipush (12) dX10_lives_9 (by decide) ?_
  refine wa_cSi (x_in (nI p) 1 12) vX10_in iX10_lives_11 rfl rfl (Nat.le_of_ble_eq_true rfl) ⟨by decide, by decide⟩ ?_
  refine wa_eqi (y := (1)) (by rw [show inC (nI p) 1 12 = true from inC_t (fun q => by have := (nI_ltI (b := 1) (by omega) (by decide)).mp q; omega) ((nI_leI (b := 12) (by omega) (by decide)).mpr hp)]; rfl) ?_
  refine wa_if_ne 19 dX10_lives_14 (by decide) (fun c_14 => ?_) (fun c_14 => absurd c_14 (by decide))
  refine wa_aload_n dX10_lives_19 rfl 0 rfl ?_
  refine wa_iload_n dX10_lives_20 rfl 1 rfl ?_
  refine wa_callV (x_near_is C w h s hX hW hXL hCL hCS hQ hs set hset t hn) vX10_nearest iX10_lives_21 (rfl) rfl rfl rfl (Nat.le_of_ble_eq_true rfl) ⟨by decide, by decide⟩ (fun v_ N h_ => ?_)
  obtain ⟨rfl, hF, h114⟩ := h_
  show WA G t_X10_lives (fun v N => v = some (.int (-6)) ∧ FrN M N) 24 [(0, wm_r G (96)), (1, .int (nI (set))), (2, .int (nI (p)))] [.int (nI (t))] (N)
  refine wa_istore_n [(3, .int (nI (t))), (0, wm_r G (96)), (1, .int (nI (set))), (2, .int (nI (p)))] dX10_lives_24 rfl (by decide) rfl ?_
  refine wa_iload_n dX10_lives_25 rfl 0 rfl ?_
  refine wa_bipush (-9) dX10_lives_26 (by decide) ?_
  refine wa_icmp_ne 34 dX10_lives_28 (by decide) (fun c_28 => ?_) (fun c_28 => absurd c_28 (nI_ne9 (by omega)))
  refine wa_aload_n dX10_lives_34 rfl 1 rfl ?_
  refine wa_getr gX10_lives_35 (rfl) rfl ?_
  refine wa_iload_n dX10_lives_38 rfl 0 rfl ?_
  refine wa_ialdN (e := t) dX10_lives_39 (rfl) (by omega) (by decide) ?_
  refine wa_eqi (y := (nI (n))) (by rw [h114, hd]) ?_
  refine wa_istore [(4, .int (nI (n))), (3, .int (nI (t))), (0, wm_r G (96)), (1, .int (nI (set))), (2, .int (nI (p)))] dX10_lives_40 (by decide) rfl ?_
  refine wa_iload dX10_lives_42 0 rfl ?_
  refine wa_bipush (17) dX10_lives_44 (by decide) ?_
  refine wa_icmp_leN (a := n) (b := 17) 52 dX10_lives_46 (by decide) (by omega) (by omega) (fun c_46 => absurd c_46 (by omega)) (fun c_46 => ?_)
  refine wa_bipush (-6) dX10_lives_49 (by decide) ?_
  refine wa_iret dX10_lives_51 rfl ?_
  exact ⟨rfl, hF⟩

theorem x_lives_ok {G : wm_G} {M : wm_M} (C : wm_M) (w h s : Nat) (hX : xStn C M w h) (hW : TW C w h) (hXL : xLaw C M) (hCL : cLaw C) (hCS : cStn C (w * h)) (hQ : ∀ k, k < w * h → M.1 107 k = nI (sQ s k)) (hs : hadS C (w * h) s) (set : Nat) (hset : set < 16) (t n : Nat) (hn : NrIs C w h s set t) (hd : dst (C.1 18) (w * h) s t = n) (p : Nat) (hp1 : 1 ≤ p) (hp : p ≤ 12) (h17 : n ≤ 17) : MA G t_X10_lives [wm_r G (96), .int (nI (set)), .int (nI (p))] (M) (fun v N => v = some (.int (nI n)) ∧ ∃ O, FrN M O ∧ N = xFr2 O (lN (p ^ n / Nat.gcd (p ^ n) (12 ^ n))) (lN (12 ^ n / Nat.gcd (p ^ n) (12 ^ n)))) := by
  obtain ⟨x10, x11, x12, x103, x104, x105, x106⟩ := id hX
  have hn6 := TW_n hW
  have hw3 := hW.2.2.1
  have hh2 := hW.2.2.2
  have h4 := p4_le hn6
  have ht4 : t < 4096 := Nat.lt_of_lt_of_le hn.1.1 h4
  have hn18 : n ≤ 18 := by rw [← hd]; exact dst18 hn6
  have hb12 : 12 ^ n < 2 ^ 63 := Nat.lt_of_le_of_lt (Nat.pow_le_pow_right (by decide) h17) (by decide)
  have hbp : p ^ n < 2 ^ 63 := Nat.lt_of_le_of_lt (Nat.pow_le_pow_left hp n) hb12
  refine wm_met (by decide) (Nat.le_of_ble_eq_true rfl) ?_
  show WA G t_X10_lives (fun v N => v = some (.int (nI n)) ∧ ∃ O, FrN M O ∧ N = xFr2 O (lN (p ^ n / Nat.gcd (p ^ n) (12 ^ n))) (lN (12 ^ n / Nat.gcd (p ^ n) (12 ^ n)))) 0 [(0, wm_r G (96)), (1, .int (nI (set))), (2, .int (nI (p)))] [] (M)
  refine wa_iload_n dX10_lives_0 rfl 1 rfl ?_
  refine wa_cSi (x_isSet (nI set)) vX10_isSet iX10_lives_1 rfl rfl (Nat.le_of_ble_eq_true rfl) ⟨by decide, by decide⟩ ?_
  refine wa_eqi (y := (1)) (by rw [wIn_nI (by omega), decide_eq_true (by omega)]; rfl) ?_
  refine wa_if_eq 17 dX10_lives_4 (by decide) (fun c_4 => absurd c_4 (by decide)) (fun c_4 => ?_)
  refine wa_iload_n dX10_lives_7 rfl 2 rfl ?_
  refine wa_iconst (1) dX10_lives_8 (by decide) ?_
  refine wa_bipush (12) dX10_lives_9 (by decide) ?_
  refine wa_cSi (x_in (nI p) 1 12) vX10_in iX10_lives_11 rfl rfl (Nat.le_of_ble_eq_true rfl) ⟨by decide, by decide⟩ ?_
  refine wa_eqi (y := (1)) (by rw [show inC (nI p) 1 12 = true from inC_t (fun q => by have := (nI_ltI (b := 1) (by omega) (by decide)).mp q; omega) ((nI_leI (b := 12) (by omega) (by decide)).mpr hp)]; rfl) ?_
  refine wa_if_ne 19 dX10_lives_14 (by decide) (fun c_14 => ?_) (fun c_14 => absurd c_14 (by decide))
  refine wa_aload_n dX10_lives_19 rfl 0 rfl ?_
  refine wa_iload_n dX10_lives_20 rfl 1 rfl ?_
  refine wa_callV (x_near_is C w h s hX hW hXL hCL hCS hQ hs set hset t hn) vX10_nearest iX10_lives_21 (rfl) rfl rfl rfl (Nat.le_of_ble_eq_true rfl) ⟨by decide, by decide⟩ (fun v_ N h_ => ?_)
  obtain ⟨rfl, hF, h114⟩ := h_
  show WA G t_X10_lives (fun v N => v = some (.int (nI n)) ∧ ∃ O, FrN M O ∧ N = xFr2 O (lN (p ^ n / Nat.gcd (p ^ n) (12 ^ n))) (lN (12 ^ n / Nat.gcd (p ^ n) (12 ^ n)))) 24 [(0, wm_r G (96)), (1, .int (nI (set))), (2, .int (nI (p)))] [.int (nI (t))] (N)
  refine wa_istore_n [(3, .int (nI (t))), (0, wm_r G (96)), (1, .int (nI (set))), (2, .int (nI (p)))] dX10_lives_24 rfl (by decide) rfl ?_
  refine wa_iload_n dX10_lives_25 rfl 0 rfl ?_
  refine wa_bipush (-9) dX10_lives_26 (by decide) ?_
  refine wa_icmp_ne 34 dX10_lives_28 (by decide) (fun c_28 => ?_) (fun c_28 => absurd c_28 (nI_ne9 (by omega)))
  refine wa_aload_n dX10_lives_34 rfl 1 rfl ?_
  refine wa_getr gX10_lives_35 (rfl) rfl ?_
  refine wa_iload_n dX10_lives_38 rfl 0 rfl ?_
  refine wa_ialdN (e := t) dX10_lives_39 (rfl) (by omega) (by decide) ?_
  refine wa_eqi (y := (nI (n))) (by rw [h114, hd]) ?_
  refine wa_istore [(4, .int (nI (n))), (3, .int (nI (t))), (0, wm_r G (96)), (1, .int (nI (set))), (2, .int (nI (p)))] dX10_lives_40 (by decide) rfl ?_
  refine wa_iload dX10_lives_42 0 rfl ?_
  refine wa_bipush (17) dX10_lives_44 (by decide) ?_
  refine wa_icmp_leN (a := n) (b := 17) 52 dX10_lives_46 (by decide) (by omega) (by omega) (fun c_46 => ?_) (fun c_46 => absurd c_46 (by omega))
  refine wa_lconst (1) dX10_lives_52 (by decide) ?_
  refine wa_eql (y := lN (p ^ 0)) (rfl) ?_
  refine wa_lstore [(5, .long (lN (p ^ 0))), (4, .int (nI (n))), (3, .int (nI (t))), (0, wm_r G (96)), (1, .int (nI (set))), (2, .int (nI (p)))] dX10_lives_53 (by decide) rfl ?_
  refine wa_lconst (1) dX10_lives_55 (by decide) ?_
  refine wa_eql (y := lN (12 ^ 0)) (rfl) ?_
  refine wa_lstore [(7, .long (lN (12 ^ 0))), (5, .long (lN (p ^ 0))), (4, .int (nI (n))), (3, .int (nI (t))), (0, wm_r G (96)), (1, .int (nI (set))), (2, .int (nI (p)))] dX10_lives_56 (by decide) rfl ?_
  refine wa_iconst (0) dX10_lives_58 (by decide) ?_
  refine wa_istore [(9, .int (0)), (7, .long (lN (12 ^ 0))), (5, .long (lN (p ^ 0))), (4, .int (nI (n))), (3, .int (nI (t))), (0, wm_r G (96)), (1, .int (nI (set))), (2, .int (nI (p)))] dX10_lives_59 (by decide) rfl ?_
  have L_61 : ∀ (n_ : Nat) (i : Nat), (n - i) < n_ → (i ≤ n) → WA G t_X10_lives (fun v N => v = some (.int (nI n)) ∧ ∃ O, FrN M O ∧ N = xFr2 O (lN (p ^ n / Nat.gcd (p ^ n) (12 ^ n))) (lN (12 ^ n / Nat.gcd (p ^ n) (12 ^ n)))) 61 [(9, .int (nI (i))), (7, .long (lN (12 ^ i))), (5, .long (lN (p ^ i))), (4, .int (nI (n))), (0, wm_r G (96)), (2, .int (nI (p)))] [] (N) := by
    intro n_
    induction n_ with
    | zero => intro i h_; exact absurd h_ (Nat.not_lt_zero _)
    | succ n_ ih_61 =>
      intro i h_ hi
      refine wa_iload dX10_lives_61 0 rfl ?_
      refine wa_iload dX10_lives_63 3 rfl ?_
      refine wa_icmp_geN (a := i) (b := n) 89 dX10_lives_65 (by decide) (by omega) (by omega) (fun c_65 => ?_) (fun c_65 => ?_)
      · refine wa_aload_n dX10_lives_89 rfl 4 rfl ?_
        refine wa_lload dX10_lives_90 2 rfl ?_
        refine wa_eql (y := lN (p ^ n)) (by rw [show i = n by omega]) ?_
        refine wa_lload dX10_lives_92 1 rfl ?_
        refine wa_eql (y := lN (12 ^ n)) (by rw [show i = n by omega]) ?_
        refine wa_iload dX10_lives_94 3 rfl ?_
        refine wa_cVi (x_frac (p ^ n) (12 ^ n) (nI n) hbp hb12 (Nat.pow_pos (by decide))) vX10_fraction iX10_lives_96 (rfl) rfl rfl rfl (Nat.le_of_ble_eq_true rfl) ⟨by decide, by decide⟩ ?_
        refine wa_iret dX10_lives_99 rfl ?_
        exact ⟨rfl, N, hF, rfl⟩
      · refine wa_lload dX10_lives_68 2 rfl ?_
        refine wa_iload_n dX10_lives_70 rfl 5 rfl ?_
        refine wa_i2l dX10_lives_71 ?_
        refine wa_lmul dX10_lives_72 ?_
        refine wa_eql (y := lN (p ^ (i + 1))) (by rw [nI_l (by omega), lN_mul, Nat.pow_succ]) ?_
        refine wa_lstore [(5, .long (lN (p ^ (i + 1)))), (9, .int (nI (i))), (7, .long (lN (12 ^ i))), (4, .int (nI (n))), (0, wm_r G (96)), (2, .int (nI (p)))] dX10_lives_73 (by decide) rfl ?_
        refine wa_lload dX10_lives_75 2 rfl ?_
        refine wa_ldc2 (12) dX10_lives_77 kX10_lives_77 ?_
        refine wa_lmul dX10_lives_80 ?_
        refine wa_eql (y := lN (12 ^ (i + 1))) (by rw [show (12 : Int64) = lN 12 from rfl, lN_mul, Nat.pow_succ]) ?_
        refine wa_lstore [(7, .long (lN (12 ^ (i + 1)))), (5, .long (lN (p ^ (i + 1)))), (9, .int (nI (i))), (4, .int (nI (n))), (0, wm_r G (96)), (2, .int (nI (p)))] dX10_lives_81 (by decide) rfl ?_
        refine wa_iinc ((nI (i + 1))) [(9, .int (nI (i + 1))), (7, .long (lN (12 ^ (i + 1)))), (5, .long (lN (p ^ (i + 1)))), (4, .int (nI (n))), (0, wm_r G (96)), (2, .int (nI (p)))] dX10_lives_83 2 rfl (nI_inc _) (by decide) rfl ?_
        refine wa_goto 61 dX10_lives_86 (by decide) ?_
        exact ih_61 (i + 1) (by omega) (by omega)
  refine wa_sub [0, 1, 2, 3, 5, 7] rfl ?_
  exact L_61 _ 0 (Nat.lt_succ_self _) (Nat.zero_le _)

theorem x_share_bad {G : wm_G} {M : wm_M} (set : Int32) (hset : wIn set 16 = false) : MD G t_X10_share [wm_r G (96), .int (set)] (M) (some (.int (-1))) (M) := by
  refine wm_met (by decide) (Nat.le_of_ble_eq_true rfl) ?_
  show WA G t_X10_share (fun v_ N_ => v_ = some (.int (-1)) ∧ N_ = M) 0 [(0, wm_r G (96)), (1, .int (set))] [] (M)
  refine wa_iload_n dX10_share_0 rfl 1 rfl ?_
  refine wa_cSi (x_isSet set) vX10_isSet iX10_share_1 rfl rfl (Nat.le_of_ble_eq_true rfl) ⟨by decide, by decide⟩ ?_
  refine wa_eqi (y := (0)) (by rw [hset]; rfl) ?_
  refine wa_if_ne 9 dX10_share_4 (by decide) (fun c_4 => absurd c_4 (by decide)) (fun c_4 => ?_)
  refine wa_iconst (-1) dX10_share_7 (by decide) ?_
  exact wa_iret dX10_share_8 rfl ⟨congrArg (fun z => some (Value.int z)) (rfl), rfl⟩

theorem x_share_st {G : wm_G} {M : wm_M} (set : Nat) (hset : set < 16) (h12 : M.1 96 12 = nI 0) : MD G t_X10_share [wm_r G (96), .int (nI (set))] (M) (some (.int (-4))) (M) := by
  refine wm_met (by decide) (Nat.le_of_ble_eq_true rfl) ?_
  show WA G t_X10_share (fun v_ N_ => v_ = some (.int (-4)) ∧ N_ = M) 0 [(0, wm_r G (96)), (1, .int (nI (set)))] [] (M)
  refine wa_iload_n dX10_share_0 rfl 1 rfl ?_
  refine wa_cSi (x_isSet (nI set)) vX10_isSet iX10_share_1 rfl rfl (Nat.le_of_ble_eq_true rfl) ⟨by decide, by decide⟩ ?_
  refine wa_eqi (y := (1)) (by rw [wIn_nI (by omega), decide_eq_true (by omega)]; rfl) ?_
  refine wa_if_ne 9 dX10_share_4 (by decide) (fun c_4 => ?_) (fun c_4 => absurd c_4 (by decide))
  refine wa_aload_n dX10_share_9 rfl 0 rfl ?_
  refine wa_geti gX10_share_10 (rfl) rfl ?_
  refine wa_eqi (y := (0)) (h12) ?_
  refine wa_if_ne 19 dX10_share_13 (by decide) (fun c_13 => absurd c_13 (by decide)) (fun c_13 => ?_)
  refine wa_bipush (-4) dX10_share_16 (by decide) ?_
  exact wa_iret dX10_share_18 rfl ⟨congrArg (fun z => some (Value.int z)) (rfl), rfl⟩

theorem x_share_ok {G : wm_G} {M : wm_M} (C : wm_M) (w h s : Nat) (hX : xStn C M w h) (hW : TW C w h) (hXL : xLaw C M) (hCL : cLaw C) (hCS : cStn C (w * h)) (hQ : ∀ k, k < w * h → M.1 107 k = nI (sQ s k)) (hs : hadS C (w * h) s) (set : Nat) (hset : set < 16) (hn0 : ¬ w * h = 0) : MA G t_X10_share [wm_r G (96), .int (nI (set))] (M) (fun v N => v = some (.int (nI (wCnt (gd C w h set) (4 ^ (w * h))))) ∧ ∃ O, FrN M O ∧ N = xFr2 O (lN (wCnt (gd C w h set) (4 ^ (w * h)) / Nat.gcd (wCnt (gd C w h set) (4 ^ (w * h))) (wCnt (fun t => prodB (hadN (C.1 18) (w * h)) t) (4 ^ (w * h))))) (lN (wCnt (fun t => prodB (hadN (C.1 18) (w * h)) t) (4 ^ (w * h)) / Nat.gcd (wCnt (gd C w h set) (4 ^ (w * h))) (wCnt (fun t => prodB (hadN (C.1 18) (w * h)) t) (4 ^ (w * h)))))) := by
  obtain ⟨x10, x11, x12, x103, x104, x105, x106⟩ := id hX
  have hn6 := TW_n hW
  have hw3 := hW.2.2.1
  have hh2 := hW.2.2.2
  have h4 := p4_le hn6
  have hc1 := wCnt_le (gd C w h set) (4 ^ (w * h))
  have hc2 := wCnt_le (fun t => prodB (hadN (C.1 18) (w * h)) t) (4 ^ (w * h))
  have hc0 : 0 < wCnt (fun t => prodB (hadN (C.1 18) (w * h)) t) (4 ^ (w * h)) := wCnt_pos (i := 0) (Nat.pow_pos (by decide)) (hd_0 (C.1 18) hn6).2
  refine wm_met (by decide) (Nat.le_of_ble_eq_true rfl) ?_
  show WA G t_X10_share (fun v N => v = some (.int (nI (wCnt (gd C w h set) (4 ^ (w * h))))) ∧ ∃ O, FrN M O ∧ N = xFr2 O (lN (wCnt (gd C w h set) (4 ^ (w * h)) / Nat.gcd (wCnt (gd C w h set) (4 ^ (w * h))) (wCnt (fun t => prodB (hadN (C.1 18) (w * h)) t) (4 ^ (w * h))))) (lN (wCnt (fun t => prodB (hadN (C.1 18) (w * h)) t) (4 ^ (w * h)) / Nat.gcd (wCnt (gd C w h set) (4 ^ (w * h))) (wCnt (fun t => prodB (hadN (C.1 18) (w * h)) t) (4 ^ (w * h)))))) 0 [(0, wm_r G (96)), (1, .int (nI (set)))] [] (M)
  refine wa_iload_n dX10_share_0 rfl 1 rfl ?_
  refine wa_cSi (x_isSet (nI set)) vX10_isSet iX10_share_1 rfl rfl (Nat.le_of_ble_eq_true rfl) ⟨by decide, by decide⟩ ?_
  refine wa_eqi (y := (1)) (by rw [wIn_nI (by omega), decide_eq_true (by omega)]; rfl) ?_
  refine wa_if_ne 9 dX10_share_4 (by decide) (fun c_4 => ?_) (fun c_4 => absurd c_4 (by decide))
  refine wa_aload_n dX10_share_9 rfl 0 rfl ?_
  refine wa_geti gX10_share_10 (rfl) rfl ?_
  refine wa_eqi (y := (nI (w * h))) (x12) ?_
  refine wa_if_neN (a := w * h) 19 dX10_share_13 (by decide) (by omega) (fun c_13 => ?_) (fun c_13 => absurd c_13 hn0)
  refine wa_aload_n dX10_share_19 rfl 0 rfl ?_
  refine wa_cVv (x_layTurns C w h hX hW s hQ hs) vX10_layTurns iX10_share_20 (rfl) rfl rfl rfl (Nat.le_of_ble_eq_true rfl) ⟨by decide, by decide⟩ ?_
  refine wa_top (fun N1 e_N1 => ?_)
  have hF1 : FrN M N1 := by rw [e_N1]; exact FrN.t
  have h114 : ∀ t, t < 4 ^ (w * h) → N1.1 114 t = tT (C.1 18) (w * h) s t := fun t ht => by rw [e_N1, wIa_s, wTo_in ht]
  refine wa_aload_n dX10_share_23 rfl 0 rfl ?_
  refine wa_iconst (0) dX10_share_24 (by decide) ?_
  refine wa_eqi (y := (wB (false))) (rfl) ?_
  refine wa_callV (x_layStands (M := N1) C w h (hF1.stn hX) hW (hF1.law hXL) hCL hCS false (fun t => prodB (hadN (C.1 18) (w * h)) t) (fun t ht => ⟨fun q => (by cases q), fun _ => by rw [h114 t ht]; exact tT_neg hn6⟩)) vX10_layStands iX10_share_25 (rfl) rfl rfl rfl (Nat.le_of_ble_eq_true rfl) ⟨by decide, by decide⟩ (fun v_ N2 h_ => ?_)
  obtain ⟨rfl, hF2, hst⟩ := h_
  show WA G t_X10_share (fun v N => v = some (.int (nI (wCnt (gd C w h set) (4 ^ (w * h))))) ∧ ∃ O, FrN M O ∧ N = xFr2 O (lN (wCnt (gd C w h set) (4 ^ (w * h)) / Nat.gcd (wCnt (gd C w h set) (4 ^ (w * h))) (wCnt (fun t => prodB (hadN (C.1 18) (w * h)) t) (4 ^ (w * h))))) (lN (wCnt (fun t => prodB (hadN (C.1 18) (w * h)) t) (4 ^ (w * h)) / Nat.gcd (wCnt (gd C w h set) (4 ^ (w * h))) (wCnt (fun t => prodB (hadN (C.1 18) (w * h)) t) (4 ^ (w * h)))))) 28 [(0, wm_r G (96)), (1, .int (nI (set)))] [] (N2)
  have hF : FrN M N2 := hF1.tr hF2.n
  have h114 : ∀ t, t < 4 ^ (w * h) → N2.1 114 t = tT (C.1 18) (w * h) s t := fun t ht => by rw [hF2.1 114 (by decide) (by decide)]; exact h114 t ht
  have h12 : N2.1 96 12 = nI (w * h) := by rw [hF.1 96 (by decide) (by decide) (by decide)]; exact x12
  refine wa_iconst (0) dX10_share_28 (by decide) ?_
  refine wa_eqi (y := (nI (wCnt (fun t => prodB (hadN (C.1 18) (w * h)) t) 0))) (rfl) ?_
  refine wa_istore_n [(2, .int (nI (wCnt (fun t => prodB (hadN (C.1 18) (w * h)) t) 0))), (0, wm_r G (96)), (1, .int (nI (set)))] dX10_share_29 rfl (by decide) rfl ?_
  refine wa_iconst (0) dX10_share_30 (by decide) ?_
  refine wa_eqi (y := (nI (wCnt (gd C w h set) 0))) (rfl) ?_
  refine wa_istore_n [(3, .int (nI (wCnt (gd C w h set) 0))), (2, .int (nI (wCnt (fun t => prodB (hadN (C.1 18) (w * h)) t) 0))), (0, wm_r G (96)), (1, .int (nI (set)))] dX10_share_31 rfl (by decide) rfl ?_
  refine wa_iconst (0) dX10_share_32 (by decide) ?_
  refine wa_istore [(4, .int (0)), (3, .int (nI (wCnt (gd C w h set) 0))), (2, .int (nI (wCnt (fun t => prodB (hadN (C.1 18) (w * h)) t) 0))), (0, wm_r G (96)), (1, .int (nI (set)))] dX10_share_33 (by decide) rfl ?_
  have L_35 : ∀ (n_ : Nat) (t : Nat), (4 ^ (w * h) - t) < n_ → (t ≤ 4 ^ (w * h)) → WA G t_X10_share (fun v N => v = some (.int (nI (wCnt (gd C w h set) (4 ^ (w * h))))) ∧ ∃ O, FrN M O ∧ N = xFr2 O (lN (wCnt (gd C w h set) (4 ^ (w * h)) / Nat.gcd (wCnt (gd C w h set) (4 ^ (w * h))) (wCnt (fun t => prodB (hadN (C.1 18) (w * h)) t) (4 ^ (w * h))))) (lN (wCnt (fun t => prodB (hadN (C.1 18) (w * h)) t) (4 ^ (w * h)) / Nat.gcd (wCnt (gd C w h set) (4 ^ (w * h))) (wCnt (fun t => prodB (hadN (C.1 18) (w * h)) t) (4 ^ (w * h)))))) 35 [(4, .int (nI (t))), (3, .int (nI (wCnt (gd C w h set) t))), (2, .int (nI (wCnt (fun t => prodB (hadN (C.1 18) (w * h)) t) t))), (0, wm_r G (96)), (1, .int (nI (set)))] [] (N2) := by
    intro n_
    induction n_ with
    | zero => intro t h_; exact absurd h_ (Nat.not_lt_zero _)
    | succ n_ ih_35 =>
      intro t h_ ht
      refine wa_iload dX10_share_35 0 rfl ?_
      refine wa_aload_n dX10_share_37 rfl 3 rfl ?_
      refine wa_cVi (x_stateMany (w * h) hn6 h12) vX10_stateMany iX10_share_38 (rfl) rfl rfl rfl (Nat.le_of_ble_eq_true rfl) ⟨by decide, by decide⟩ ?_
      refine wa_icmp_geN (a := t) (b := 4 ^ (w * h)) 99 dX10_share_41 (by decide) (by omega) (by omega) (fun c_41 => ?_) (fun c_41 => ?_)
      · refine wa_aload_n dX10_share_99 rfl 3 rfl ?_
        refine wa_iload_n dX10_share_100 rfl 1 rfl ?_
        refine wa_i2l dX10_share_101 ?_
        refine wa_eql (y := lN (wCnt (gd C w h set) (4 ^ (w * h)))) (by rw [show t = 4 ^ (w * h) by omega]; exact nI_l (by omega)) ?_
        refine wa_iload_n dX10_share_102 rfl 2 rfl ?_
        refine wa_i2l dX10_share_103 ?_
        refine wa_eql (y := lN (wCnt (fun t => prodB (hadN (C.1 18) (w * h)) t) (4 ^ (w * h)))) (by rw [show t = 4 ^ (w * h) by omega]; exact nI_l (by omega)) ?_
        refine wa_iload_n dX10_share_104 rfl 1 rfl ?_
        refine wa_eqi (y := (nI (wCnt (gd C w h set) (4 ^ (w * h))))) (by rw [show t = 4 ^ (w * h) by omega]) ?_
        refine wa_cVi (x_frac (wCnt (gd C w h set) (4 ^ (w * h))) (wCnt (fun t => prodB (hadN (C.1 18) (w * h)) t) (4 ^ (w * h))) (nI (wCnt (gd C w h set) (4 ^ (w * h)))) (by omega) (by omega) hc0) vX10_fraction iX10_share_105 (rfl) rfl rfl rfl (Nat.le_of_ble_eq_true rfl) ⟨by decide, by decide⟩ ?_
        refine wa_iret dX10_share_108 rfl ?_
        exact ⟨rfl, N2, hF, rfl⟩
      · refine wa_iload_n dX10_share_44 rfl 2 rfl ?_
        refine wa_aload_n dX10_share_45 rfl 3 rfl ?_
        refine wa_getr gX10_share_46 (rfl) rfl ?_
        refine wa_iload dX10_share_49 0 rfl ?_
        refine wa_ialdN (e := t) dX10_share_51 (rfl) (by omega) (by decide) ?_
        refine wa_eqi (y := (tT (C.1 18) (w * h) s t)) (h114 t (by omega)) ?_
        refine wa_if_lt 59 dX10_share_52 (by decide) (fun c_52 => ?_) (fun c_52 => ?_)
        · refine wa_iconst (0) dX10_share_59 (by decide) ?_
          refine wa_iaddN (a := wCnt (fun t => prodB (hadN (C.1 18) (w * h)) t) t) (b := 0) dX10_share_60 ?_
          refine wa_eqi (y := (nI (wCnt (fun t => prodB (hadN (C.1 18) (w * h)) t) (t + 1)))) (congrArg nI (by simp only [wCnt]; first | (rw [if_neg (by rw [(tT_neg hn6).mp c_52]; decide)]; done) | (rw [if_pos hpt]; done))) ?_
          refine wa_istore_n [(2, .int (nI (wCnt (fun t => prodB (hadN (C.1 18) (w * h)) t) (t + 1)))), (4, .int (nI (t))), (3, .int (nI (wCnt (gd C w h set) t))), (0, wm_r G (96)), (1, .int (nI (set)))] dX10_share_61 rfl (by decide) rfl ?_
          have L_62 : WA G t_X10_share (fun v N => v = some (.int (nI (wCnt (gd C w h set) (4 ^ (w * h))))) ∧ ∃ O, FrN M O ∧ N = xFr2 O (lN (wCnt (gd C w h set) (4 ^ (w * h)) / Nat.gcd (wCnt (gd C w h set) (4 ^ (w * h))) (wCnt (fun t => prodB (hadN (C.1 18) (w * h)) t) (4 ^ (w * h))))) (lN (wCnt (fun t => prodB (hadN (C.1 18) (w * h)) t) (4 ^ (w * h)) / Nat.gcd (wCnt (gd C w h set) (4 ^ (w * h))) (wCnt (fun t => prodB (hadN (C.1 18) (w * h)) t) (4 ^ (w * h)))))) 62 [(2, .int (nI (wCnt (fun t => prodB (hadN (C.1 18) (w * h)) t) (t + 1)))), (4, .int (nI (t))), (3, .int (nI (wCnt (gd C w h set) t))), (0, wm_r G (96)), (1, .int (nI (set)))] [] (N2) := by
            refine wa_iload_n dX10_share_62 rfl 2 rfl ?_
            refine wa_aload_n dX10_share_63 rfl 3 rfl ?_
            refine wa_getr gX10_share_64 (rfl) rfl ?_
            refine wa_iload dX10_share_67 1 rfl ?_
            refine wa_ialdN (e := t) dX10_share_69 (rfl) (by omega) (by decide) ?_
            refine wa_eqi (y := (tT (C.1 18) (w * h) s t)) (h114 t (by omega)) ?_
            refine wa_if_lt 90 dX10_share_70 (by decide) (fun c_70 => ?_) (fun c_70 => ?_)
            · refine wa_iconst (0) dX10_share_90 (by decide) ?_
              refine wa_iaddN (a := wCnt (gd C w h set) t) (b := 0) dX10_share_91 ?_
              refine wa_eqi (y := (nI (wCnt (gd C w h set) (t + 1)))) (congrArg nI (by simp only [wCnt]; rw [show gd C w h set t = _ from (by first | (show gd C w h set t = false; unfold gd gS; rw [(tT_neg hn6).mp c_70]; rfl) | (show gd C w h set t = false; unfold gd gS; rw [hpt, decide_eq_false c_83]; rfl) | (show gd C w h set t = true; unfold gd gS; rw [hpt, decide_eq_true c_83]; rfl))]; rfl)) ?_
              refine wa_istore_n [(3, .int (nI (wCnt (gd C w h set) (t + 1)))), (2, .int (nI (wCnt (fun t => prodB (hadN (C.1 18) (w * h)) t) (t + 1)))), (4, .int (nI (t))), (0, wm_r G (96)), (1, .int (nI (set)))] dX10_share_92 rfl (by decide) rfl ?_
              refine wa_iinc ((nI (t + 1))) [(4, .int (nI (t + 1))), (3, .int (nI (wCnt (gd C w h set) (t + 1)))), (2, .int (nI (wCnt (fun t => prodB (hadN (C.1 18) (w * h)) t) (t + 1)))), (0, wm_r G (96)), (1, .int (nI (set)))] dX10_share_93 2 rfl (nI_inc _) (by decide) rfl ?_
              refine wa_goto 35 dX10_share_96 (by decide) ?_
              exact ih_35 (t + 1) (by omega) (by omega)
            · have hpt : prodB (hadN (C.1 18) (w * h)) t = true := by
                cases q : prodB (hadN (C.1 18) (w * h)) t with
                | true => rfl
                | false => exact absurd ((tT_neg (s := s) hn6).mpr q) c_70
              refine wa_aload_n dX10_share_73 rfl 3 rfl ?_
              refine wa_getr gX10_share_74 (rfl) rfl ?_
              refine wa_iload dX10_share_77 1 rfl ?_
              refine wa_ialdN (e := t) dX10_share_79 (rfl) (by omega) (by decide) ?_
              refine wa_eqi (y := (nI (stdN C w h t))) (hst t (by omega) hpt) ?_
              refine wa_iload_n dX10_share_80 rfl 4 rfl ?_
              refine wa_iand dX10_share_81 ?_
              refine wa_eqi (y := (nI (stdN C w h t &&& set))) (nI_and _ _) ?_
              refine wa_iload_n dX10_share_82 rfl 4 rfl ?_
              refine wa_icmp_neN (a := stdN C w h t &&& set) (b := set) 90 dX10_share_83 (by decide) (Nat.lt_of_le_of_lt Nat.and_le_right (by omega)) (by omega) (fun c_83 => ?_) (fun c_83 => ?_)
              · refine wa_iconst (0) dX10_share_90 (by decide) ?_
                refine wa_iaddN (a := wCnt (gd C w h set) t) (b := 0) dX10_share_91 ?_
                refine wa_eqi (y := (nI (wCnt (gd C w h set) (t + 1)))) (congrArg nI (by simp only [wCnt]; rw [show gd C w h set t = _ from (by first | (show gd C w h set t = false; unfold gd gS; rw [(tT_neg hn6).mp c_70]; rfl) | (show gd C w h set t = false; unfold gd gS; rw [hpt, decide_eq_false c_83]; rfl) | (show gd C w h set t = true; unfold gd gS; rw [hpt, decide_eq_true c_83]; rfl))]; rfl)) ?_
                refine wa_istore_n [(3, .int (nI (wCnt (gd C w h set) (t + 1)))), (2, .int (nI (wCnt (fun t => prodB (hadN (C.1 18) (w * h)) t) (t + 1)))), (4, .int (nI (t))), (0, wm_r G (96)), (1, .int (nI (set)))] dX10_share_92 rfl (by decide) rfl ?_
                refine wa_iinc ((nI (t + 1))) [(4, .int (nI (t + 1))), (3, .int (nI (wCnt (gd C w h set) (t + 1)))), (2, .int (nI (wCnt (fun t => prodB (hadN (C.1 18) (w * h)) t) (t + 1)))), (0, wm_r G (96)), (1, .int (nI (set)))] dX10_share_93 2 rfl (nI_inc _) (by decide) rfl ?_
                refine wa_goto 35 dX10_share_96 (by decide) ?_
                exact ih_35 (t + 1) (by omega) (by omega)
              · refine wa_iconst (1) dX10_share_86 (by decide) ?_
                refine wa_goto 91 dX10_share_87 (by decide) ?_
                refine wa_iaddN (a := wCnt (gd C w h set) t) (b := 1) dX10_share_91 ?_
                refine wa_eqi (y := (nI (wCnt (gd C w h set) (t + 1)))) (congrArg nI (by simp only [wCnt]; rw [show gd C w h set t = _ from (by first | (show gd C w h set t = false; unfold gd gS; rw [(tT_neg hn6).mp c_70]; rfl) | (show gd C w h set t = false; unfold gd gS; rw [hpt, decide_eq_false c_83]; rfl) | (show gd C w h set t = true; unfold gd gS; rw [hpt, decide_eq_true c_83]; rfl))]; rfl)) ?_
                refine wa_istore_n [(3, .int (nI (wCnt (gd C w h set) (t + 1)))), (2, .int (nI (wCnt (fun t => prodB (hadN (C.1 18) (w * h)) t) (t + 1)))), (4, .int (nI (t))), (0, wm_r G (96)), (1, .int (nI (set)))] dX10_share_92 rfl (by decide) rfl ?_
                refine wa_iinc ((nI (t + 1))) [(4, .int (nI (t + 1))), (3, .int (nI (wCnt (gd C w h set) (t + 1)))), (2, .int (nI (wCnt (fun t => prodB (hadN (C.1 18) (w * h)) t) (t + 1)))), (0, wm_r G (96)), (1, .int (nI (set)))] dX10_share_93 2 rfl (nI_inc _) (by decide) rfl ?_
                refine wa_goto 35 dX10_share_96 (by decide) ?_
                exact ih_35 (t + 1) (by omega) (by omega)
          exact L_62  
        · have hpt : prodB (hadN (C.1 18) (w * h)) t = true := by
            cases q : prodB (hadN (C.1 18) (w * h)) t with
            | true => rfl
            | false => exact absurd ((tT_neg (s := s) hn6).mpr q) c_52
          refine wa_iconst (1) dX10_share_55 (by decide) ?_
          refine wa_goto 60 dX10_share_56 (by decide) ?_
          refine wa_iaddN (a := wCnt (fun t => prodB (hadN (C.1 18) (w * h)) t) t) (b := 1) dX10_share_60 ?_
          refine wa_eqi (y := (nI (wCnt (fun t => prodB (hadN (C.1 18) (w * h)) t) (t + 1)))) (congrArg nI (by simp only [wCnt]; first | (rw [if_neg (by rw [(tT_neg hn6).mp c_52]; decide)]; done) | (rw [if_pos hpt]; done))) ?_
          refine wa_istore_n [(2, .int (nI (wCnt (fun t => prodB (hadN (C.1 18) (w * h)) t) (t + 1)))), (4, .int (nI (t))), (3, .int (nI (wCnt (gd C w h set) t))), (0, wm_r G (96)), (1, .int (nI (set)))] dX10_share_61 rfl (by decide) rfl ?_
          have L_62 : WA G t_X10_share (fun v N => v = some (.int (nI (wCnt (gd C w h set) (4 ^ (w * h))))) ∧ ∃ O, FrN M O ∧ N = xFr2 O (lN (wCnt (gd C w h set) (4 ^ (w * h)) / Nat.gcd (wCnt (gd C w h set) (4 ^ (w * h))) (wCnt (fun t => prodB (hadN (C.1 18) (w * h)) t) (4 ^ (w * h))))) (lN (wCnt (fun t => prodB (hadN (C.1 18) (w * h)) t) (4 ^ (w * h)) / Nat.gcd (wCnt (gd C w h set) (4 ^ (w * h))) (wCnt (fun t => prodB (hadN (C.1 18) (w * h)) t) (4 ^ (w * h)))))) 62 [(2, .int (nI (wCnt (fun t => prodB (hadN (C.1 18) (w * h)) t) (t + 1)))), (4, .int (nI (t))), (3, .int (nI (wCnt (gd C w h set) t))), (0, wm_r G (96)), (1, .int (nI (set)))] [] (N2) := by
            refine wa_iload_n dX10_share_62 rfl 2 rfl ?_
            refine wa_aload_n dX10_share_63 rfl 3 rfl ?_
            refine wa_getr gX10_share_64 (rfl) rfl ?_
            refine wa_iload dX10_share_67 1 rfl ?_
            refine wa_ialdN (e := t) dX10_share_69 (rfl) (by omega) (by decide) ?_
            refine wa_eqi (y := (tT (C.1 18) (w * h) s t)) (h114 t (by omega)) ?_
            refine wa_if_lt 90 dX10_share_70 (by decide) (fun c_70 => ?_) (fun c_70 => ?_)
            · refine wa_iconst (0) dX10_share_90 (by decide) ?_
              refine wa_iaddN (a := wCnt (gd C w h set) t) (b := 0) dX10_share_91 ?_
              refine wa_eqi (y := (nI (wCnt (gd C w h set) (t + 1)))) (congrArg nI (by simp only [wCnt]; rw [show gd C w h set t = _ from (by first | (show gd C w h set t = false; unfold gd gS; rw [(tT_neg hn6).mp c_70]; rfl) | (show gd C w h set t = false; unfold gd gS; rw [hpt, decide_eq_false c_83]; rfl) | (show gd C w h set t = true; unfold gd gS; rw [hpt, decide_eq_true c_83]; rfl))]; rfl)) ?_
              refine wa_istore_n [(3, .int (nI (wCnt (gd C w h set) (t + 1)))), (2, .int (nI (wCnt (fun t => prodB (hadN (C.1 18) (w * h)) t) (t + 1)))), (4, .int (nI (t))), (0, wm_r G (96)), (1, .int (nI (set)))] dX10_share_92 rfl (by decide) rfl ?_
              refine wa_iinc ((nI (t + 1))) [(4, .int (nI (t + 1))), (3, .int (nI (wCnt (gd C w h set) (t + 1)))), (2, .int (nI (wCnt (fun t => prodB (hadN (C.1 18) (w * h)) t) (t + 1)))), (0, wm_r G (96)), (1, .int (nI (set)))] dX10_share_93 2 rfl (nI_inc _) (by decide) rfl ?_
              refine wa_goto 35 dX10_share_96 (by decide) ?_
              exact ih_35 (t + 1) (by omega) (by omega)
            · have hpt : prodB (hadN (C.1 18) (w * h)) t = true := by
                cases q : prodB (hadN (C.1 18) (w * h)) t with
                | true => rfl
                | false => exact absurd ((tT_neg (s := s) hn6).mpr q) c_70
              refine wa_aload_n dX10_share_73 rfl 3 rfl ?_
              refine wa_getr gX10_share_74 (rfl) rfl ?_
              refine wa_iload dX10_share_77 1 rfl ?_
              refine wa_ialdN (e := t) dX10_share_79 (rfl) (by omega) (by decide) ?_
              refine wa_eqi (y := (nI (stdN C w h t))) (hst t (by omega) hpt) ?_
              refine wa_iload_n dX10_share_80 rfl 4 rfl ?_
              refine wa_iand dX10_share_81 ?_
              refine wa_eqi (y := (nI (stdN C w h t &&& set))) (nI_and _ _) ?_
              refine wa_iload_n dX10_share_82 rfl 4 rfl ?_
              refine wa_icmp_neN (a := stdN C w h t &&& set) (b := set) 90 dX10_share_83 (by decide) (Nat.lt_of_le_of_lt Nat.and_le_right (by omega)) (by omega) (fun c_83 => ?_) (fun c_83 => ?_)
              · refine wa_iconst (0) dX10_share_90 (by decide) ?_
                refine wa_iaddN (a := wCnt (gd C w h set) t) (b := 0) dX10_share_91 ?_
                refine wa_eqi (y := (nI (wCnt (gd C w h set) (t + 1)))) (congrArg nI (by simp only [wCnt]; rw [show gd C w h set t = _ from (by first | (show gd C w h set t = false; unfold gd gS; rw [(tT_neg hn6).mp c_70]; rfl) | (show gd C w h set t = false; unfold gd gS; rw [hpt, decide_eq_false c_83]; rfl) | (show gd C w h set t = true; unfold gd gS; rw [hpt, decide_eq_true c_83]; rfl))]; rfl)) ?_
                refine wa_istore_n [(3, .int (nI (wCnt (gd C w h set) (t + 1)))), (2, .int (nI (wCnt (fun t => prodB (hadN (C.1 18) (w * h)) t) (t + 1)))), (4, .int (nI (t))), (0, wm_r G (96)), (1, .int (nI (set)))] dX10_share_92 rfl (by decide) rfl ?_
                refine wa_iinc ((nI (t + 1))) [(4, .int (nI (t + 1))), (3, .int (nI (wCnt (gd C w h set) (t + 1)))), (2, .int (nI (wCnt (fun t => prodB (hadN (C.1 18) (w * h)) t) (t + 1)))), (0, wm_r G (96)), (1, .int (nI (set)))] dX10_share_93 2 rfl (nI_inc _) (by decide) rfl ?_
                refine wa_goto 35 dX10_share_96 (by decide) ?_
                exact ih_35 (t + 1) (by omega) (by omega)
              · refine wa_iconst (1) dX10_share_86 (by decide) ?_
                refine wa_goto 91 dX10_share_87 (by decide) ?_
                refine wa_iaddN (a := wCnt (gd C w h set) t) (b := 1) dX10_share_91 ?_
                refine wa_eqi (y := (nI (wCnt (gd C w h set) (t + 1)))) (congrArg nI (by simp only [wCnt]; rw [show gd C w h set t = _ from (by first | (show gd C w h set t = false; unfold gd gS; rw [(tT_neg hn6).mp c_70]; rfl) | (show gd C w h set t = false; unfold gd gS; rw [hpt, decide_eq_false c_83]; rfl) | (show gd C w h set t = true; unfold gd gS; rw [hpt, decide_eq_true c_83]; rfl))]; rfl)) ?_
                refine wa_istore_n [(3, .int (nI (wCnt (gd C w h set) (t + 1)))), (2, .int (nI (wCnt (fun t => prodB (hadN (C.1 18) (w * h)) t) (t + 1)))), (4, .int (nI (t))), (0, wm_r G (96)), (1, .int (nI (set)))] dX10_share_92 rfl (by decide) rfl ?_
                refine wa_iinc ((nI (t + 1))) [(4, .int (nI (t + 1))), (3, .int (nI (wCnt (gd C w h set) (t + 1)))), (2, .int (nI (wCnt (fun t => prodB (hadN (C.1 18) (w * h)) t) (t + 1)))), (0, wm_r G (96)), (1, .int (nI (set)))] dX10_share_93 2 rfl (nI_inc _) (by decide) rfl ?_
                refine wa_goto 35 dX10_share_96 (by decide) ?_
                exact ih_35 (t + 1) (by omega) (by omega)
          exact L_62  
  exact L_35 _ 0 (Nat.lt_succ_self _) (Nat.zero_le _)
