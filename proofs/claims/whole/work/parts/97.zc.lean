theorem x_fault_bad {G : wm_G} {M : wm_M} (r : Int32) (hr : wIn r 4 = false) : MD G t_X10_fault [wm_r G (96), .int (r)] (M) (some (.int (-1))) (M) := by
  refine wm_met (by decide) (Nat.le_of_ble_eq_true rfl) ?_
  show WA G t_X10_fault (fun v_ N_ => v_ = some (.int (-1)) ∧ N_ = M) 0 [(0, wm_r G (96)), (1, .int (r))] [] (M)
  refine wa_iload_n dX10_fault_0 rfl 1 rfl ?_
  refine wa_cSi (x_isText r) vX10_isText iX10_fault_1 rfl rfl (Nat.le_of_ble_eq_true rfl) ⟨by decide, by decide⟩ ?_
  refine wa_eqi (y := (0)) (by rw [hr]; rfl) ?_
  refine wa_if_ne 9 dX10_fault_4 (by decide) (fun c_4 => absurd c_4 (by decide)) (fun c_4 => ?_)
  refine wa_iconst (-1) dX10_fault_7 (by decide) ?_
  exact wa_iret dX10_fault_8 rfl ⟨congrArg (fun z => some (Value.int z)) (rfl), rfl⟩

theorem x_fault_no {G : wm_G} {M : wm_M} (r : Nat) (hr : r < 4) (hz : M.1 101 r = -1) : MD G t_X10_fault [wm_r G (96), .int (nI (r))] (M) (some (.int (-3))) (xNote M 1) := by
  refine wm_met (by decide) (Nat.le_of_ble_eq_true rfl) ?_
  show WA G t_X10_fault (fun v_ N_ => v_ = some (.int (-3)) ∧ N_ = xNote M 1) 0 [(0, wm_r G (96)), (1, .int (nI (r)))] [] (M)
  refine wa_iload_n dX10_fault_0 rfl 1 rfl ?_
  refine wa_cSi (x_isText (nI r)) vX10_isText iX10_fault_1 rfl rfl (Nat.le_of_ble_eq_true rfl) ⟨by decide, by decide⟩ ?_
  refine wa_eqi (y := (1)) (by rw [wIn_nI (by omega), decide_eq_true (by omega)]; rfl) ?_
  refine wa_if_ne 9 dX10_fault_4 (by decide) (fun c_4 => ?_) (fun c_4 => absurd c_4 (by decide))
  refine wa_aload_n dX10_fault_9 rfl 0 rfl ?_
  refine wa_getr gX10_fault_10 (rfl) rfl ?_
  refine wa_iload_n dX10_fault_13 rfl 1 rfl ?_
  refine wa_ialdN (e := r) dX10_fault_14 (rfl) (by omega) (by decide) ?_
  refine wa_eqi (y := (-1)) (hz) ?_
  refine wa_if_ge 26 dX10_fault_15 (by decide) (fun c_15 => absurd c_15 (by decide)) (fun c_15 => ?_)
  refine wa_aload_n dX10_fault_18 rfl 0 rfl ?_
  refine wa_iconst (1) dX10_fault_19 (by decide) ?_
  refine wa_cVi (x_meets 1 (by decide) (by decide)) vX10_meets iX10_fault_20 (rfl) rfl rfl rfl (Nat.le_of_ble_eq_true rfl) ⟨by decide, by decide⟩ ?_
  refine wa_goto 31 dX10_fault_23 (by decide) ?_
  exact wa_iret dX10_fault_31 rfl ⟨congrArg (fun z => some (Value.int z)) (rfl), rfl⟩

theorem x_fault_ok {G : wm_G} {M : wm_M} (r sz : Nat) (ch : Nat → Int32) (hR : RX M r sz ch) : MA G t_X10_fault [wm_r G (96), .int (nI (r))] (M) (fun v N => v = some (.int (tFault ch sz)) ∧ FrR M N) := by
  obtain ⟨hr, h101, hsz, hch, hz0⟩ := id hR
  refine wm_met (by decide) (Nat.le_of_ble_eq_true rfl) ?_
  show WA G t_X10_fault (fun v N => v = some (.int (tFault ch sz)) ∧ FrR M N) 0 [(0, wm_r G (96)), (1, .int (nI (r)))] [] (M)
  refine wa_iload_n dX10_fault_0 rfl 1 rfl ?_
  refine wa_cSi (x_isText (nI r)) vX10_isText iX10_fault_1 rfl rfl (Nat.le_of_ble_eq_true rfl) ⟨by decide, by decide⟩ ?_
  refine wa_eqi (y := (1)) (by rw [wIn_nI (by omega), decide_eq_true (by omega)]; rfl) ?_
  refine wa_if_ne 9 dX10_fault_4 (by decide) (fun c_4 => ?_) (fun c_4 => absurd c_4 (by decide))
  refine wa_aload_n dX10_fault_9 rfl 0 rfl ?_
  refine wa_getr gX10_fault_10 (rfl) rfl ?_
  refine wa_iload_n dX10_fault_13 rfl 1 rfl ?_
  refine wa_ialdN (e := r) dX10_fault_14 (rfl) (by omega) (by decide) ?_
  refine wa_eqi (y := (nI (sz))) (h101) ?_
  refine wa_if_geN (a := sz) 26 dX10_fault_15 (by decide) (by omega) (fun c_15 => ?_) (fun c_15 => absurd c_15 (by omega))
  refine wa_aload_n dX10_fault_26 rfl 0 rfl ?_
  refine wa_iload_n dX10_fault_27 rfl 1 rfl ?_
  refine wa_callV (x_faultOf r sz ch hR) vX10_faultOf iX10_fault_28 (rfl) rfl rfl rfl (Nat.le_of_ble_eq_true rfl) ⟨by decide, by decide⟩ (fun v_ N h_ => ?_)
  obtain ⟨rfl, hF, -⟩ := h_
  show WA G t_X10_fault (fun v N => v = some (.int (tFault ch sz)) ∧ FrR M N) 31 [(0, wm_r G (96)), (1, .int (nI (r)))] [.int (tFault ch sz)] (N)
  refine wa_iret dX10_fault_31 rfl ?_
  exact ⟨rfl, hF⟩

theorem x_town_bad {G : wm_G} {M : wm_M} (r : Int32) (hr : wIn r 4 = false) : MD G t_X10_town [wm_r G (96), .int (r)] (M) (some (.int (-1))) (M) := by
  refine wm_met (by decide) (Nat.le_of_ble_eq_true rfl) ?_
  show WA G t_X10_town (fun v_ N_ => v_ = some (.int (-1)) ∧ N_ = M) 0 [(0, wm_r G (96)), (1, .int (r))] [] (M)
  refine wa_iload_n dX10_town_0 rfl 1 rfl ?_
  refine wa_cSi (x_isText r) vX10_isText iX10_town_1 rfl rfl (Nat.le_of_ble_eq_true rfl) ⟨by decide, by decide⟩ ?_
  refine wa_eqi (y := (0)) (by rw [hr]; rfl) ?_
  refine wa_if_ne 9 dX10_town_4 (by decide) (fun c_4 => absurd c_4 (by decide)) (fun c_4 => ?_)
  refine wa_iconst (-1) dX10_town_7 (by decide) ?_
  exact wa_iret dX10_town_8 rfl ⟨congrArg (fun z => some (Value.int z)) (rfl), rfl⟩

theorem x_town_no {G : wm_G} {M : wm_M} (r : Nat) (hr : r < 4) (hz : M.1 101 r = -1) : MD G t_X10_town [wm_r G (96), .int (nI (r))] (M) (some (.int (-3))) (xNote M 1) := by
  refine wm_met (by decide) (Nat.le_of_ble_eq_true rfl) ?_
  show WA G t_X10_town (fun v_ N_ => v_ = some (.int (-3)) ∧ N_ = xNote M 1) 0 [(0, wm_r G (96)), (1, .int (nI (r)))] [] (M)
  refine wa_iload_n dX10_town_0 rfl 1 rfl ?_
  refine wa_cSi (x_isText (nI r)) vX10_isText iX10_town_1 rfl rfl (Nat.le_of_ble_eq_true rfl) ⟨by decide, by decide⟩ ?_
  refine wa_eqi (y := (1)) (by rw [wIn_nI (by omega), decide_eq_true (by omega)]; rfl) ?_
  refine wa_if_ne 9 dX10_town_4 (by decide) (fun c_4 => ?_) (fun c_4 => absurd c_4 (by decide))
  refine wa_aload_n dX10_town_9 rfl 0 rfl ?_
  refine wa_getr gX10_town_10 (rfl) rfl ?_
  refine wa_iload_n dX10_town_13 rfl 1 rfl ?_
  refine wa_ialdN (e := r) dX10_town_14 (rfl) (by omega) (by decide) ?_
  refine wa_eqi (y := (-1)) (hz) ?_
  refine wa_if_ge 24 dX10_town_15 (by decide) (fun c_15 => absurd c_15 (by decide)) (fun c_15 => ?_)
  refine wa_aload_n dX10_town_18 rfl 0 rfl ?_
  refine wa_iconst (1) dX10_town_19 (by decide) ?_
  refine wa_cVi (x_meets 1 (by decide) (by decide)) vX10_meets iX10_town_20 (rfl) rfl rfl rfl (Nat.le_of_ble_eq_true rfl) ⟨by decide, by decide⟩ ?_
  exact wa_iret dX10_town_23 rfl ⟨congrArg (fun z => some (Value.int z)) (rfl), rfl⟩

theorem x_town_f {G : wm_G} {M : wm_M} (r sz : Nat) (ch : Nat → Int32) (hR : RX M r sz ch) (hf : ¬ tFault ch sz = -9) : MA G t_X10_town [wm_r G (96), .int (nI (r))] (M) (fun v N => v = some (.int (-4)) ∧ FrR M N) := by
  obtain ⟨hr, h101, hsz, hch, hz0⟩ := id hR
  refine wm_met (by decide) (Nat.le_of_ble_eq_true rfl) ?_
  show WA G t_X10_town (fun v N => v = some (.int (-4)) ∧ FrR M N) 0 [(0, wm_r G (96)), (1, .int (nI (r)))] [] (M)
  refine wa_iload_n dX10_town_0 rfl 1 rfl ?_
  refine wa_cSi (x_isText (nI r)) vX10_isText iX10_town_1 rfl rfl (Nat.le_of_ble_eq_true rfl) ⟨by decide, by decide⟩ ?_
  refine wa_eqi (y := (1)) (by rw [wIn_nI (by omega), decide_eq_true (by omega)]; rfl) ?_
  refine wa_if_ne 9 dX10_town_4 (by decide) (fun c_4 => ?_) (fun c_4 => absurd c_4 (by decide))
  refine wa_aload_n dX10_town_9 rfl 0 rfl ?_
  refine wa_getr gX10_town_10 (rfl) rfl ?_
  refine wa_iload_n dX10_town_13 rfl 1 rfl ?_
  refine wa_ialdN (e := r) dX10_town_14 (rfl) (by omega) (by decide) ?_
  refine wa_eqi (y := (nI (sz))) (h101) ?_
  refine wa_if_geN (a := sz) 24 dX10_town_15 (by decide) (by omega) (fun c_15 => ?_) (fun c_15 => absurd c_15 (by omega))
  refine wa_aload_n dX10_town_24 rfl 0 rfl ?_
  refine wa_iload_n dX10_town_25 rfl 1 rfl ?_
  refine wa_callV (x_faultOf r sz ch hR) vX10_faultOf iX10_town_26 (rfl) rfl rfl rfl (Nat.le_of_ble_eq_true rfl) ⟨by decide, by decide⟩ (fun v_ N h_ => ?_)
  obtain ⟨rfl, hF, -⟩ := h_
  show WA G t_X10_town (fun v N => v = some (.int (-4)) ∧ FrR M N) 29 [(0, wm_r G (96)), (1, .int (nI (r)))] [.int (tFault ch sz)] (N)
  refine wa_bipush (-9) dX10_town_29 (by decide) ?_
  refine wa_icmp_eq 37 dX10_town_31 (by decide) (fun c_31 => absurd c_31 hf) (fun c_31 => ?_)
  refine wa_bipush (-4) dX10_town_34 (by decide) ?_
  refine wa_iret dX10_town_36 rfl ?_
  exact ⟨rfl, hF⟩

set_option maxHeartbeats 4000000 in
theorem x_town_ok {G : wm_G} {M : wm_M} (r sz : Nat) (ch : Nat → Int32) (hR : RX M r sz ch) (hf : tFault ch sz = -9) : MA G t_X10_town [wm_r G (96), .int (nI (r))] (M) (TwQ M ch sz) := by
  obtain ⟨hr, h101, hsz, hch, hz0⟩ := id hR
  refine wm_met (by decide) (Nat.le_of_ble_eq_true rfl) ?_
  show WA G t_X10_town (TwQ M ch sz) 0 [(0, wm_r G (96)), (1, .int (nI (r)))] [] (M)
  refine wa_iload_n dX10_town_0 rfl 1 rfl ?_
  refine wa_cSi (x_isText (nI r)) vX10_isText iX10_town_1 rfl rfl (Nat.le_of_ble_eq_true rfl) ⟨by decide, by decide⟩ ?_
  refine wa_eqi (y := (1)) (by rw [wIn_nI (by omega), decide_eq_true (by omega)]; rfl) ?_
  refine wa_if_ne 9 dX10_town_4 (by decide) (fun c_4 => ?_) (fun c_4 => absurd c_4 (by decide))
  refine wa_aload_n dX10_town_9 rfl 0 rfl ?_
  refine wa_getr gX10_town_10 (rfl) rfl ?_
  refine wa_iload_n dX10_town_13 rfl 1 rfl ?_
  refine wa_ialdN (e := r) dX10_town_14 (rfl) (by omega) (by decide) ?_
  refine wa_eqi (y := (nI (sz))) (h101) ?_
  refine wa_if_geN (a := sz) 24 dX10_town_15 (by decide) (by omega) (fun c_15 => ?_) (fun c_15 => absurd c_15 (by omega))
  refine wa_aload_n dX10_town_24 rfl 0 rfl ?_
  refine wa_iload_n dX10_town_25 rfl 1 rfl ?_
  refine wa_callV (x_faultOf r sz ch hR) vX10_faultOf iX10_town_26 (rfl) rfl rfl rfl (Nat.le_of_ble_eq_true rfl) ⟨by decide, by decide⟩ (fun v_ N1 h_ => ?_)
  obtain ⟨rfl, hF1, hD⟩ := h_
  show WA G t_X10_town (TwQ M ch sz) 29 [(0, wm_r G (96)), (1, .int (nI (r)))] [.int (tFault ch sz)] (N1)
  refine wa_bipush (-9) dX10_town_29 (by decide) ?_
  refine wa_icmp_eq 37 dX10_town_31 (by decide) (fun c_31 => ?_) (fun c_31 => absurd hf c_31)
  obtain ⟨hg, e21, e22, e23, hRS⟩ := hD hf
  have hgb := g_bd hg
  have hgg : gW ch sz * gH ch sz ≤ 6 := Nat.le_trans (Nat.mul_le_mul hgb.2.1 hgb.2.2.2) (by decide)
  refine wa_aload_n dX10_town_37 rfl 0 rfl ?_
  refine wa_aload_n dX10_town_38 rfl 0 rfl ?_
  refine wa_geti gX10_town_39 (rfl) rfl ?_
  refine wa_eqi (y := (nI (gW ch sz))) (e21) ?_
  refine wa_puti gX10_town_42 (rfl) rfl ?_
  refine wa_aload_n dX10_town_45 rfl 0 rfl ?_
  refine wa_aload_n dX10_town_46 rfl 0 rfl ?_
  refine wa_geti gX10_town_47 (rfl) rfl ?_
  refine wa_eqi (y := (nI (gH ch sz))) (by rw [wI_ne (by decide)]; exact e22) ?_
  refine wa_puti gX10_town_50 (rfl) rfl ?_
  refine wa_aload_n dX10_town_53 rfl 0 rfl ?_
  refine wa_aload_n dX10_town_54 rfl 0 rfl ?_
  refine wa_geti gX10_town_55 (rfl) rfl ?_
  refine wa_eqi (y := (nI (gW ch sz * gH ch sz))) (by rw [wI_ne (by decide), wI_ne (by decide)]; exact e23) ?_
  refine wa_puti gX10_town_58 (rfl) rfl ?_
  refine wa_top (fun N2 e_N2 => ?_)
  have hT2 : TwF N1 N2 ch sz := by rw [e_N2]; exact ⟨fun c a _ => by rw [wI_c a, wI_c a, wI_c a], fun j a b d => by rw [wI_ne (fun e => d e.2), wI_ne (fun e => b e.2), wI_ne (fun e => a e.2)], rfl, by rw [wI_ne (by decide), wI_ne (by decide), wI_at], by rw [wI_ne (by decide), wI_at], wI_at⟩
  refine wa_iconst (0) dX10_town_61 (by decide) ?_
  refine wa_istore_n [(2, .int (0)), (0, wm_r G (96)), (1, .int (nI (r)))] dX10_town_62 rfl (by decide) rfl ?_
  have L_63 : ∀ (n_ : Nat) (k : Nat) (N : wm_M), (gW ch sz * gH ch sz - k) < n_ → (k ≤ gW ch sz * gH ch sz) → (TwF N1 N ch sz) → (∀ j, j < k → TwD N1 N j) → WA G t_X10_town (TwQ M ch sz) 63 [(2, .int (nI (k))), (0, wm_r G (96)), (1, .int (nI (r)))] [] (N) := by
    intro n_
    induction n_ with
    | zero => intro k N h_; exact absurd h_ (Nat.not_lt_zero _)
    | succ n_ ih_63 =>
      intro k N h_ hk hT hd
      refine wa_iload_n dX10_town_63 rfl 0 rfl ?_
      refine wa_aload_n dX10_town_64 rfl 1 rfl ?_
      refine wa_geti gX10_town_65 (rfl) rfl ?_
      refine wa_eqi (y := (nI (gW ch sz * gH ch sz))) (hT.2.2.2.2.2) ?_
      refine wa_icmp_geN (a := k) (b := gW ch sz * gH ch sz) 170 dX10_town_68 (by decide) (by omega) (by omega) (fun c_68 => ?_) (fun c_68 => ?_)
      · refine wa_aload_n dX10_town_170 rfl 1 rfl ?_
        refine wa_iconst (0) dX10_town_171 (by decide) ?_
        refine wa_puti gX10_town_172 (rfl) rfl ?_
        refine wa_aload_n dX10_town_175 rfl 1 rfl ?_
        refine wa_iconst (0) dX10_town_176 (by decide) ?_
        refine wa_puti gX10_town_177 (rfl) rfl ?_
        refine wa_top (fun N7 e_N7 => ?_)
        have hs7 : N7.1 96 18 = 0 ∧ N7.1 96 36 = 0 ∧ N7.1 96 12 = nI (gW ch sz * gH ch sz) := by rw [e_N7]; exact ⟨by rw [wI_ne (by decide), wI_at], wI_at, by rw [wI_ne (by decide), wI_ne (by decide)]; exact hT.2.2.2.2.2⟩
        refine wa_iconst (0) dX10_town_180 (by decide) ?_
        refine wa_istore_n [(2, .int (0)), (0, wm_r G (96)), (1, .int (nI (r)))] dX10_town_181 rfl (by decide) rfl ?_
        have L_182 : ∀ (n_ : Nat) (q : Nat), (3 - q) < n_ → (q ≤ 3) → WA G t_X10_town (TwQ M ch sz) 182 [(2, .int (nI (q))), (0, wm_r G (96))] [] (wIa N7 112 (wFill (N7.1 112) 0 q (-1))) := by
          intro n_
          induction n_ with
          | zero => intro q h_; exact absurd h_ (Nat.not_lt_zero _)
          | succ n_ ih_182 =>
            intro q h_ hq
            refine wa_iload_n dX10_town_182 rfl 0 rfl ?_
            refine wa_iconst (3) dX10_town_183 (by decide) ?_
            refine wa_icmp_geN (a := q) (b := 3) 200 dX10_town_184 (by decide) (by omega) (by omega) (fun c_184 => ?_) (fun c_184 => ?_)
            · refine wa_aload_n dX10_town_200 rfl 1 rfl ?_
              refine wa_geti gX10_town_201 (rfl) rfl ?_
              refine wa_eqi (y := (nI (gW ch sz * gH ch sz))) (by rw [wIa_n (by decide)]; exact hs7.2.2) ?_
              refine wa_iret dX10_town_204 rfl ?_
              have e96 : ∀ j, (wIa N7 112 (wFill (N7.1 112) 0 q (-1))).1 96 j = N7.1 96 j := fun j => by rw [wIa_n (by decide)]
              have ec : ∀ c, c ≠ 96 → c ≠ 112 → (wIa N7 112 (wFill (N7.1 112) 0 q (-1))).1 c = N.1 c := fun c h1 h2 => by rw [wIa_n h2, e_N7, wI_c h1, wI_c h1]
              have ej : ∀ j, j ≠ 18 → j ≠ 36 → N7.1 96 j = N.1 96 j := fun j h1 h2 => by rw [e_N7, wI_ne (fun e => h2 e.2), wI_ne (fun e => h1 e.2)]
              refine ⟨rfl, fun c h1 h2 h3 => ?_, fun j h1 h2 h3 h4 h5 h6 => ?_, ?_, ?_, ?_, ?_, ?_, ?_, fun i hi => ?_, fun i hi => ?_⟩
              · rw [ec c h1 h3, hT.1 c h1 (by omega), hF1.1 c h1 (by omega)]
              · rw [e96, ej j h4 h5, hT.2.1 j h1 h2 h3, hF1.2.1 j h6]
              · rw [wIa_2, e_N7]; exact hT.2.2.1.trans hF1.2.2
              · rw [e96, ej 10 (by decide) (by decide)]; exact hT.2.2.2.1
              · rw [e96, ej 11 (by decide) (by decide)]; exact hT.2.2.2.2.1
              · rw [e96]; exact hs7.2.2
              · rw [e96]; exact hs7.1
              · rw [e96]; exact hs7.2.1
              · rw [wIa_s, wFill_in (Nat.zero_le _) (by omega)]
              · obtain ⟨d1, d2, d3, d4, d5⟩ := hd i (by omega)
                obtain ⟨r1, r2, r3, r4⟩ := hRS i hi
                exact ⟨by rw [ec 103 (by decide) (by decide), d1]; exact r1, fun i2 h2 => by rw [ec 104 (by decide) (by decide), d2 i2 h2]; exact r2 i2 h2, by rw [ec 105 (by decide) (by decide), d3]; exact r3, fun h => by rw [ec 106 (by decide) (by decide), d4]; exact r4 h, by rw [ec 107 (by decide) (by decide), d5]⟩
            · refine wa_aload_n dX10_town_187 rfl 1 rfl ?_
              refine wa_getr gX10_town_188 (rfl) rfl ?_
              refine wa_iload_n dX10_town_191 rfl 0 rfl ?_
              refine wa_iconst (-1) dX10_town_192 (by decide) ?_
              refine wa_iastN (e := q) dX10_town_193 (rfl) (by omega) (by decide) ?_
              refine wa_eqm (M' := wIa N7 112 (wFill (N7.1 112) 0 (q + 1) (-1))) (wI_wIa.trans (congrArg (wIa N7 112) (wFill_s (Nat.zero_le _)))) ?_
              refine wa_iinc ((nI (q + 1))) [(2, .int (nI (q + 1))), (0, wm_r G (96))] dX10_town_194 0 rfl (nI_inc _) (by decide) rfl ?_
              refine wa_goto 182 dX10_town_197 (by decide) ?_
              exact ih_182 (q + 1) (by omega) (by omega)
        refine wa_sub [0, 1] rfl ?_
        refine wa_eqm (M' := wIa N7 112 (wFill (N7.1 112) 0 0 (-1))) (fill_start rfl) ?_
        exact L_182 _ 0 (Nat.lt_succ_self _) (Nat.zero_le _)
      · refine wa_aload_n dX10_town_71 rfl 1 rfl ?_
        refine wa_getr gX10_town_72 (rfl) rfl ?_
        refine wa_iload_n dX10_town_75 rfl 0 rfl ?_
        refine wa_aload_n dX10_town_76 rfl 1 rfl ?_
        refine wa_getr gX10_town_77 (rfl) rfl ?_
        refine wa_bipush (7) dX10_town_80 (by decide) ?_
        refine wa_iload_n dX10_town_82 rfl 0 rfl ?_
        refine wa_imulN (a := 7) (b := k) dX10_town_83 ?_
        refine wa_ialdN (e := 7 * k) dX10_town_84 (rfl) (by omega) (by decide) ?_
        refine wa_eqi (y := (N1.1 108 (7 * k))) (by rw [hT.1 108 (by decide) (by decide)]) ?_
        refine wa_iastN (e := k) dX10_town_85 (rfl) (by omega) (by decide) ?_
        refine wa_top (fun N3 e_N3 => ?_)
        have hT3 : TwF N1 N3 ch sz := by rw [e_N3]; exact hT.I (by decide)
        have hd3 : ∀ j, j < k → TwD N1 N3 j := fun j hj => by rw [e_N3]; exact (hd j hj).keep (fun i hi => by omega) (by omega)
        have h3k : N3.1 103 k = N1.1 108 (7 * k) := by rw [e_N3, wI_at]
        refine wa_iconst (0) dX10_town_86 (by decide) ?_
        refine wa_istore_n [(3, .int (0)), (2, .int (nI (k))), (0, wm_r G (96)), (1, .int (nI (r)))] dX10_town_87 rfl (by decide) rfl ?_
        have L_88 : ∀ (n_ : Nat) (i : Nat) (N : wm_M), (4 - i) < n_ → (i ≤ 4) → (TwF N1 N ch sz) → (∀ j, j < k → TwD N1 N j) → (N.1 103 k = N1.1 108 (7 * k)) → (∀ i2, i2 < i → N.1 104 (4 * k + i2) = N1.1 108 (7 * k + 1 + i2)) → WA G t_X10_town (TwQ M ch sz) 88 [(3, .int (nI (i))), (2, .int (nI (k))), (0, wm_r G (96)), (1, .int (nI (r)))] [] (N) := by
          intro n_
          induction n_ with
          | zero => intro i N h_; exact absurd h_ (Nat.not_lt_zero _)
          | succ n_ ih_88 =>
            intro i N h_ hi hT hd hk3 hkw
            refine wa_iload_n dX10_town_88 rfl 0 rfl ?_
            refine wa_iconst (4) dX10_town_89 (by decide) ?_
            refine wa_icmp_geN (a := i) (b := 4) 122 dX10_town_90 (by decide) (by omega) (by omega) (fun c_90 => ?_) (fun c_90 => ?_)
            · refine wa_aload_n dX10_town_122 rfl 2 rfl ?_
              refine wa_getr gX10_town_123 (rfl) rfl ?_
              refine wa_iload_n dX10_town_126 rfl 1 rfl ?_
              refine wa_aload_n dX10_town_127 rfl 2 rfl ?_
              refine wa_getr gX10_town_128 (rfl) rfl ?_
              refine wa_bipush (7) dX10_town_131 (by decide) ?_
              refine wa_iload_n dX10_town_133 rfl 1 rfl ?_
              refine wa_imulN (a := 7) (b := k) dX10_town_134 ?_
              refine wa_iconst (5) dX10_town_135 (by decide) ?_
              refine wa_iaddN (a := 7 * k) (b := 5) dX10_town_136 ?_
              refine wa_ialdN (e := 7 * k + 5) dX10_town_137 (rfl) (by omega) (by decide) ?_
              refine wa_eqi (y := (N1.1 108 (7 * k + 5))) (by rw [hT.1 108 (by decide) (by decide)]) ?_
              refine wa_iastN (e := k) dX10_town_138 (rfl) (by omega) (by decide) ?_
              refine wa_aload_n dX10_town_139 rfl 2 rfl ?_
              refine wa_getr gX10_town_140 (rfl) rfl ?_
              refine wa_iload_n dX10_town_143 rfl 1 rfl ?_
              refine wa_aload_n dX10_town_144 rfl 2 rfl ?_
              refine wa_getr gX10_town_145 (rfl) rfl ?_
              refine wa_bipush (7) dX10_town_148 (by decide) ?_
              refine wa_iload_n dX10_town_150 rfl 1 rfl ?_
              refine wa_imulN (a := 7) (b := k) dX10_town_151 ?_
              refine wa_bipush (6) dX10_town_152 (by decide) ?_
              refine wa_iaddN (a := 7 * k) (b := 6) dX10_town_154 ?_
              refine wa_ialdN (e := 7 * k + 6) dX10_town_155 (rfl) (by omega) (by decide) ?_
              refine wa_eqi (y := (N1.1 108 (7 * k + 6))) (by rw [wI_c (by decide), hT.1 108 (by decide) (by decide)]) ?_
              refine wa_iastN (e := k) dX10_town_156 (rfl) (by omega) (by decide) ?_
              refine wa_aload_n dX10_town_157 rfl 2 rfl ?_
              refine wa_getr gX10_town_158 (rfl) rfl ?_
              refine wa_iload_n dX10_town_161 rfl 1 rfl ?_
              refine wa_iconst (0) dX10_town_162 (by decide) ?_
              refine wa_iastN (e := k) dX10_town_163 (rfl) (by omega) (by decide) ?_
              refine wa_top (fun N6 e_N6 => ?_)
              have hT6 : TwF N1 N6 ch sz := by rw [e_N6]; exact ((hT.I (by decide)).I (by decide)).I (by decide)
              have hd6 : ∀ j, j < k + 1 → TwD N1 N6 j := fun j hj => by
                rw [e_N6]
                by_cases q : j = k
                · subst q; exact ⟨by rw [wI_c (by decide), wI_c (by decide), wI_c (by decide)]; exact hk3, fun i2 h2 => by rw [wI_c (by decide), wI_c (by decide), wI_c (by decide)]; exact hkw i2 (by omega), by rw [wI_c (by decide), wI_c (by decide), wI_at], by rw [wI_c (by decide), wI_at], by rw [wI_at]⟩
                · exact (((hd j (by omega)).keep (fun i2 h2 => by omega) (by omega)).keep (fun i2 h2 => by omega) (by omega)).keep (fun i2 h2 => by omega) (by omega)
              refine wa_iinc ((nI (k + 1))) [(2, .int (nI (k + 1))), (3, .int (nI (i))), (0, wm_r G (96)), (1, .int (nI (r)))] dX10_town_164 1 rfl (nI_inc _) (by decide) rfl ?_
              refine wa_goto 63 dX10_town_167 (by decide) ?_
              refine wa_sub [0, 2, 3] rfl ?_
              exact ih_63 (k + 1) _ (by omega) (by omega) hT6 hd6
            · refine wa_aload_n dX10_town_93 rfl 2 rfl ?_
              refine wa_getr gX10_town_94 (rfl) rfl ?_
              refine wa_iconst (4) dX10_town_97 (by decide) ?_
              refine wa_iload_n dX10_town_98 rfl 1 rfl ?_
              refine wa_imulN (a := 4) (b := k) dX10_town_99 ?_
              refine wa_iload_n dX10_town_100 rfl 0 rfl ?_
              refine wa_iaddN (a := 4 * k) (b := i) dX10_town_101 ?_
              refine wa_aload_n dX10_town_102 rfl 2 rfl ?_
              refine wa_getr gX10_town_103 (rfl) rfl ?_
              refine wa_bipush (7) dX10_town_106 (by decide) ?_
              refine wa_iload_n dX10_town_108 rfl 1 rfl ?_
              refine wa_imulN (a := 7) (b := k) dX10_town_109 ?_
              refine wa_iconst (1) dX10_town_110 (by decide) ?_
              refine wa_iaddN (a := 7 * k) (b := 1) dX10_town_111 ?_
              refine wa_iload_n dX10_town_112 rfl 0 rfl ?_
              refine wa_iaddN (a := 7 * k + 1) (b := i) dX10_town_113 ?_
              refine wa_ialdN (e := 7 * k + 1 + i) dX10_town_114 (rfl) (by omega) (by decide) ?_
              refine wa_eqi (y := (N1.1 108 (7 * k + 1 + i))) (by rw [hT.1 108 (by decide) (by decide)]) ?_
              refine wa_iastN (e := 4 * k + i) dX10_town_115 (rfl) (by omega) (by decide) ?_
              refine wa_top (fun N5 e_N5 => ?_)
              have hT5 : TwF N1 N5 ch sz := by rw [e_N5]; exact hT.I (by decide)
              have hd5 : ∀ j, j < k → TwD N1 N5 j := fun j hj => by rw [e_N5]; exact (hd j hj).keep (fun i2 h2 => by omega) (by omega)
              have h5k : N5.1 103 k = N1.1 108 (7 * k) := by rw [e_N5, wI_c (by decide)]; exact hk3
              have h5w : ∀ i2, i2 < i + 1 → N5.1 104 (4 * k + i2) = N1.1 108 (7 * k + 1 + i2) := fun i2 h2 => by
                rw [e_N5]
                by_cases q : i2 = i
                · subst q; rw [wI_at]
                · rw [wI_ne (fun e => by omega)]; exact hkw i2 (by omega)
              refine wa_iinc ((nI (i + 1))) [(3, .int (nI (i + 1))), (2, .int (nI (k))), (0, wm_r G (96)), (1, .int (nI (r)))] dX10_town_116 0 rfl (nI_inc _) (by decide) rfl ?_
              refine wa_goto 88 dX10_town_119 (by decide) ?_
              exact ih_88 (i + 1) _ (by omega) (by omega) hT5 hd5 h5k h5w
        exact L_88 _ 0 N3 (Nat.lt_succ_self _) (Nat.zero_le _) hT3 hd3 h3k (fun j hj => absurd hj (Nat.not_lt_zero _))
  exact L_63 _ 0 N2 (Nat.lt_succ_self _) (Nat.zero_le _) hT2 (fun j hj => absurd hj (Nat.not_lt_zero _))
