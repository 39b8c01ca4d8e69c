theorem x_turnedOf {G : wm_G} {M : wm_M} (C : wm_M) (w h : Nat) (hX : xStn C M w h) (hW : TW C w h) (t : Nat) (ht : t < 4096) (k : Nat) (hk : k < w * h) : MD G t_X10_turnedOf [wm_r G (96), .int (nI (t)), .int (nI (k))] (M) (some (.int (nI (sMv t k (if C.1 18 k = 3 then 2 else 1))))) (M) := by
  obtain ⟨x10, x11, x12, x103, x104, x105, x106⟩ := id hX
  have hn6 := TW_n hW
  have hw3 := hW.2.2.1
  have hh2 := hW.2.2.2
  refine wm_met (by decide) (Nat.le_of_ble_eq_true rfl) ?_
  show WA G t_X10_turnedOf (fun v_ N_ => v_ = some (.int (nI (sMv t k (if C.1 18 k = 3 then 2 else 1)))) ∧ N_ = M) 0 [(0, wm_r G (96)), (1, .int (nI (t))), (2, .int (nI (k)))] [] (M)
  refine wa_iload_n dX10_turnedOf_0 rfl 1 rfl ?_
  refine wa_iconst (2) dX10_turnedOf_1 (by decide) ?_
  refine wa_iload_n dX10_turnedOf_2 rfl 2 rfl ?_
  refine wa_imulN (a := 2) (b := k) dX10_turnedOf_3 ?_
  refine wa_ishr dX10_turnedOf_4 ?_
  refine wa_eqi (y := (nI (t / 2 ^ (2 * k)))) (nI_shr (by omega) (by omega)) ?_
  refine wa_iconst (3) dX10_turnedOf_5 (by decide) ?_
  refine wa_iand dX10_turnedOf_6 ?_
  refine wa_eqi (y := (nI (sQ t k))) (by rw [nI_and3 (Nat.lt_of_le_of_lt (Nat.div_le_self _ _) (by omega)), p4]; rfl) ?_
  refine wa_istore_n [(3, .int (nI (sQ t k))), (0, wm_r G (96)), (1, .int (nI (t))), (2, .int (nI (k)))] dX10_turnedOf_7 rfl (by decide) rfl ?_
  refine wa_iload_n dX10_turnedOf_8 rfl 2 rfl ?_
  refine wa_iload_n dX10_turnedOf_9 rfl 0 rfl ?_
  refine wa_aload_n dX10_turnedOf_10 rfl 1 rfl ?_
  refine wa_iload_n dX10_turnedOf_11 rfl 3 rfl ?_
  refine wa_cVi (x_stepOf C w h hX hW k hk) vX10_stepOf iX10_turnedOf_12 (rfl) rfl rfl rfl (Nat.le_of_ble_eq_true rfl) ⟨by decide, by decide⟩ ?_
  refine wa_iaddN (a := sQ t k) (b := if C.1 18 k = 3 then 2 else 1) dX10_turnedOf_15 ?_
  refine wa_iconst (4) dX10_turnedOf_16 (by decide) ?_
  refine wa_iremN (a := sQ t k + (if C.1 18 k = 3 then 2 else 1)) (b := 4) dX10_turnedOf_17 (by have := sQ_lt t k; split <;> omega) (by omega) (by omega) ?_
  refine wa_iload_n dX10_turnedOf_18 rfl 0 rfl ?_
  refine wa_isub dX10_turnedOf_19 ?_
  refine wa_iconst (2) dX10_turnedOf_20 (by decide) ?_
  refine wa_iload_n dX10_turnedOf_21 rfl 3 rfl ?_
  refine wa_imulN (a := 2) (b := k) dX10_turnedOf_22 ?_
  refine wa_ishl dX10_turnedOf_23 ?_
  refine wa_iadd dX10_turnedOf_24 ?_
  refine wa_eqi (y := (nI (sMv t k (if C.1 18 k = 3 then 2 else 1)))) (sMv_i (by omega) (by omega)) ?_
  exact wa_iret dX10_turnedOf_25 rfl ⟨congrArg (fun z => some (Value.int z)) (rfl), rfl⟩

set_option maxHeartbeats 4000000 in
theorem x_layMakes {G : wm_G} {M : wm_M} (C : wm_M) (w h : Nat) (hX : xStn C M w h) (hW : TW C w h) (l fr yrs : Nat) (hl : l < 4) (hfr : fr ≤ 1) (hfy : fr ≤ yrs) (hy : yrs ≤ 12) (b : Bool) (hd2 : M.2.2 2 = b) (hd3 : M.2.2 3 = !b) (hst : ∀ t, t < 4 ^ (w * h) → M.1 115 t = nI (stdN C w h t)) : MA G t_X10_layMakes [wm_r G (96), .int (nI (l)), .int (nI (fr)), .int (nI (yrs))] (M) (fun v N => v = none ∧ FrK M N ∧ N.2.2 3 = !N.2.2 2 ∧ ∀ t, t < 4 ^ (w * h) → N.1 (wm_dt 2 (N.2.2 2)) t = wB (wnI (C.1 18) (w * h) (ctF C w h l) yrs (yrs - fr) t)) := by
  obtain ⟨x10, x11, x12, x103, x104, x105, x106⟩ := id hX
  have hn6 := TW_n hW
  have hw3 := hW.2.2.1
  have hh2 := hW.2.2.2
  have h4 := p4_le hn6
  refine wm_met (by decide) (Nat.le_of_ble_eq_true rfl) ?_
  show WA G t_X10_layMakes (fun v N => v = none ∧ FrK M N ∧ N.2.2 3 = !N.2.2 2 ∧ ∀ t, t < 4 ^ (w * h) → N.1 (wm_dt 2 (N.2.2 2)) t = wB (wnI (C.1 18) (w * h) (ctF C w h l) yrs (yrs - fr) t)) 0 [(0, wm_r G (96)), (1, .int (nI (l))), (2, .int (nI (fr))), (3, .int (nI (yrs)))] [] (M)
  refine wa_iconst (0) dX10_layMakes_0 (by decide) ?_
  refine wa_istore [(4, .int (0)), (0, wm_r G (96)), (1, .int (nI (l))), (2, .int (nI (fr))), (3, .int (nI (yrs)))] dX10_layMakes_1 (by decide) rfl ?_
  have L_3 : ∀ (n_ : Nat) (t : Nat), (4 ^ (w * h) - t) < n_ → (t ≤ 4 ^ (w * h)) → WA G t_X10_layMakes (fun v N => v = none ∧ FrK M N ∧ N.2.2 3 = !N.2.2 2 ∧ ∀ t, t < 4 ^ (w * h) → N.1 (wm_dt 2 (N.2.2 2)) t = wB (wnI (C.1 18) (w * h) (ctF C w h l) yrs (yrs - fr) t)) 3 [(4, .int (nI (t))), (0, wm_r G (96)), (1, .int (nI (l))), (2, .int (nI (fr))), (3, .int (nI (yrs)))] [] (wIa M (wm_dt 2 b) (wTo (fun t => wB (ctF C w h l t)) (M.1 (wm_dt 2 b)) (t))) := by
    intro n_
    induction n_ with
    | zero => intro t h_; exact absurd h_ (Nat.not_lt_zero _)
    | succ n_ ih_3 =>
      intro t h_ ht
      refine wa_iload dX10_layMakes_3 0 rfl ?_
      refine wa_aload_n dX10_layMakes_5 rfl 1 rfl ?_
      refine wa_cVi (x_stateMany (w * h) hn6 (by rw [FrK.I.1 96 (by decide) (by decide)]; exact x12)) vX10_stateMany iX10_layMakes_6 (rfl) rfl rfl rfl (Nat.le_of_ble_eq_true rfl) ⟨by decide, by decide⟩ ?_
      refine wa_icmp_geN (a := t) (b := 4 ^ (w * h)) 36 dX10_layMakes_9 (by decide) (by omega) (by omega) (fun c_9 => ?_) (fun c_9 => ?_)
      · refine wa_iload_n dX10_layMakes_36 rfl 4 rfl ?_
        refine wa_iconst (1) dX10_layMakes_37 (by decide) ?_
        refine wa_isub dX10_layMakes_38 ?_
        refine wa_istore [(4, .int ((nI (yrs)) - (1))), (0, wm_r G (96)), (1, .int (nI (l))), (2, .int (nI (fr))), (3, .int (nI (yrs)))] dX10_layMakes_39 (by decide) rfl ?_
        have L_41 : ∀ (n_ : Nat) (j : Nat) (N : wm_M) (b1 : Bool), (yrs - fr - j) < n_ → (j ≤ yrs - fr) → (FrK M N) → (N.2.2 2 = b1) → (N.2.2 3 = !b1) → (∀ t, t < 4 ^ (w * h) → N.1 (wm_dt 2 b1) t = wB (wnI (C.1 18) (w * h) (ctF C w h l) yrs j t)) → WA G t_X10_layMakes (fun v N => v = none ∧ FrK M N ∧ N.2.2 3 = !N.2.2 2 ∧ ∀ t, t < 4 ^ (w * h) → N.1 (wm_dt 2 (N.2.2 2)) t = wB (wnI (C.1 18) (w * h) (ctF C w h l) yrs (yrs - fr) t)) 41 [(4, .int (nI (yrs - j) - 1)), (0, wm_r G (96)), (1, .int (nI (l))), (2, .int (nI (fr))), (3, .int (nI (yrs)))] [] (N) := by
          intro n_
          induction n_ with
          | zero => intro j N b1 h_; exact absurd h_ (Nat.not_lt_zero _)
          | succ n_ ih_41 =>
            intro j N b1 h_ hj hF hb2 hb3 hmk
            have hXN := hF.stn hX
            have h12N : N.1 96 12 = nI (w * h) := by rw [hF.1 96 (by decide) (by decide)]; exact x12
            refine wa_iload dX10_layMakes_41 0 rfl ?_
            refine wa_iload_n dX10_layMakes_43 rfl 3 rfl ?_
            refine wa_icmp_lt 205 dX10_layMakes_44 (by decide) (fun c_44 => ?_) (fun c_44 => ?_)
            · have hjm : yrs - j ≤ fr := by have := (m1_lt (by omega) (by omega)).mp c_44; omega
              refine wa_vret dX10_layMakes_205 rfl ?_
              exact ⟨rfl, hF, by rw [hb2, hb3], fun t ht => by rw [hb2, hmk t ht, show j = yrs - fr by omega]⟩
            · have hjm : fr < yrs - j := by
                have h9 : ¬ yrs - j < fr + 1 := fun q => c_44 ((m1_lt (by omega) (by omega)).mpr q)
                omega
              refine wa_iload dX10_layMakes_47 0 rfl ?_
              refine wa_eqi (y := (nI (yrs - j - 1))) (m1_n (by omega)) ?_
              refine wa_iconst (2) dX10_layMakes_49 (by decide) ?_
              refine wa_iremN (a := yrs - j - 1) (b := 2) dX10_layMakes_50 (by omega) (by omega) (by omega) ?_
              refine wa_if_neN (a := (yrs - j - 1) % (2)) 58 dX10_layMakes_51 (by decide) (by omega) (fun c_51 => ?_) (fun c_51 => ?_)
              · refine wa_iconst (0) dX10_layMakes_58 (by decide) ?_
                refine wa_eqi (y := (wB (decide ((yrs - j) % 2 = 1)))) (by first | (rw [decide_eq_true (show (yrs - j) % 2 = 1 by omega)]; rfl) | (rw [decide_eq_false (show ¬ (yrs - j) % 2 = 1 by omega)]; rfl)) ?_
                refine wa_istore [(5, .int (wB (decide ((yrs - j) % 2 = 1)))), (4, .int (nI (yrs - j) - 1)), (0, wm_r G (96)), (1, .int (nI (l))), (2, .int (nI (fr))), (3, .int (nI (yrs)))] dX10_layMakes_59 (by decide) rfl ?_
                refine wa_iconst (0) dX10_layMakes_61 (by decide) ?_
                refine wa_istore [(6, .int (0)), (5, .int (wB (decide ((yrs - j) % 2 = 1)))), (4, .int (nI (yrs - j) - 1)), (0, wm_r G (96)), (1, .int (nI (l))), (2, .int (nI (fr))), (3, .int (nI (yrs)))] dX10_layMakes_62 (by decide) rfl ?_
                have L_64 : ∀ (n_ : Nat) (t : Nat), (4 ^ (w * h) - t) < n_ → (t ≤ 4 ^ (w * h)) → WA G t_X10_layMakes (fun v N => v = none ∧ FrK M N ∧ N.2.2 3 = !N.2.2 2 ∧ ∀ t, t < 4 ^ (w * h) → N.1 (wm_dt 2 (N.2.2 2)) t = wB (wnI (C.1 18) (w * h) (ctF C w h l) yrs (yrs - fr) t)) 64 [(6, .int (nI (t))), (5, .int (wB (decide ((yrs - j) % 2 = 1)))), (4, .int (nI (yrs - j) - 1)), (0, wm_r G (96)), (1, .int (nI (l))), (2, .int (nI (fr))), (3, .int (nI (yrs)))] [] (wIa N (wm_dt 2 (!b1)) (wTo (fun t => wB (wnB (C.1 18) (w * h) (wnI (C.1 18) (w * h) (ctF C w h l) yrs j) (decide ((yrs - j) % 2 = 1)) t)) (N.1 (wm_dt 2 (!b1))) (t))) := by
                  intro n_
                  induction n_ with
                  | zero => intro t h_; exact absurd h_ (Nat.not_lt_zero _)
                  | succ n_ ih_64 =>
                    intro t h_ ht
                    refine wa_iload dX10_layMakes_64 0 rfl ?_
                    refine wa_aload_n dX10_layMakes_66 rfl 3 rfl ?_
                    refine wa_cVi (x_stateMany (w * h) hn6 (by rw [FrK.I.1 96 (by decide) (by decide)]; exact h12N)) vX10_stateMany iX10_layMakes_67 (rfl) rfl rfl rfl (Nat.le_of_ble_eq_true rfl) ⟨by decide, by decide⟩ ?_
                    refine wa_icmp_geN (a := t) (b := 4 ^ (w * h)) 179 dX10_layMakes_70 (by decide) (by omega) (by omega) (fun c_70 => ?_) (fun c_70 => ?_)
                    · refine wa_aload_n dX10_layMakes_179 rfl 3 rfl ?_
                      refine wa_getd gX10_layMakes_180 (rfl) rfl ?_
                      rw [show wm_dt 2 ((wIa N (wm_dt 2 (!b1)) (wTo (fun t => wB (wnB (C.1 18) (w * h) (wnI (C.1 18) (w * h) (ctF C w h l) yrs j) (decide ((yrs - j) % 2 = 1)) t)) (N.1 (wm_dt 2 (!b1))) (t))).2.2 2) = wm_dt 2 b1 from by rw [show (wIa N (wm_dt 2 (!b1)) (wTo (fun t => wB (wnB (C.1 18) (w * h) (wnI (C.1 18) (w * h) (ctF C w h l) yrs j) (decide ((yrs - j) % 2 = 1)) t)) (N.1 (wm_dt 2 (!b1))) (t))).2.2 2 = b1 from hb2]]
                      refine wa_astore [(6, wm_r G (wm_dt 2 b1)), (5, .int (wB (decide ((yrs - j) % 2 = 1)))), (4, .int (nI (yrs - j) - 1)), (0, wm_r G (96)), (1, .int (nI (l))), (2, .int (nI (fr))), (3, .int (nI (yrs)))] dX10_layMakes_183 (by decide) rfl ?_
                      refine wa_aload_n dX10_layMakes_185 rfl 3 rfl ?_
                      refine wa_aload_n dX10_layMakes_186 rfl 3 rfl ?_
                      refine wa_getd gX10_layMakes_187 (rfl) rfl ?_
                      rw [show wm_dt 3 ((wIa N (wm_dt 2 (!b1)) (wTo (fun t => wB (wnB (C.1 18) (w * h) (wnI (C.1 18) (w * h) (ctF C w h l) yrs j) (decide ((yrs - j) % 2 = 1)) t)) (N.1 (wm_dt 2 (!b1))) (t))).2.2 3) = wm_dt 2 (!b1) from by rw [show (wIa N (wm_dt 2 (!b1)) (wTo (fun t => wB (wnB (C.1 18) (w * h) (wnI (C.1 18) (w * h) (ctF C w h l) yrs j) (decide ((yrs - j) % 2 = 1)) t)) (N.1 (wm_dt 2 (!b1))) (t))).2.2 3 = !b1 from hb3]; rfl]
                      refine wa_putd (!b1) gX10_layMakes_190 (rfl) rfl (rfl) ⟨_, rfl⟩ ?_
                      refine wa_aload_n dX10_layMakes_193 rfl 3 rfl ?_
                      refine wa_aload dX10_layMakes_194 0 rfl ?_
                      refine wa_putd (b1) gX10_layMakes_196 (rfl) rfl (rfl) ⟨_, rfl⟩ ?_
                      refine wa_iinc ((nI (yrs - (j + 1)) - 1)) [(4, .int (nI (yrs - (j + 1)) - 1)), (6, wm_r G (wm_dt 2 b1)), (5, .int (wB (decide ((yrs - j) % 2 = 1)))), (0, wm_r G (96)), (1, .int (nI (l))), (2, .int (nI (fr))), (3, .int (nI (yrs)))] dX10_layMakes_199 2 rfl ((m1_dec (by omega)).trans (by rw [show yrs - j - 1 = yrs - (j + 1) by omega])) (by decide) rfl ?_
                      refine wa_goto 41 dX10_layMakes_202 (by decide) ?_
                      refine wa_sub [0, 3, 4, 5, 6] rfl ?_
                      exact ih_41 (j + 1) _ (!b1) (by omega) (by omega) (((hF.tr FrK.I).tr (FrK.D (by decide))).tr (FrK.D (by decide))) (by rw [wD_n (by decide), wD_s]) (by rw [wD_s, Bool.not_not]) (fun t2 h2 => by show (wIa N _ _).1 (wm_dt 2 (!b1)) t2 = _; rw [wIa_s, wTo_in (by omega)]; rfl)
                    · refine wa_aload_n dX10_layMakes_73 rfl 3 rfl ?_
                      refine wa_getd gX10_layMakes_74 (rfl) rfl ?_
                      rw [show wm_dt 2 ((wIa N (wm_dt 2 (!b1)) (wTo (fun t => wB (wnB (C.1 18) (w * h) (wnI (C.1 18) (w * h) (ctF C w h l) yrs j) (decide ((yrs - j) % 2 = 1)) t)) (N.1 (wm_dt 2 (!b1))) (t))).2.2 2) = wm_dt 2 b1 from by rw [show (wIa N (wm_dt 2 (!b1)) (wTo (fun t => wB (wnB (C.1 18) (w * h) (wnI (C.1 18) (w * h) (ctF C w h l) yrs j) (decide ((yrs - j) % 2 = 1)) t)) (N.1 (wm_dt 2 (!b1))) (t))).2.2 2 = b1 from hb2]]
                      refine wa_iload dX10_layMakes_77 0 rfl ?_
                      refine wa_zaldN (e := t) dX10_layMakes_79 (dt2_sh b1) (by omega) (by omega) ?_
                      refine wa_eqi (y := (wB (wnI (C.1 18) (w * h) (ctF C w h l) yrs j t))) (by rw [wIa_n (dt2_ne b1)]; exact hmk t (by omega)) ?_
                      refine wa_eqi (y := (wB (wnP (C.1 18) (wnI (C.1 18) (w * h) (ctF C w h l) yrs j) (decide ((yrs - j) % 2 = 1)) t 0))) (congrArg wB (wnP_0 _ _ _ _).symm) ?_
                      refine wa_istore [(7, .int (wB (wnP (C.1 18) (wnI (C.1 18) (w * h) (ctF C w h l) yrs j) (decide ((yrs - j) % 2 = 1)) t 0))), (6, .int (nI (t))), (5, .int (wB (decide ((yrs - j) % 2 = 1)))), (4, .int (nI (yrs - j) - 1)), (0, wm_r G (96)), (1, .int (nI (l))), (2, .int (nI (fr))), (3, .int (nI (yrs)))] dX10_layMakes_80 (by decide) rfl ?_
                      refine wa_iconst (0) dX10_layMakes_82 (by decide) ?_
                      refine wa_istore [(8, .int (0)), (7, .int (wB (wnP (C.1 18) (wnI (C.1 18) (w * h) (ctF C w h l) yrs j) (decide ((yrs - j) % 2 = 1)) t 0))), (6, .int (nI (t))), (5, .int (wB (decide ((yrs - j) % 2 = 1)))), (4, .int (nI (yrs - j) - 1)), (0, wm_r G (96)), (1, .int (nI (l))), (2, .int (nI (fr))), (3, .int (nI (yrs)))] dX10_layMakes_83 (by decide) rfl ?_
                      have L_85 : ∀ (n_ : Nat) (k : Nat), (w * h - k) < n_ → (k ≤ w * h) → WA G t_X10_layMakes (fun v N => v = none ∧ FrK M N ∧ N.2.2 3 = !N.2.2 2 ∧ ∀ t, t < 4 ^ (w * h) → N.1 (wm_dt 2 (N.2.2 2)) t = wB (wnI (C.1 18) (w * h) (ctF C w h l) yrs (yrs - fr) t)) 85 [(8, .int (nI (k))), (7, .int (wB (wnP (C.1 18) (wnI (C.1 18) (w * h) (ctF C w h l) yrs j) (decide ((yrs - j) % 2 = 1)) t k))), (6, .int (nI (t))), (5, .int (wB (decide ((yrs - j) % 2 = 1)))), (4, .int (nI (yrs - j) - 1)), (0, wm_r G (96)), (1, .int (nI (l))), (2, .int (nI (fr))), (3, .int (nI (yrs)))] [] (wIa N (wm_dt 2 (!b1)) (wTo (fun t => wB (wnB (C.1 18) (w * h) (wnI (C.1 18) (w * h) (ctF C w h l) yrs j) (decide ((yrs - j) % 2 = 1)) t)) (N.1 (wm_dt 2 (!b1))) (t))) := by
                        intro n_
                        induction n_ with
                        | zero => intro k h_; exact absurd h_ (Nat.not_lt_zero _)
                        | succ n_ ih_85 =>
                          intro k h_ hk
                          refine wa_iload dX10_layMakes_85 0 rfl ?_
                          refine wa_aload_n dX10_layMakes_87 rfl 5 rfl ?_
                          refine wa_geti gX10_layMakes_88 (rfl) rfl ?_
                          refine wa_eqi (y := (nI (w * h))) (by rw [FrK.I.1 96 (by decide) (by decide)]; exact h12N) ?_
                          refine wa_icmp_geN (a := k) (b := w * h) 164 dX10_layMakes_91 (by decide) (by omega) (by omega) (fun c_91 => ?_) (fun c_91 => ?_)
                          · refine wa_aload_n dX10_layMakes_164 rfl 5 rfl ?_
                            refine wa_getd gX10_layMakes_165 (rfl) rfl ?_
                            rw [show wm_dt 3 ((wIa N (wm_dt 2 (!b1)) (wTo (fun t => wB (wnB (C.1 18) (w * h) (wnI (C.1 18) (w * h) (ctF C w h l) yrs j) (decide ((yrs - j) % 2 = 1)) t)) (N.1 (wm_dt 2 (!b1))) (t))).2.2 3) = wm_dt 2 (!b1) from by rw [show (wIa N (wm_dt 2 (!b1)) (wTo (fun t => wB (wnB (C.1 18) (w * h) (wnI (C.1 18) (w * h) (ctF C w h l) yrs j) (decide ((yrs - j) % 2 = 1)) t)) (N.1 (wm_dt 2 (!b1))) (t))).2.2 3 = !b1 from hb3]; rfl]
                            refine wa_iload dX10_layMakes_168 2 rfl ?_
                            refine wa_iload dX10_layMakes_170 1 rfl ?_
                            refine wa_zastN (e := t) dX10_layMakes_172 (dt2_sh (!b1)) (by omega) (by omega) ?_
                            refine wa_eqm (M' := wIa N (wm_dt 2 (!b1)) (wTo (fun t => wB (wnB (C.1 18) (w * h) (wnI (C.1 18) (w * h) (ctF C w h l) yrs j) (decide ((yrs - j) % 2 = 1)) t)) (N.1 (wm_dt 2 (!b1))) (t + 1))) (by rw [nar_z]; exact wI_wIa.trans (congrArg (wIa N (wm_dt 2 (!b1))) (wTo_s (f := fun t => wB (wnB (C.1 18) (w * h) (wnI (C.1 18) (w * h) (ctF C w h l) yrs j) (decide ((yrs - j) % 2 = 1)) t)) (by rw [show k = w * h by omega]; rfl)))) ?_
                            refine wa_iinc ((nI (t + 1))) [(6, .int (nI (t + 1))), (8, .int (nI (k))), (7, .int (wB (wnP (C.1 18) (wnI (C.1 18) (w * h) (ctF C w h l) yrs j) (decide ((yrs - j) % 2 = 1)) t k))), (5, .int (wB (decide ((yrs - j) % 2 = 1)))), (4, .int (nI (yrs - j) - 1)), (0, wm_r G (96)), (1, .int (nI (l))), (2, .int (nI (fr))), (3, .int (nI (yrs)))] dX10_layMakes_173 2 rfl (nI_inc _) (by decide) rfl ?_
                            refine wa_goto 64 dX10_layMakes_176 (by decide) ?_
                            refine wa_sub [0, 3, 4, 5, 6, 7, 8] rfl ?_
                            exact ih_64 (t + 1) (by omega) (by omega)
                          · refine wa_aload_n dX10_layMakes_94 rfl 5 rfl ?_
                            refine wa_iload dX10_layMakes_95 0 rfl ?_
                            refine wa_cVi (x_isFixed C w h (FrK.I.stn hXN) hW k (by omega)) vX10_isFixed iX10_layMakes_97 (rfl) rfl rfl rfl (Nat.le_of_ble_eq_true rfl) ⟨by decide, by decide⟩ ?_
                            refine wa_if_neB 158 dX10_layMakes_100 (by decide) (fun (c_100 : (sFix (C.1 18 k)) = true) => ?_) (fun (c_100 : (sFix (C.1 18 k)) = false) => ?_)
                            · have hwf := wnP_fix (f := wnI (C.1 18) (w * h) (ctF C w h l) yrs j) (first := decide ((yrs - j) % 2 = 1)) (t := t) c_100
                              refine wa_iinc ((nI (k + 1))) [(8, .int (nI (k + 1))), (7, .int (wB (wnP (C.1 18) (wnI (C.1 18) (w * h) (ctF C w h l) yrs j) (decide ((yrs - j) % 2 = 1)) t k))), (6, .int (nI (t))), (5, .int (wB (decide ((yrs - j) % 2 = 1)))), (4, .int (nI (yrs - j) - 1)), (0, wm_r G (96)), (1, .int (nI (l))), (2, .int (nI (fr))), (3, .int (nI (yrs)))] dX10_layMakes_158 0 rfl (nI_inc _) (by decide) rfl ?_
                              refine wa_goto 85 dX10_layMakes_161 (by decide) ?_
                              first | rw [← hwf] | skip
                              exact ih_85 (k + 1) (by omega) (by omega)
                            · refine wa_aload_n dX10_layMakes_103 rfl 5 rfl ?_
                              refine wa_getd gX10_layMakes_104 (rfl) rfl ?_
                              rw [show wm_dt 2 ((wIa N (wm_dt 2 (!b1)) (wTo (fun t => wB (wnB (C.1 18) (w * h) (wnI (C.1 18) (w * h) (ctF C w h l) yrs j) (decide ((yrs - j) % 2 = 1)) t)) (N.1 (wm_dt 2 (!b1))) (t))).2.2 2) = wm_dt 2 b1 from by rw [show (wIa N (wm_dt 2 (!b1)) (wTo (fun t => wB (wnB (C.1 18) (w * h) (wnI (C.1 18) (w * h) (ctF C w h l) yrs j) (decide ((yrs - j) % 2 = 1)) t)) (N.1 (wm_dt 2 (!b1))) (t))).2.2 2 = b1 from hb2]]
                              refine wa_aload_n dX10_layMakes_107 rfl 5 rfl ?_
                              refine wa_iload dX10_layMakes_108 2 rfl ?_
                              refine wa_iload dX10_layMakes_110 0 rfl ?_
                              refine wa_cVi (x_turnedOf C w h (FrK.I.stn hXN) hW t (by omega) k (by omega)) vX10_turnedOf iX10_layMakes_112 (rfl) rfl rfl rfl (Nat.le_of_ble_eq_true rfl) ⟨by decide, by decide⟩ ?_
                              refine wa_eqi (y := (nI (sMv t k (sStep (C.1 18 k))))) (by rw [st_of c_100]) ?_
                              have hmv := sMv_lt (m := sStep (C.1 18 k)) (show t < 4 ^ (w * h) by omega) (show k < w * h by omega)
                              refine wa_zaldN (e := sMv t k (sStep (C.1 18 k))) dX10_layMakes_115 (dt2_sh b1) (by omega) (by omega) ?_
                              refine wa_eqi (y := (wB (wnI (C.1 18) (w * h) (ctF C w h l) yrs j (sMv t k (sStep (C.1 18 k)))))) (by rw [wIa_n (dt2_ne b1)]; exact hmk _ hmv) ?_
                              refine wa_istore [(9, .int (wB (wnI (C.1 18) (w * h) (ctF C w h l) yrs j (sMv t k (sStep (C.1 18 k)))))), (8, .int (nI (k))), (7, .int (wB (wnP (C.1 18) (wnI (C.1 18) (w * h) (ctF C w h l) yrs j) (decide ((yrs - j) % 2 = 1)) t k))), (6, .int (nI (t))), (5, .int (wB (decide ((yrs - j) % 2 = 1)))), (4, .int (nI (yrs - j) - 1)), (0, wm_r G (96)), (1, .int (nI (l))), (2, .int (nI (fr))), (3, .int (nI (yrs)))] dX10_layMakes_116 (by decide) rfl ?_
                              refine wa_iload dX10_layMakes_118 4 rfl ?_
                              refine wa_if_eqB 141 dX10_layMakes_120 (by decide) (fun (c_120 : (decide ((yrs - j) % 2 = 1)) = false) => ?_) (fun (c_120 : (decide ((yrs - j) % 2 = 1)) = true) => ?_)
                              · refine wa_iload dX10_layMakes_141 2 rfl ?_
                                refine wa_if_eqB 155 dX10_layMakes_143 (by decide) (fun (c_143 : (wnP (C.1 18) (wnI (C.1 18) (w * h) (ctF C w h l) yrs j) (decide ((yrs - j) % 2 = 1)) t k) = false) => ?_) (fun (c_143 : (wnP (C.1 18) (wnI (C.1 18) (w * h) (ctF C w h l) yrs j) (decide ((yrs - j) % 2 = 1)) t k) = true) => ?_)
                                · refine wa_iconst (0) dX10_layMakes_155 (by decide) ?_
                                  refine wa_eqi (y := (wB (wnP (C.1 18) (wnI (C.1 18) (w * h) (ctF C w h l) yrs j) (decide ((yrs - j) % 2 = 1)) t (k + 1)))) (by rw [wnP_mv c_100]; first | (rw [c_125, c_120]; rfl) | (rw [c_125, c_130, c_120]; rfl) | (rw [c_143, c_120]; rfl) | (rw [c_143, c_148, c_120]; rfl)) ?_
                                  refine wa_istore [(7, .int (wB (wnP (C.1 18) (wnI (C.1 18) (w * h) (ctF C w h l) yrs j) (decide ((yrs - j) % 2 = 1)) t (k + 1)))), (9, .int (wB (wnI (C.1 18) (w * h) (ctF C w h l) yrs j (sMv t k (sStep (C.1 18 k)))))), (8, .int (nI (k))), (6, .int (nI (t))), (5, .int (wB (decide ((yrs - j) % 2 = 1)))), (4, .int (nI (yrs - j) - 1)), (0, wm_r G (96)), (1, .int (nI (l))), (2, .int (nI (fr))), (3, .int (nI (yrs)))] dX10_layMakes_156 (by decide) rfl ?_
                                  refine wa_iinc ((nI (k + 1))) [(8, .int (nI (k + 1))), (7, .int (wB (wnP (C.1 18) (wnI (C.1 18) (w * h) (ctF C w h l) yrs j) (decide ((yrs - j) % 2 = 1)) t (k + 1)))), (9, .int (wB (wnI (C.1 18) (w * h) (ctF C w h l) yrs j (sMv t k (sStep (C.1 18 k)))))), (6, .int (nI (t))), (5, .int (wB (decide ((yrs - j) % 2 = 1)))), (4, .int (nI (yrs - j) - 1)), (0, wm_r G (96)), (1, .int (nI (l))), (2, .int (nI (fr))), (3, .int (nI (yrs)))] dX10_layMakes_158 2 rfl (nI_inc _) (by decide) rfl ?_
                                  refine wa_goto 85 dX10_layMakes_161 (by decide) ?_
                                  refine wa_sub [0, 1, 3, 4, 5, 6, 7, 8, 9] rfl ?_
                                  first | rw [← hwf] | skip
                                  exact ih_85 (k + 1) (by omega) (by omega)
                                · refine wa_iload dX10_layMakes_146 0 rfl ?_
                                  refine wa_if_eqB 155 dX10_layMakes_148 (by decide) (fun (c_148 : (wnI (C.1 18) (w * h) (ctF C w h l) yrs j (sMv t k (sStep (C.1 18 k)))) = false) => ?_) (fun (c_148 : (wnI (C.1 18) (w * h) (ctF C w h l) yrs j (sMv t k (sStep (C.1 18 k)))) = true) => ?_)
                                  · refine wa_iconst (0) dX10_layMakes_155 (by decide) ?_
                                    refine wa_eqi (y := (wB (wnP (C.1 18) (wnI (C.1 18) (w * h) (ctF C w h l) yrs j) (decide ((yrs - j) % 2 = 1)) t (k + 1)))) (by rw [wnP_mv c_100]; first | (rw [c_125, c_120]; rfl) | (rw [c_125, c_130, c_120]; rfl) | (rw [c_143, c_120]; rfl) | (rw [c_143, c_148, c_120]; rfl)) ?_
                                    refine wa_istore [(7, .int (wB (wnP (C.1 18) (wnI (C.1 18) (w * h) (ctF C w h l) yrs j) (decide ((yrs - j) % 2 = 1)) t (k + 1)))), (9, .int (wB (wnI (C.1 18) (w * h) (ctF C w h l) yrs j (sMv t k (sStep (C.1 18 k)))))), (8, .int (nI (k))), (6, .int (nI (t))), (5, .int (wB (decide ((yrs - j) % 2 = 1)))), (4, .int (nI (yrs - j) - 1)), (0, wm_r G (96)), (1, .int (nI (l))), (2, .int (nI (fr))), (3, .int (nI (yrs)))] dX10_layMakes_156 (by decide) rfl ?_
                                    refine wa_iinc ((nI (k + 1))) [(8, .int (nI (k + 1))), (7, .int (wB (wnP (C.1 18) (wnI (C.1 18) (w * h) (ctF C w h l) yrs j) (decide ((yrs - j) % 2 = 1)) t (k + 1)))), (9, .int (wB (wnI (C.1 18) (w * h) (ctF C w h l) yrs j (sMv t k (sStep (C.1 18 k)))))), (6, .int (nI (t))), (5, .int (wB (decide ((yrs - j) % 2 = 1)))), (4, .int (nI (yrs - j) - 1)), (0, wm_r G (96)), (1, .int (nI (l))), (2, .int (nI (fr))), (3, .int (nI (yrs)))] dX10_layMakes_158 2 rfl (nI_inc _) (by decide) rfl ?_
                                    refine wa_goto 85 dX10_layMakes_161 (by decide) ?_
                                    refine wa_sub [0, 1, 3, 4, 5, 6, 7, 8, 9] rfl ?_
                                    first | rw [← hwf] | skip
                                    exact ih_85 (k + 1) (by omega) (by omega)
                                  · refine wa_iconst (1) dX10_layMakes_151 (by decide) ?_
                                    refine wa_goto 156 dX10_layMakes_152 (by decide) ?_
                                    refine wa_eqi (y := (wB (wnP (C.1 18) (wnI (C.1 18) (w * h) (ctF C w h l) yrs j) (decide ((yrs - j) % 2 = 1)) t (k + 1)))) (by rw [wnP_mv c_100]; first | (rw [c_125, c_120]; rfl) | (rw [c_125, c_130, c_120]; rfl) | (rw [c_143, c_120]; rfl) | (rw [c_143, c_148, c_120]; rfl)) ?_
                                    refine wa_istore [(7, .int (wB (wnP (C.1 18) (wnI (C.1 18) (w * h) (ctF C w h l) yrs j) (decide ((yrs - j) % 2 = 1)) t (k + 1)))), (9, .int (wB (wnI (C.1 18) (w * h) (ctF C w h l) yrs j (sMv t k (sStep (C.1 18 k)))))), (8, .int (nI (k))), (6, .int (nI (t))), (5, .int (wB (decide ((yrs - j) % 2 = 1)))), (4, .int (nI (yrs - j) - 1)), (0, wm_r G (96)), (1, .int (nI (l))), (2, .int (nI (fr))), (3, .int (nI (yrs)))] dX10_layMakes_156 (by decide) rfl ?_
                                    refine wa_iinc ((nI (k + 1))) [(8, .int (nI (k + 1))), (7, .int (wB (wnP (C.1 18) (wnI (C.1 18) (w * h) (ctF C w h l) yrs j) (decide ((yrs - j) % 2 = 1)) t (k + 1)))), (9, .int (wB (wnI (C.1 18) (w * h) (ctF C w h l) yrs j (sMv t k (sStep (C.1 18 k)))))), (6, .int (nI (t))), (5, .int (wB (decide ((yrs - j) % 2 = 1)))), (4, .int (nI (yrs - j) - 1)), (0, wm_r G (96)), (1, .int (nI (l))), (2, .int (nI (fr))), (3, .int (nI (yrs)))] dX10_layMakes_158 2 rfl (nI_inc _) (by decide) rfl ?_
                                    refine wa_goto 85 dX10_layMakes_161 (by decide) ?_
                                    refine wa_sub [0, 1, 3, 4, 5, 6, 7, 8, 9] rfl ?_
                                    first | rw [← hwf] | skip
                                    exact ih_85 (k + 1) (by omega) (by omega)
                              · refine wa_iload dX10_layMakes_123 2 rfl ?_
                                refine wa_if_neB 133 dX10_layMakes_125 (by decide) (fun (c_125 : (wnP (C.1 18) (wnI (C.1 18) (w * h) (ctF C w h l) yrs j) (decide ((yrs - j) % 2 = 1)) t k) = true) => ?_) (fun (c_125 : (wnP (C.1 18) (wnI (C.1 18) (w * h) (ctF C w h l) yrs j) (decide ((yrs - j) % 2 = 1)) t k) = false) => ?_)
                                · refine wa_iconst (1) dX10_layMakes_133 (by decide) ?_
                                  refine wa_goto 156 dX10_layMakes_134 (by decide) ?_
                                  refine wa_eqi (y := (wB (wnP (C.1 18) (wnI (C.1 18) (w * h) (ctF C w h l) yrs j) (decide ((yrs - j) % 2 = 1)) t (k + 1)))) (by rw [wnP_mv c_100]; first | (rw [c_125, c_120]; rfl) | (rw [c_125, c_130, c_120]; rfl) | (rw [c_143, c_120]; rfl) | (rw [c_143, c_148, c_120]; rfl)) ?_
                                  refine wa_istore [(7, .int (wB (wnP (C.1 18) (wnI (C.1 18) (w * h) (ctF C w h l) yrs j) (decide ((yrs - j) % 2 = 1)) t (k + 1)))), (9, .int (wB (wnI (C.1 18) (w * h) (ctF C w h l) yrs j (sMv t k (sStep (C.1 18 k)))))), (8, .int (nI (k))), (6, .int (nI (t))), (5, .int (wB (decide ((yrs - j) % 2 = 1)))), (4, .int (nI (yrs - j) - 1)), (0, wm_r G (96)), (1, .int (nI (l))), (2, .int (nI (fr))), (3, .int (nI (yrs)))] dX10_layMakes_156 (by decide) rfl ?_
                                  refine wa_iinc ((nI (k + 1))) [(8, .int (nI (k + 1))), (7, .int (wB (wnP (C.1 18) (wnI (C.1 18) (w * h) (ctF C w h l) yrs j) (decide ((yrs - j) % 2 = 1)) t (k + 1)))), (9, .int (wB (wnI (C.1 18) (w * h) (ctF C w h l) yrs j (sMv t k (sStep (C.1 18 k)))))), (6, .int (nI (t))), (5, .int (wB (decide ((yrs - j) % 2 = 1)))), (4, .int (nI (yrs - j) - 1)), (0, wm_r G (96)), (1, .int (nI (l))), (2, .int (nI (fr))), (3, .int (nI (yrs)))] dX10_layMakes_158 2 rfl (nI_inc _) (by decide) rfl ?_
                                  refine wa_goto 85 dX10_layMakes_161 (by decide) ?_
                                  refine wa_sub [0, 1, 3, 4, 5, 6, 7, 8, 9] rfl ?_
                                  first | rw [← hwf] | skip
                                  exact ih_85 (k + 1) (by omega) (by omega)
                                · refine wa_iload dX10_layMakes_128 0 rfl ?_
                                  refine wa_if_eqB 137 dX10_layMakes_130 (by decide) (fun (c_130 : (wnI (C.1 18) (w * h) (ctF C w h l) yrs j (sMv t k (sStep (C.1 18 k)))) = false) => ?_) (fun (c_130 : (wnI (C.1 18) (w * h) (ctF C w h l) yrs j (sMv t k (sStep (C.1 18 k)))) = true) => ?_)
                                  · refine wa_iconst (0) dX10_layMakes_137 (by decide) ?_
                                    refine wa_goto 156 dX10_layMakes_138 (by decide) ?_
                                    refine wa_eqi (y := (wB (wnP (C.1 18) (wnI (C.1 18) (w * h) (ctF C w h l) yrs j) (decide ((yrs - j) % 2 = 1)) t (k + 1)))) (by rw [wnP_mv c_100]; first | (rw [c_125, c_120]; rfl) | (rw [c_125, c_130, c_120]; rfl) | (rw [c_143, c_120]; rfl) | (rw [c_143, c_148, c_120]; rfl)) ?_
                                    refine wa_istore [(7, .int (wB (wnP (C.1 18) (wnI (C.1 18) (w * h) (ctF C w h l) yrs j) (decide ((yrs - j) % 2 = 1)) t (k + 1)))), (9, .int (wB (wnI (C.1 18) (w * h) (ctF C w h l) yrs j (sMv t k (sStep (C.1 18 k)))))), (8, .int (nI (k))), (6, .int (nI (t))), (5, .int (wB (decide ((yrs - j) % 2 = 1)))), (4, .int (nI (yrs - j) - 1)), (0, wm_r G (96)), (1, .int (nI (l))), (2, .int (nI (fr))), (3, .int (nI (yrs)))] dX10_layMakes_156 (by decide) rfl ?_
                                    refine wa_iinc ((nI (k + 1))) [(8, .int (nI (k + 1))), (7, .int (wB (wnP (C.1 18) (wnI (C.1 18) (w * h) (ctF C w h l) yrs j) (decide ((yrs - j) % 2 = 1)) t (k + 1)))), (9, .int (wB (wnI (C.1 18) (w * h) (ctF C w h l) yrs j (sMv t k (sStep (C.1 18 k)))))), (6, .int (nI (t))), (5, .int (wB (decide ((yrs - j) % 2 = 1)))), (4, .int (nI (yrs - j) - 1)), (0, wm_r G (96)), (1, .int (nI (l))), (2, .int (nI (fr))), (3, .int (nI (yrs)))] dX10_layMakes_158 2 rfl (nI_inc _) (by decide) rfl ?_
                                    refine wa_goto 85 dX10_layMakes_161 (by decide) ?_
                                    refine wa_sub [0, 1, 3, 4, 5, 6, 7, 8, 9] rfl ?_
                                    first | rw [← hwf] | skip
                                    exact ih_85 (k + 1) (by omega) (by omega)
                                  · refine wa_iconst (1) dX10_layMakes_133 (by decide) ?_
                                    refine wa_goto 156 dX10_layMakes_134 (by decide) ?_
                                    refine wa_eqi (y := (wB (wnP (C.1 18) (wnI (C.1 18) (w * h) (ctF C w h l) yrs j) (decide ((yrs - j) % 2 = 1)) t (k + 1)))) (by rw [wnP_mv c_100]; first | (rw [c_125, c_120]; rfl) | (rw [c_125, c_130, c_120]; rfl) | (rw [c_143, c_120]; rfl) | (rw [c_143, c_148, c_120]; rfl)) ?_
                                    refine wa_istore [(7, .int (wB (wnP (C.1 18) (wnI (C.1 18) (w * h) (ctF C w h l) yrs j) (decide ((yrs - j) % 2 = 1)) t (k + 1)))), (9, .int (wB (wnI (C.1 18) (w * h) (ctF C w h l) yrs j (sMv t k (sStep (C.1 18 k)))))), (8, .int (nI (k))), (6, .int (nI (t))), (5, .int (wB (decide ((yrs - j) % 2 = 1)))), (4, .int (nI (yrs - j) - 1)), (0, wm_r G (96)), (1, .int (nI (l))), (2, .int (nI (fr))), (3, .int (nI (yrs)))] dX10_layMakes_156 (by decide) rfl ?_
                                    refine wa_iinc ((nI (k + 1))) [(8, .int (nI (k + 1))), (7, .int (wB (wnP (C.1 18) (wnI (C.1 18) (w * h) (ctF C w h l) yrs j) (decide ((yrs - j) % 2 = 1)) t (k + 1)))), (9, .int (wB (wnI (C.1 18) (w * h) (ctF C w h l) yrs j (sMv t k (sStep (C.1 18 k)))))), (6, .int (nI (t))), (5, .int (wB (decide ((yrs - j) % 2 = 1)))), (4, .int (nI (yrs - j) - 1)), (0, wm_r G (96)), (1, .int (nI (l))), (2, .int (nI (fr))), (3, .int (nI (yrs)))] dX10_layMakes_158 2 rfl (nI_inc _) (by decide) rfl ?_
                                    refine wa_goto 85 dX10_layMakes_161 (by decide) ?_
                                    refine wa_sub [0, 1, 3, 4, 5, 6, 7, 8, 9] rfl ?_
                                    first | rw [← hwf] | skip
                                    exact ih_85 (k + 1) (by omega) (by omega)
                      exact L_85 _ 0 (Nat.lt_succ_self _) (Nat.zero_le _)
                refine wa_eqm (M' := wIa N (wm_dt 2 (!b1)) (wTo (fun t => wB (wnB (C.1 18) (w * h) (wnI (C.1 18) (w * h) (ctF C w h l) yrs j) (decide ((yrs - j) % 2 = 1)) t)) (N.1 (wm_dt 2 (!b1))) (0))) (wTo_start rfl) ?_
                exact L_64 _ 0 (Nat.lt_succ_self _) (Nat.zero_le _)
              · refine wa_iconst (1) dX10_layMakes_54 (by decide) ?_
                refine wa_goto 59 dX10_layMakes_55 (by decide) ?_
                refine wa_eqi (y := (wB (decide ((yrs - j) % 2 = 1)))) (by first | (rw [decide_eq_true (show (yrs - j) % 2 = 1 by omega)]; rfl) | (rw [decide_eq_false (show ¬ (yrs - j) % 2 = 1 by omega)]; rfl)) ?_
                refine wa_istore [(5, .int (wB (decide ((yrs - j) % 2 = 1)))), (4, .int (nI (yrs - j) - 1)), (0, wm_r G (96)), (1, .int (nI (l))), (2, .int (nI (fr))), (3, .int (nI (yrs)))] dX10_layMakes_59 (by decide) rfl ?_
                refine wa_iconst (0) dX10_layMakes_61 (by decide) ?_
                refine wa_istore [(6, .int (0)), (5, .int (wB (decide ((yrs - j) % 2 = 1)))), (4, .int (nI (yrs - j) - 1)), (0, wm_r G (96)), (1, .int (nI (l))), (2, .int (nI (fr))), (3, .int (nI (yrs)))] dX10_layMakes_62 (by decide) rfl ?_
                have L_64 : ∀ (n_ : Nat) (t : Nat), (4 ^ (w * h) - t) < n_ → (t ≤ 4 ^ (w * h)) → WA G t_X10_layMakes (fun v N => v = none ∧ FrK M N ∧ N.2.2 3 = !N.2.2 2 ∧ ∀ t, t < 4 ^ (w * h) → N.1 (wm_dt 2 (N.2.2 2)) t = wB (wnI (C.1 18) (w * h) (ctF C w h l) yrs (yrs - fr) t)) 64 [(6, .int (nI (t))), (5, .int (wB (decide ((yrs - j) % 2 = 1)))), (4, .int (nI (yrs - j) - 1)), (0, wm_r G (96)), (1, .int (nI (l))), (2, .int (nI (fr))), (3, .int (nI (yrs)))] [] (wIa N (wm_dt 2 (!b1)) (wTo (fun t => wB (wnB (C.1 18) (w * h) (wnI (C.1 18) (w * h) (ctF C w h l) yrs j) (decide ((yrs - j) % 2 = 1)) t)) (N.1 (wm_dt 2 (!b1))) (t))) := by
                  intro n_
                  induction n_ with
                  | zero => intro t h_; exact absurd h_ (Nat.not_lt_zero _)
                  | succ n_ ih_64 =>
                    intro t h_ ht
                    refine wa_iload dX10_layMakes_64 0 rfl ?_
                    refine wa_aload_n dX10_layMakes_66 rfl 3 rfl ?_
                    refine wa_cVi (x_stateMany (w * h) hn6 (by rw [FrK.I.1 96 (by decide) (by decide)]; exact h12N)) vX10_stateMany iX10_layMakes_67 (rfl) rfl rfl rfl (Nat.le_of_ble_eq_true rfl) ⟨by decide, by decide⟩ ?_
                    refine wa_icmp_geN (a := t) (b := 4 ^ (w * h)) 179 dX10_layMakes_70 (by decide) (by omega) (by omega) (fun c_70 => ?_) (fun c_70 => ?_)
                    · refine wa_aload_n dX10_layMakes_179 rfl 3 rfl ?_
                      refine wa_getd gX10_layMakes_180 (rfl) rfl ?_
                      rw [show wm_dt 2 ((wIa N (wm_dt 2 (!b1)) (wTo (fun t => wB (wnB (C.1 18) (w * h) (wnI (C.1 18) (w * h) (ctF C w h l) yrs j) (decide ((yrs - j) % 2 = 1)) t)) (N.1 (wm_dt 2 (!b1))) (t))).2.2 2) = wm_dt 2 b1 from by rw [show (wIa N (wm_dt 2 (!b1)) (wTo (fun t => wB (wnB (C.1 18) (w * h) (wnI (C.1 18) (w * h) (ctF C w h l) yrs j) (decide ((yrs - j) % 2 = 1)) t)) (N.1 (wm_dt 2 (!b1))) (t))).2.2 2 = b1 from hb2]]
                      refine wa_astore [(6, wm_r G (wm_dt 2 b1)), (5, .int (wB (decide ((yrs - j) % 2 = 1)))), (4, .int (nI (yrs - j) - 1)), (0, wm_r G (96)), (1, .int (nI (l))), (2, .int (nI (fr))), (3, .int (nI (yrs)))] dX10_layMakes_183 (by decide) rfl ?_
                      refine wa_aload_n dX10_layMakes_185 rfl 3 rfl ?_
                      refine wa_aload_n dX10_layMakes_186 rfl 3 rfl ?_
                      refine wa_getd gX10_layMakes_187 (rfl) rfl ?_
                      rw [show wm_dt 3 ((wIa N (wm_dt 2 (!b1)) (wTo (fun t => wB (wnB (C.1 18) (w * h) (wnI (C.1 18) (w * h) (ctF C w h l) yrs j) (decide ((yrs - j) % 2 = 1)) t)) (N.1 (wm_dt 2 (!b1))) (t))).2.2 3) = wm_dt 2 (!b1) from by rw [show (wIa N (wm_dt 2 (!b1)) (wTo (fun t => wB (wnB (C.1 18) (w * h) (wnI (C.1 18) (w * h) (ctF C w h l) yrs j) (decide ((yrs - j) % 2 = 1)) t)) (N.1 (wm_dt 2 (!b1))) (t))).2.2 3 = !b1 from hb3]; rfl]
                      refine wa_putd (!b1) gX10_layMakes_190 (rfl) rfl (rfl) ⟨_, rfl⟩ ?_
                      refine wa_aload_n dX10_layMakes_193 rfl 3 rfl ?_
                      refine wa_aload dX10_layMakes_194 0 rfl ?_
                      refine wa_putd (b1) gX10_layMakes_196 (rfl) rfl (rfl) ⟨_, rfl⟩ ?_
                      refine wa_iinc ((nI (yrs - (j + 1)) - 1)) [(4, .int (nI (yrs - (j + 1)) - 1)), (6, wm_r G (wm_dt 2 b1)), (5, .int (wB (decide ((yrs - j) % 2 = 1)))), (0, wm_r G (96)), (1, .int (nI (l))), (2, .int (nI (fr))), (3, .int (nI (yrs)))] dX10_layMakes_199 2 rfl ((m1_dec (by omega)).trans (by rw [show yrs - j - 1 = yrs - (j + 1) by omega])) (by decide) rfl ?_
                      refine wa_goto 41 dX10_layMakes_202 (by decide) ?_
                      refine wa_sub [0, 3, 4, 5, 6] rfl ?_
                      exact ih_41 (j + 1) _ (!b1) (by omega) (by omega) (((hF.tr FrK.I).tr (FrK.D (by decide))).tr (FrK.D (by decide))) (by rw [wD_n (by decide), wD_s]) (by rw [wD_s, Bool.not_not]) (fun t2 h2 => by show (wIa N _ _).1 (wm_dt 2 (!b1)) t2 = _; rw [wIa_s, wTo_in (by omega)]; rfl)
                    · refine wa_aload_n dX10_layMakes_73 rfl 3 rfl ?_
                      refine wa_getd gX10_layMakes_74 (rfl) rfl ?_
                      rw [show wm_dt 2 ((wIa N (wm_dt 2 (!b1)) (wTo (fun t => wB (wnB (C.1 18) (w * h) (wnI (C.1 18) (w * h) (ctF C w h l) yrs j) (decide ((yrs - j) % 2 = 1)) t)) (N.1 (wm_dt 2 (!b1))) (t))).2.2 2) = wm_dt 2 b1 from by rw [show (wIa N (wm_dt 2 (!b1)) (wTo (fun t => wB (wnB (C.1 18) (w * h) (wnI (C.1 18) (w * h) (ctF C w h l) yrs j) (decide ((yrs - j) % 2 = 1)) t)) (N.1 (wm_dt 2 (!b1))) (t))).2.2 2 = b1 from hb2]]
                      refine wa_iload dX10_layMakes_77 0 rfl ?_
                      refine wa_zaldN (e := t) dX10_layMakes_79 (dt2_sh b1) (by omega) (by omega) ?_
                      refine wa_eqi (y := (wB (wnI (C.1 18) (w * h) (ctF C w h l) yrs j t))) (by rw [wIa_n (dt2_ne b1)]; exact hmk t (by omega)) ?_
                      refine wa_eqi (y := (wB (wnP (C.1 18) (wnI (C.1 18) (w * h) (ctF C w h l) yrs j) (decide ((yrs - j) % 2 = 1)) t 0))) (congrArg wB (wnP_0 _ _ _ _).symm) ?_
                      refine wa_istore [(7, .int (wB (wnP (C.1 18) (wnI (C.1 18) (w * h) (ctF C w h l) yrs j) (decide ((yrs - j) % 2 = 1)) t 0))), (6, .int (nI (t))), (5, .int (wB (decide ((yrs - j) % 2 = 1)))), (4, .int (nI (yrs - j) - 1)), (0, wm_r G (96)), (1, .int (nI (l))), (2, .int (nI (fr))), (3, .int (nI (yrs)))] dX10_layMakes_80 (by decide) rfl ?_
                      refine wa_iconst (0) dX10_layMakes_82 (by decide) ?_
                      refine wa_istore [(8, .int (0)), (7, .int (wB (wnP (C.1 18) (wnI (C.1 18) (w * h) (ctF C w h l) yrs j) (decide ((yrs - j) % 2 = 1)) t 0))), (6, .int (nI (t))), (5, .int (wB (decide ((yrs - j) % 2 = 1)))), (4, .int (nI (yrs - j) - 1)), (0, wm_r G (96)), (1, .int (nI (l))), (2, .int (nI (fr))), (3, .int (nI (yrs)))] dX10_layMakes_83 (by decide) rfl ?_
                      have L_85 : ∀ (n_ : Nat) (k : Nat), (w * h - k) < n_ → (k ≤ w * h) → WA G t_X10_layMakes (fun v N => v = none ∧ FrK M N ∧ N.2.2 3 = !N.2.2 2 ∧ ∀ t, t < 4 ^ (w * h) → N.1 (wm_dt 2 (N.2.2 2)) t = wB (wnI (C.1 18) (w * h) (ctF C w h l) yrs (yrs - fr) t)) 85 [(8, .int (nI (k))), (7, .int (wB (wnP (C.1 18) (wnI (C.1 18) (w * h) (ctF C w h l) yrs j) (decide ((yrs - j) % 2 = 1)) t k))), (6, .int (nI (t))), (5, .int (wB (decide ((yrs - j) % 2 = 1)))), (4, .int (nI (yrs - j) - 1)), (0, wm_r G (96)), (1, .int (nI (l))), (2, .int (nI (fr))), (3, .int (nI (yrs)))] [] (wIa N (wm_dt 2 (!b1)) (wTo (fun t => wB (wnB (C.1 18) (w * h) (wnI (C.1 18) (w * h) (ctF C w h l) yrs j) (decide ((yrs - j) % 2 = 1)) t)) (N.1 (wm_dt 2 (!b1))) (t))) := by
                        intro n_
                        induction n_ with
                        | zero => intro k h_; exact absurd h_ (Nat.not_lt_zero _)
                        | succ n_ ih_85 =>
                          intro k h_ hk
                          refine wa_iload dX10_layMakes_85 0 rfl ?_
                          refine wa_aload_n dX10_layMakes_87 rfl 5 rfl ?_
                          refine wa_geti gX10_layMakes_88 (rfl) rfl ?_
                          refine wa_eqi (y := (nI (w * h))) (by rw [FrK.I.1 96 (by decide) (by decide)]; exact h12N) ?_
                          refine wa_icmp_geN (a := k) (b := w * h) 164 dX10_layMakes_91 (by decide) (by omega) (by omega) (fun c_91 => ?_) (fun c_91 => ?_)
                          · refine wa_aload_n dX10_layMakes_164 rfl 5 rfl ?_
                            refine wa_getd gX10_layMakes_165 (rfl) rfl ?_
                            rw [show wm_dt 3 ((wIa N (wm_dt 2 (!b1)) (wTo (fun t => wB (wnB (C.1 18) (w * h) (wnI (C.1 18) (w * h) (ctF C w h l) yrs j) (decide ((yrs - j) % 2 = 1)) t)) (N.1 (wm_dt 2 (!b1))) (t))).2.2 3) = wm_dt 2 (!b1) from by rw [show (wIa N (wm_dt 2 (!b1)) (wTo (fun t => wB (wnB (C.1 18) (w * h) (wnI (C.1 18) (w * h) (ctF C w h l) yrs j) (decide ((yrs - j) % 2 = 1)) t)) (N.1 (wm_dt 2 (!b1))) (t))).2.2 3 = !b1 from hb3]; rfl]
                            refine wa_iload dX10_layMakes_168 2 rfl ?_
                            refine wa_iload dX10_layMakes_170 1 rfl ?_
                            refine wa_zastN (e := t) dX10_layMakes_172 (dt2_sh (!b1)) (by omega) (by omega) ?_
                            refine wa_eqm (M' := wIa N (wm_dt 2 (!b1)) (wTo (fun t => wB (wnB (C.1 18) (w * h) (wnI (C.1 18) (w * h) (ctF C w h l) yrs j) (decide ((yrs - j) % 2 = 1)) t)) (N.1 (wm_dt 2 (!b1))) (t + 1))) (by rw [nar_z]; exact wI_wIa.trans (congrArg (wIa N (wm_dt 2 (!b1))) (wTo_s (f := fun t => wB (wnB (C.1 18) (w * h) (wnI (C.1 18) (w * h) (ctF C w h l) yrs j) (decide ((yrs - j) % 2 = 1)) t)) (by rw [show k = w * h by omega]; rfl)))) ?_
                            refine wa_iinc ((nI (t + 1))) [(6, .int (nI (t + 1))), (8, .int (nI (k))), (7, .int (wB (wnP (C.1 18) (wnI (C.1 18) (w * h) (ctF C w h l) yrs j) (decide ((yrs - j) % 2 = 1)) t k))), (5, .int (wB (decide ((yrs - j) % 2 = 1)))), (4, .int (nI (yrs - j) - 1)), (0, wm_r G (96)), (1, .int (nI (l))), (2, .int (nI (fr))), (3, .int (nI (yrs)))] dX10_layMakes_173 2 rfl (nI_inc _) (by decide) rfl ?_
                            refine wa_goto 64 dX10_layMakes_176 (by decide) ?_
                            refine wa_sub [0, 3, 4, 5, 6, 7, 8] rfl ?_
                            exact ih_64 (t + 1) (by omega) (by omega)
                          · refine wa_aload_n dX10_layMakes_94 rfl 5 rfl ?_
                            refine wa_iload dX10_layMakes_95 0 rfl ?_
                            refine wa_cVi (x_isFixed C w h (FrK.I.stn hXN) hW k (by omega)) vX10_isFixed iX10_layMakes_97 (rfl) rfl rfl rfl (Nat.le_of_ble_eq_true rfl) ⟨by decide, by decide⟩ ?_
                            refine wa_if_neB 158 dX10_layMakes_100 (by decide) (fun (c_100 : (sFix (C.1 18 k)) = true) => ?_) (fun (c_100 : (sFix (C.1 18 k)) = false) => ?_)
                            · have hwf := wnP_fix (f := wnI (C.1 18) (w * h) (ctF C w h l) yrs j) (first := decide ((yrs - j) % 2 = 1)) (t := t) c_100
                              refine wa_iinc ((nI (k + 1))) [(8, .int (nI (k + 1))), (7, .int (wB (wnP (C.1 18) (wnI (C.1 18) (w * h) (ctF C w h l) yrs j) (decide ((yrs - j) % 2 = 1)) t k))), (6, .int (nI (t))), (5, .int (wB (decide ((yrs - j) % 2 = 1)))), (4, .int (nI (yrs - j) - 1)), (0, wm_r G (96)), (1, .int (nI (l))), (2, .int (nI (fr))), (3, .int (nI (yrs)))] dX10_layMakes_158 0 rfl (nI_inc _) (by decide) rfl ?_
                              refine wa_goto 85 dX10_layMakes_161 (by decide) ?_
                              first | rw [← hwf] | skip
                              exact ih_85 (k + 1) (by omega) (by omega)
                            · refine wa_aload_n dX10_layMakes_103 rfl 5 rfl ?_
                              refine wa_getd gX10_layMakes_104 (rfl) rfl ?_
                              rw [show wm_dt 2 ((wIa N (wm_dt 2 (!b1)) (wTo (fun t => wB (wnB (C.1 18) (w * h) (wnI (C.1 18) (w * h) (ctF C w h l) yrs j) (decide ((yrs - j) % 2 = 1)) t)) (N.1 (wm_dt 2 (!b1))) (t))).2.2 2) = wm_dt 2 b1 from by rw [show (wIa N (wm_dt 2 (!b1)) (wTo (fun t => wB (wnB (C.1 18) (w * h) (wnI (C.1 18) (w * h) (ctF C w h l) yrs j) (decide ((yrs - j) % 2 = 1)) t)) (N.1 (wm_dt 2 (!b1))) (t))).2.2 2 = b1 from hb2]]
                              refine wa_aload_n dX10_layMakes_107 rfl 5 rfl ?_
                              refine wa_iload dX10_layMakes_108 2 rfl ?_
                              refine wa_iload dX10_layMakes_110 0 rfl ?_
                              refine wa_cVi (x_turnedOf C w h (FrK.I.stn hXN) hW t (by omega) k (by omega)) vX10_turnedOf iX10_layMakes_112 (rfl) rfl rfl rfl (Nat.le_of_ble_eq_true rfl) ⟨by decide, by decide⟩ ?_
                              refine wa_eqi (y := (nI (sMv t k (sStep (C.1 18 k))))) (by rw [st_of c_100]) ?_
                              have hmv := sMv_lt (m := sStep (C.1 18 k)) (show t < 4 ^ (w * h) by omega) (show k < w * h by omega)
                              refine wa_zaldN (e := sMv t k (sStep (C.1 18 k))) dX10_layMakes_115 (dt2_sh b1) (by omega) (by omega) ?_
                              refine wa_eqi (y := (wB (wnI (C.1 18) (w * h) (ctF C w h l) yrs j (sMv t k (sStep (C.1 18 k)))))) (by rw [wIa_n (dt2_ne b1)]; exact hmk _ hmv) ?_
                              refine wa_istore [(9, .int (wB (wnI (C.1 18) (w * h) (ctF C w h l) yrs j (sMv t k (sStep (C.1 18 k)))))), (8, .int (nI (k))), (7, .int (wB (wnP (C.1 18) (wnI (C.1 18) (w * h) (ctF C w h l) yrs j) (decide ((yrs - j) % 2 = 1)) t k))), (6, .int (nI (t))), (5, .int (wB (decide ((yrs - j) % 2 = 1)))), (4, .int (nI (yrs - j) - 1)), (0, wm_r G (96)), (1, .int (nI (l))), (2, .int (nI (fr))), (3, .int (nI (yrs)))] dX10_layMakes_116 (by decide) rfl ?_
                              refine wa_iload dX10_layMakes_118 4 rfl ?_
                              refine wa_if_eqB 141 dX10_layMakes_120 (by decide) (fun (c_120 : (decide ((yrs - j) % 2 = 1)) = false) => ?_) (fun (c_120 : (decide ((yrs - j) % 2 = 1)) = true) => ?_)
                              · refine wa_iload dX10_layMakes_141 2 rfl ?_
                                refine wa_if_eqB 155 dX10_layMakes_143 (by decide) (fun (c_143 : (wnP (C.1 18) (wnI (C.1 18) (w * h) (ctF C w h l) yrs j) (decide ((yrs - j) % 2 = 1)) t k) = false) => ?_) (fun (c_143 : (wnP (C.1 18) (wnI (C.1 18) (w * h) (ctF C w h l) yrs j) (decide ((yrs - j) % 2 = 1)) t k) = true) => ?_)
                                · refine wa_iconst (0) dX10_layMakes_155 (by decide) ?_
                                  refine wa_eqi (y := (wB (wnP (C.1 18) (wnI (C.1 18) (w * h) (ctF C w h l) yrs j) (decide ((yrs - j) % 2 = 1)) t (k + 1)))) (by rw [wnP_mv c_100]; first | (rw [c_125, c_120]; rfl) | (rw [c_125, c_130, c_120]; rfl) | (rw [c_143, c_120]; rfl) | (rw [c_143, c_148, c_120]; rfl)) ?_
                                  refine wa_istore [(7, .int (wB (wnP (C.1 18) (wnI (C.1 18) (w * h) (ctF C w h l) yrs j) (decide ((yrs - j) % 2 = 1)) t (k + 1)))), (9, .int (wB (wnI (C.1 18) (w * h) (ctF C w h l) yrs j (sMv t k (sStep (C.1 18 k)))))), (8, .int (nI (k))), (6, .int (nI (t))), (5, .int (wB (decide ((yrs - j) % 2 = 1)))), (4, .int (nI (yrs - j) - 1)), (0, wm_r G (96)), (1, .int (nI (l))), (2, .int (nI (fr))), (3, .int (nI (yrs)))] dX10_layMakes_156 (by decide) rfl ?_
                                  refine wa_iinc ((nI (k + 1))) [(8, .int (nI (k + 1))), (7, .int (wB (wnP (C.1 18) (wnI (C.1 18) (w * h) (ctF C w h l) yrs j) (decide ((yrs - j) % 2 = 1)) t (k + 1)))), (9, .int (wB (wnI (C.1 18) (w * h) (ctF C w h l) yrs j (sMv t k (sStep (C.1 18 k)))))), (6, .int (nI (t))), (5, .int (wB (decide ((yrs - j) % 2 = 1)))), (4, .int (nI (yrs - j) - 1)), (0, wm_r G (96)), (1, .int (nI (l))), (2, .int (nI (fr))), (3, .int (nI (yrs)))] dX10_layMakes_158 2 rfl (nI_inc _) (by decide) rfl ?_
                                  refine wa_goto 85 dX10_layMakes_161 (by decide) ?_
                                  refine wa_sub [0, 1, 3, 4, 5, 6, 7, 8, 9] rfl ?_
                                  first | rw [← hwf] | skip
                                  exact ih_85 (k + 1) (by omega) (by omega)
                                · refine wa_iload dX10_layMakes_146 0 rfl ?_
                                  refine wa_if_eqB 155 dX10_layMakes_148 (by decide) (fun (c_148 : (wnI (C.1 18) (w * h) (ctF C w h l) yrs j (sMv t k (sStep (C.1 18 k)))) = false) => ?_) (fun (c_148 : (wnI (C.1 18) (w * h) (ctF C w h l) yrs j (sMv t k (sStep (C.1 18 k)))) = true) => ?_)
                                  · refine wa_iconst (0) dX10_layMakes_155 (by decide) ?_
                                    refine wa_eqi (y := (wB (wnP (C.1 18) (wnI (C.1 18) (w * h) (ctF C w h l) yrs j) (decide ((yrs - j) % 2 = 1)) t (k + 1)))) (by rw [wnP_mv c_100]; first | (rw [c_125, c_120]; rfl) | (rw [c_125, c_130, c_120]; rfl) | (rw [c_143, c_120]; rfl) | (rw [c_143, c_148, c_120]; rfl)) ?_
                                    refine wa_istore [(7, .int (wB (wnP (C.1 18) (wnI (C.1 18) (w * h) (ctF C w h l) yrs j) (decide ((yrs - j) % 2 = 1)) t (k + 1)))), (9, .int (wB (wnI (C.1 18) (w * h) (ctF C w h l) yrs j (sMv t k (sStep (C.1 18 k)))))), (8, .int (nI (k))), (6, .int (nI (t))), (5, .int (wB (decide ((yrs - j) % 2 = 1)))), (4, .int (nI (yrs - j) - 1)), (0, wm_r G (96)), (1, .int (nI (l))), (2, .int (nI (fr))), (3, .int (nI (yrs)))] dX10_layMakes_156 (by decide) rfl ?_
                                    refine wa_iinc ((nI (k + 1))) [(8, .int (nI (k + 1))), (7, .int (wB (wnP (C.1 18) (wnI (C.1 18) (w * h) (ctF C w h l) yrs j) (decide ((yrs - j) % 2 = 1)) t (k + 1)))), (9, .int (wB (wnI (C.1 18) (w * h) (ctF C w h l) yrs j (sMv t k (sStep (C.1 18 k)))))), (6, .int (nI (t))), (5, .int (wB (decide ((yrs - j) % 2 = 1)))), (4, .int (nI (yrs - j) - 1)), (0, wm_r G (96)), (1, .int (nI (l))), (2, .int (nI (fr))), (3, .int (nI (yrs)))] dX10_layMakes_158 2 rfl (nI_inc _) (by decide) rfl ?_
                                    refine wa_goto 85 dX10_layMakes_161 (by decide) ?_
                                    refine wa_sub [0, 1, 3, 4, 5, 6, 7, 8, 9] rfl ?_
                                    first | rw [← hwf] | skip
                                    exact ih_85 (k + 1) (by omega) (by omega)
                                  · refine wa_iconst (1) dX10_layMakes_151 (by decide) ?_
                                    refine wa_goto 156 dX10_layMakes_152 (by decide) ?_
                                    refine wa_eqi (y := (wB (wnP (C.1 18) (wnI (C.1 18) (w * h) (ctF C w h l) yrs j) (decide ((yrs - j) % 2 = 1)) t (k + 1)))) (by rw [wnP_mv c_100]; first | (rw [c_125, c_120]; rfl) | (rw [c_125, c_130, c_120]; rfl) | (rw [c_143, c_120]; rfl) | (rw [c_143, c_148, c_120]; rfl)) ?_
                                    refine wa_istore [(7, .int (wB (wnP (C.1 18) (wnI (C.1 18) (w * h) (ctF C w h l) yrs j) (decide ((yrs - j) % 2 = 1)) t (k + 1)))), (9, .int (wB (wnI (C.1 18) (w * h) (ctF C w h l) yrs j (sMv t k (sStep (C.1 18 k)))))), (8, .int (nI (k))), (6, .int (nI (t))), (5, .int (wB (decide ((yrs - j) % 2 = 1)))), (4, .int (nI (yrs - j) - 1)), (0, wm_r G (96)), (1, .int (nI (l))), (2, .int (nI (fr))), (3, .int (nI (yrs)))] dX10_layMakes_156 (by decide) rfl ?_
                                    refine wa_iinc ((nI (k + 1))) [(8, .int (nI (k + 1))), (7, .int (wB (wnP (C.1 18) (wnI (C.1 18) (w * h) (ctF C w h l) yrs j) (decide ((yrs - j) % 2 = 1)) t (k + 1)))), (9, .int (wB (wnI (C.1 18) (w * h) (ctF C w h l) yrs j (sMv t k (sStep (C.1 18 k)))))), (6, .int (nI (t))), (5, .int (wB (decide ((yrs - j) % 2 = 1)))), (4, .int (nI (yrs - j) - 1)), (0, wm_r G (96)), (1, .int (nI (l))), (2, .int (nI (fr))), (3, .int (nI (yrs)))] dX10_layMakes_158 2 rfl (nI_inc _) (by decide) rfl ?_
                                    refine wa_goto 85 dX10_layMakes_161 (by decide) ?_
                                    refine wa_sub [0, 1, 3, 4, 5, 6, 7, 8, 9] rfl ?_
                                    first | rw [← hwf] | skip
                                    exact ih_85 (k + 1) (by omega) (by omega)
                              · refine wa_iload dX10_layMakes_123 2 rfl ?_
                                refine wa_if_neB 133 dX10_layMakes_125 (by decide) (fun (c_125 : (wnP (C.1 18) (wnI (C.1 18) (w * h) (ctF C w h l) yrs j) (decide ((yrs - j) % 2 = 1)) t k) = true) => ?_) (fun (c_125 : (wnP (C.1 18) (wnI (C.1 18) (w * h) (ctF C w h l) yrs j) (decide ((yrs - j) % 2 = 1)) t k) = false) => ?_)
                                · refine wa_iconst (1) dX10_layMakes_133 (by decide) ?_
                                  refine wa_goto 156 dX10_layMakes_134 (by decide) ?_
                                  refine wa_eqi (y := (wB (wnP (C.1 18) (wnI (C.1 18) (w * h) (ctF C w h l) yrs j) (decide ((yrs - j) % 2 = 1)) t (k + 1)))) (by rw [wnP_mv c_100]; first | (rw [c_125, c_120]; rfl) | (rw [c_125, c_130, c_120]; rfl) | (rw [c_143, c_120]; rfl) | (rw [c_143, c_148, c_120]; rfl)) ?_
                                  refine wa_istore [(7, .int (wB (wnP (C.1 18) (wnI (C.1 18) (w * h) (ctF C w h l) yrs j) (decide ((yrs - j) % 2 = 1)) t (k + 1)))), (9, .int (wB (wnI (C.1 18) (w * h) (ctF C w h l) yrs j (sMv t k (sStep (C.1 18 k)))))), (8, .int (nI (k))), (6, .int (nI (t))), (5, .int (wB (decide ((yrs - j) % 2 = 1)))), (4, .int (nI (yrs - j) - 1)), (0, wm_r G (96)), (1, .int (nI (l))), (2, .int (nI (fr))), (3, .int (nI (yrs)))] dX10_layMakes_156 (by decide) rfl ?_
                                  refine wa_iinc ((nI (k + 1))) [(8, .int (nI (k + 1))), (7, .int (wB (wnP (C.1 18) (wnI (C.1 18) (w * h) (ctF C w h l) yrs j) (decide ((yrs - j) % 2 = 1)) t (k + 1)))), (9, .int (wB (wnI (C.1 18) (w * h) (ctF C w h l) yrs j (sMv t k (sStep (C.1 18 k)))))), (6, .int (nI (t))), (5, .int (wB (decide ((yrs - j) % 2 = 1)))), (4, .int (nI (yrs - j) - 1)), (0, wm_r G (96)), (1, .int (nI (l))), (2, .int (nI (fr))), (3, .int (nI (yrs)))] dX10_layMakes_158 2 rfl (nI_inc _) (by decide) rfl ?_
                                  refine wa_goto 85 dX10_layMakes_161 (by decide) ?_
                                  refine wa_sub [0, 1, 3, 4, 5, 6, 7, 8, 9] rfl ?_
                                  first | rw [← hwf] | skip
                                  exact ih_85 (k + 1) (by omega) (by omega)
                                · refine wa_iload dX10_layMakes_128 0 rfl ?_
                                  refine wa_if_eqB 137 dX10_layMakes_130 (by decide) (fun (c_130 : (wnI (C.1 18) (w * h) (ctF C w h l) yrs j (sMv t k (sStep (C.1 18 k)))) = false) => ?_) (fun (c_130 : (wnI (C.1 18) (w * h) (ctF C w h l) yrs j (sMv t k (sStep (C.1 18 k)))) = true) => ?_)
                                  · refine wa_iconst (0) dX10_layMakes_137 (by decide) ?_
                                    refine wa_goto 156 dX10_layMakes_138 (by decide) ?_
                                    refine wa_eqi (y := (wB (wnP (C.1 18) (wnI (C.1 18) (w * h) (ctF C w h l) yrs j) (decide ((yrs - j) % 2 = 1)) t (k + 1)))) (by rw [wnP_mv c_100]; first | (rw [c_125, c_120]; rfl) | (rw [c_125, c_130, c_120]; rfl) | (rw [c_143, c_120]; rfl) | (rw [c_143, c_148, c_120]; rfl)) ?_
                                    refine wa_istore [(7, .int (wB (wnP (C.1 18) (wnI (C.1 18) (w * h) (ctF C w h l) yrs j) (decide ((yrs - j) % 2 = 1)) t (k + 1)))), (9, .int (wB (wnI (C.1 18) (w * h) (ctF C w h l) yrs j (sMv t k (sStep (C.1 18 k)))))), (8, .int (nI (k))), (6, .int (nI (t))), (5, .int (wB (decide ((yrs - j) % 2 = 1)))), (4, .int (nI (yrs - j) - 1)), (0, wm_r G (96)), (1, .int (nI (l))), (2, .int (nI (fr))), (3, .int (nI (yrs)))] dX10_layMakes_156 (by decide) rfl ?_
                                    refine wa_iinc ((nI (k + 1))) [(8, .int (nI (k + 1))), (7, .int (wB (wnP (C.1 18) (wnI (C.1 18) (w * h) (ctF C w h l) yrs j) (decide ((yrs - j) % 2 = 1)) t (k + 1)))), (9, .int (wB (wnI (C.1 18) (w * h) (ctF C w h l) yrs j (sMv t k (sStep (C.1 18 k)))))), (6, .int (nI (t))), (5, .int (wB (decide ((yrs - j) % 2 = 1)))), (4, .int (nI (yrs - j) - 1)), (0, wm_r G (96)), (1, .int (nI (l))), (2, .int (nI (fr))), (3, .int (nI (yrs)))] dX10_layMakes_158 2 rfl (nI_inc _) (by decide) rfl ?_
                                    refine wa_goto 85 dX10_layMakes_161 (by decide) ?_
                                    refine wa_sub [0, 1, 3, 4, 5, 6, 7, 8, 9] rfl ?_
                                    first | rw [← hwf] | skip
                                    exact ih_85 (k + 1) (by omega) (by omega)
                                  · refine wa_iconst (1) dX10_layMakes_133 (by decide) ?_
                                    refine wa_goto 156 dX10_layMakes_134 (by decide) ?_
                                    refine wa_eqi (y := (wB (wnP (C.1 18) (wnI (C.1 18) (w * h) (ctF C w h l) yrs j) (decide ((yrs - j) % 2 = 1)) t (k + 1)))) (by rw [wnP_mv c_100]; first | (rw [c_125, c_120]; rfl) | (rw [c_125, c_130, c_120]; rfl) | (rw [c_143, c_120]; rfl) | (rw [c_143, c_148, c_120]; rfl)) ?_
                                    refine wa_istore [(7, .int (wB (wnP (C.1 18) (wnI (C.1 18) (w * h) (ctF C w h l) yrs j) (decide ((yrs - j) % 2 = 1)) t (k + 1)))), (9, .int (wB (wnI (C.1 18) (w * h) (ctF C w h l) yrs j (sMv t k (sStep (C.1 18 k)))))), (8, .int (nI (k))), (6, .int (nI (t))), (5, .int (wB (decide ((yrs - j) % 2 = 1)))), (4, .int (nI (yrs - j) - 1)), (0, wm_r G (96)), (1, .int (nI (l))), (2, .int (nI (fr))), (3, .int (nI (yrs)))] dX10_layMakes_156 (by decide) rfl ?_
                                    refine wa_iinc ((nI (k + 1))) [(8, .int (nI (k + 1))), (7, .int (wB (wnP (C.1 18) (wnI (C.1 18) (w * h) (ctF C w h l) yrs j) (decide ((yrs - j) % 2 = 1)) t (k + 1)))), (9, .int (wB (wnI (C.1 18) (w * h) (ctF C w h l) yrs j (sMv t k (sStep (C.1 18 k)))))), (6, .int (nI (t))), (5, .int (wB (decide ((yrs - j) % 2 = 1)))), (4, .int (nI (yrs - j) - 1)), (0, wm_r G (96)), (1, .int (nI (l))), (2, .int (nI (fr))), (3, .int (nI (yrs)))] dX10_layMakes_158 2 rfl (nI_inc _) (by decide) rfl ?_
                                    refine wa_goto 85 dX10_layMakes_161 (by decide) ?_
                                    refine wa_sub [0, 1, 3, 4, 5, 6, 7, 8, 9] rfl ?_
                                    first | rw [← hwf] | skip
                                    exact ih_85 (k + 1) (by omega) (by omega)
                      exact L_85 _ 0 (Nat.lt_succ_self _) (Nat.zero_le _)
                refine wa_eqm (M' := wIa N (wm_dt 2 (!b1)) (wTo (fun t => wB (wnB (C.1 18) (w * h) (wnI (C.1 18) (w * h) (ctF C w h l) yrs j) (decide ((yrs - j) % 2 = 1)) t)) (N.1 (wm_dt 2 (!b1))) (0))) (wTo_start rfl) ?_
                exact L_64 _ 0 (Nat.lt_succ_self _) (Nat.zero_le _)
        exact L_41 _ 0 _ b (Nat.lt_succ_self _) (Nat.zero_le _) FrK.I hd2 hd3 (fun t2 h2 => by rw [wIa_s, wTo_in (by omega)]; rfl)
      · refine wa_aload_n dX10_layMakes_12 rfl 1 rfl ?_
        refine wa_getd gX10_layMakes_13 (rfl) rfl ?_
        rw [show wm_dt 2 ((wIa M (wm_dt 2 b) (wTo (fun t => wB (ctF C w h l t)) (M.1 (wm_dt 2 b)) (t))).2.2 2) = wm_dt 2 b from by rw [show (wIa M (wm_dt 2 b) (wTo (fun t => wB (ctF C w h l t)) (M.1 (wm_dt 2 b)) (t))).2.2 2 = b from hd2]]
        refine wa_iload dX10_layMakes_16 0 rfl ?_
        refine wa_aload_n dX10_layMakes_18 rfl 1 rfl ?_
        refine wa_getr gX10_layMakes_19 (rfl) rfl ?_
        refine wa_iload dX10_layMakes_22 0 rfl ?_
        refine wa_ialdN (e := t) dX10_layMakes_24 (rfl) (by omega) (by decide) ?_
        refine wa_eqi (y := (nI (stdN C w h t))) (by rw [FrK.I.1 115 (by decide) (by decide)]; exact hst t (by omega)) ?_
        refine wa_iload_n dX10_layMakes_25 rfl 2 rfl ?_
        refine wa_cSi (x_has (stdN C w h t) l (by have := stdN_lt C w h t; omega) (by omega)) vX10_has iX10_layMakes_26 rfl rfl (Nat.le_of_ble_eq_true rfl) ⟨by decide, by decide⟩ ?_
        refine wa_eqi (y := (wB (ctF C w h l t))) (congrArg wB (by unfold stdN; rw [wBits_bit, decide_eq_true hl]; rfl)) ?_
        refine wa_zastN (e := t) dX10_layMakes_29 (dt2_sh b) (by omega) (by omega) ?_
        refine wa_eqm (M' := wIa M (wm_dt 2 b) (wTo (fun t => wB (ctF C w h l t)) (M.1 (wm_dt 2 b)) (t + 1))) (by rw [nar_z]; exact wI_wIa.trans (congrArg (wIa M (wm_dt 2 b)) (wTo_s (f := fun t => wB (ctF C w h l t)) rfl))) ?_
        refine wa_iinc ((nI (t + 1))) [(4, .int (nI (t + 1))), (0, wm_r G (96)), (1, .int (nI (l))), (2, .int (nI (fr))), (3, .int (nI (yrs)))] dX10_layMakes_30 0 rfl (nI_inc _) (by decide) rfl ?_
        refine wa_goto 3 dX10_layMakes_33 (by decide) ?_
        exact ih_3 (t + 1) (by omega) (by omega)
  refine wa_eqm (M' := wIa M (wm_dt 2 b) (wTo (fun t => wB (ctF C w h l t)) (M.1 (wm_dt 2 b)) (0))) (wTo_start rfl) ?_
  exact L_3 _ 0 (Nat.lt_succ_self _) (Nat.zero_le _)

theorem x_cont_bad1 {G : wm_G} {M : wm_M} (l n : Int32) (hl : wIn l 4 = false) : MD G t_X10_contest [wm_r G (96), .int (l), .int (n)] (M) (some (.int (-1))) (M) := by
  refine wm_met (by decide) (Nat.le_of_ble_eq_true rfl) ?_
  show WA G t_X10_contest (fun v_ N_ => v_ = some (.int (-1)) ∧ N_ = M) 0 [(0, wm_r G (96)), (1, .int (l)), (2, .int (n))] [] (M)
  refine wa_iload_n dX10_contest_0 rfl 1 rfl ?_
  refine wa_cSi (x_isLaw l) vX10_isLaw iX10_contest_1 rfl rfl (Nat.le_of_ble_eq_true rfl) ⟨by decide, by decide⟩ ?_
  refine wa_eqi (y := (0)) (by rw [hl]; rfl) ?_
  refine wa_if_eq 17 dX10_contest_4 (by decide) (fun c_4 => ?_) (fun c_4 => absurd c_4 (by decide))
  refine wa_iconst (-1) dX10_contest_17 (by decide) ?_
  exact wa_iret dX10_contest_18 rfl ⟨congrArg (fun z => some (Value.int z)) (rfl), rfl⟩

theorem x_cont_bad2 {G : wm_G} {M : wm_M} (l : Nat) (hl : l < 4) (n : Int32) (hn : wIn n 13 = false) : MD G t_X10_contest [wm_r G (96), .int (nI (l)), .int (n)] (M) (some (.int (-1))) (M) := by
  refine wm_met (by decide) (Nat.le_of_ble_eq_true rfl) ?_
  show WA G t_X10_contest (fun v_ N_ => v_ = some (.int (-1)) ∧ N_ = M) 0 [(0, wm_r G (96)), (1, .int (nI (l))), (2, .int (n))] [] (M)
  refine wa_iload_n dX10_contest_0 rfl 1 rfl ?_
  refine wa_cSi (x_isLaw (nI l)) vX10_isLaw iX10_contest_1 rfl rfl (Nat.le_of_ble_eq_true rfl) ⟨by decide, by decide⟩ ?_
  refine wa_eqi (y := (1)) (by rw [wIn_nI (by omega), decide_eq_true (by omega)]; rfl) ?_
  refine wa_if_eq 17 dX10_contest_4 (by decide) (fun c_4 => absurd c_4 (by decide)) (fun c_4 => ?_)
  refine wa_iload_n dX10_contest_7 rfl 2 rfl ?_
  refine wa_iconst (0) dX10_contest_8 (by decide) ?_
  refine wa_bipush (12) dX10_contest_9 (by decide) ?_
  refine wa_cSi (x_in n 0 12) vX10_in iX10_contest_11 rfl rfl (Nat.le_of_ble_eq_true rfl) ⟨by decide, by decide⟩ ?_
  refine wa_eqi (y := (0)) (by rw [show inC n 0 12 = wIn n 13 from inC_w (m := 12) (by decide) _, hn]; rfl) ?_
  refine wa_if_ne 19 dX10_contest_14 (by decide) (fun c_14 => absurd c_14 (by decide)) (fun c_14 => ?_)
  refine wa_iconst (-1) dX10_contest_17 (by decide) ?_
  exact wa_iret dX10_contest_18 rfl ⟨congrArg (fun z => some (Value.int z)) (rfl), rfl⟩

theorem x_cont_no {G : wm_G} {M : wm_M} (l : Nat) (hl : l < 4) (n : Nat) (hn : n ≤ 12) (hz : M.1 109 l = -1) : MD G t_X10_contest [wm_r G (96), .int (nI (l)), .int (nI (n))] (M) (some (.int (-3))) (xNote M 1) := by
  refine wm_met (by decide) (Nat.le_of_ble_eq_true rfl) ?_
  show WA G t_X10_contest (fun v_ N_ => v_ = some (.int (-3)) ∧ N_ = xNote M 1) 0 [(0, wm_r G (96)), (1, .int (nI (l))), (2, .int (nI (n)))] [] (M)
  refine wa_iload_n dX10_contest_0 rfl 1 rfl ?_
  refine wa_cSi (x_isLaw (nI l)) vX10_isLaw iX10_contest_1 rfl rfl (Nat.le_of_ble_eq_true rfl) ⟨by decide, by decide⟩ ?_
  refine wa_eqi (y := (1)) (by rw [wIn_nI (by omega), decide_eq_true (by omega)]; rfl) ?_
  refine wa_if_eq 17 dX10_contest_4 (by decide) (fun c_4 => absurd c_4 (by decide)) (fun c_4 => ?_)
  refine wa_iload_n dX10_contest_7 rfl 2 rfl ?_
  refine wa_iconst (0) dX10_contest_8 (by decide) ?_
  refine wa_bipush (12) dX10_contest_9 (by decide) ?_
  refine wa_cSi (x_in (nI n) 0 12) vX10_in iX10_contest_11 rfl rfl (Nat.le_of_ble_eq_true rfl) ⟨by decide, by decide⟩ ?_
  refine wa_eqi (y := (1)) (by rw [show inC (nI n) 0 12 = wIn (nI n) 13 from inC_w (m := 12) (by decide) _, wIn_nI (by omega), decide_eq_true (by omega)]; rfl) ?_
  refine wa_if_ne 19 dX10_contest_14 (by decide) (fun c_14 => ?_) (fun c_14 => absurd c_14 (by decide))
  refine wa_aload_n dX10_contest_19 rfl 0 rfl ?_
  refine wa_getr gX10_contest_20 (rfl) rfl ?_
  refine wa_iload_n dX10_contest_23 rfl 1 rfl ?_
  refine wa_ialdN (e := l) dX10_contest_24 (rfl) (by omega) (by decide) ?_
  refine wa_eqi (y := (-1)) (hz) ?_
  refine wa_if_ge 34 dX10_contest_25 (by decide) (fun c_25 => absurd c_25 (by decide)) (fun c_25 => ?_)
  refine wa_aload_n dX10_contest_28 rfl 0 rfl ?_
  refine wa_iconst (1) dX10_contest_29 (by decide) ?_
  refine wa_cVi (x_meets 1 (by decide) (by decide)) vX10_meets iX10_contest_30 (rfl) rfl rfl rfl (Nat.le_of_ble_eq_true rfl) ⟨by decide, by decide⟩ ?_
  exact wa_iret dX10_contest_33 rfl ⟨congrArg (fun z => some (Value.int z)) (rfl), rfl⟩

theorem x_cont_ok {G : wm_G} {M : wm_M} (C : wm_M) (w h s : Nat) (hX : xStn C M w h) (hW : TW C w h) (hXL : xLaw C M) (hCL : cLaw C) (hCS : cStn C (w * h)) (hQ : ∀ k, k < w * h → M.1 107 k = nI (sQ s k)) (hs : s < 4 ^ (w * h)) (hDy : xDyn M) (l : Nat) (hl : l < 4) (zl : Nat) (hzl : M.1 109 l = nI zl) (hzl9 : zl ≤ 3) (n : Nat) (hn : n ≤ 12) : MA G t_X10_contest [wm_r G (96), .int (nI (l)), .int (nI (n))] (M) (fun v N => v = some (.int (wB (ctC C w h l n s))) ∧ ∃ O, FrX M O ∧ N = xTell O (ctO C w h l n s)) := by
  obtain ⟨x10, x11, x12, x103, x104, x105, x106⟩ := id hX
  have hn6 := TW_n hW
  have hw3 := hW.2.2.1
  have hh2 := hW.2.2.2
  have h4 := p4_le hn6
  refine wm_met (by decide) (Nat.le_of_ble_eq_true rfl) ?_
  show WA G t_X10_contest (fun v N => v = some (.int (wB (ctC C w h l n s))) ∧ ∃ O, FrX M O ∧ N = xTell O (ctO C w h l n s)) 0 [(0, wm_r G (96)), (1, .int (nI (l))), (2, .int (nI (n)))] [] (M)
  refine wa_iload_n dX10_contest_0 rfl 1 rfl ?_
  refine wa_cSi (x_isLaw (nI l)) vX10_isLaw iX10_contest_1 rfl rfl (Nat.le_of_ble_eq_true rfl) ⟨by decide, by decide⟩ ?_
  refine wa_eqi (y := (1)) (by rw [wIn_nI (by omega), decide_eq_true (by omega)]; rfl) ?_
  refine wa_if_eq 17 dX10_contest_4 (by decide) (fun c_4 => absurd c_4 (by decide)) (fun c_4 => ?_)
  refine wa_iload_n dX10_contest_7 rfl 2 rfl ?_
  refine wa_iconst (0) dX10_contest_8 (by decide) ?_
  refine wa_bipush (12) dX10_contest_9 (by decide) ?_
  refine wa_cSi (x_in (nI n) 0 12) vX10_in iX10_contest_11 rfl rfl (Nat.le_of_ble_eq_true rfl) ⟨by decide, by decide⟩ ?_
  refine wa_eqi (y := (1)) (by rw [show inC (nI n) 0 12 = wIn (nI n) 13 from inC_w (m := 12) (by decide) _, wIn_nI (by omega), decide_eq_true (by omega)]; rfl) ?_
  refine wa_if_ne 19 dX10_contest_14 (by decide) (fun c_14 => ?_) (fun c_14 => absurd c_14 (by decide))
  refine wa_aload_n dX10_contest_19 rfl 0 rfl ?_
  refine wa_getr gX10_contest_20 (rfl) rfl ?_
  refine wa_iload_n dX10_contest_23 rfl 1 rfl ?_
  refine wa_ialdN (e := l) dX10_contest_24 (rfl) (by omega) (by decide) ?_
  refine wa_eqi (y := (nI (zl))) (hzl) ?_
  refine wa_if_geN (a := zl) 34 dX10_contest_25 (by decide) (by omega) (fun c_25 => ?_) (fun c_25 => absurd c_25 (by omega))
  refine wa_aload_n dX10_contest_34 rfl 0 rfl ?_
  refine wa_iconst (1) dX10_contest_35 (by decide) ?_
  refine wa_eqi (y := (wB (true))) (rfl) ?_
  refine wa_callV (x_layStands C w h hX hW hXL hCL hCS true (fun _ => true) (fun t ht => ⟨fun _ => rfl, fun q => (by cases q)⟩)) vX10_layStands iX10_contest_36 (rfl) rfl rfl rfl (Nat.le_of_ble_eq_true rfl) ⟨by decide, by decide⟩ (fun v_ N1 h_ => ?_)
  obtain ⟨rfl, hF1, hst⟩ := h_
  show WA G t_X10_contest (fun v N => v = some (.int (wB (ctC C w h l n s))) ∧ ∃ O, FrX M O ∧ N = xTell O (ctO C w h l n s)) 39 [(0, wm_r G (96)), (1, .int (nI (l))), (2, .int (nI (n)))] [] (N1)
  have hx1 := hF1.n.stn hX
  have hxx1 : FrX M N1 := hF1.n.x
  have hdy1 : N1.2.2 3 = !N1.2.2 2 := hxx1.2.2.2.2.2 hDy
  refine wa_aload_n dX10_contest_39 rfl 0 rfl ?_
  refine wa_cVi (x_stateNow (M := N1) (w * h) s hn6 (by rw [hF1.1 96 (by decide) (by decide)]; exact x12) (fun k hk => by rw [hF1.1 107 (by decide) (by decide)]; exact hQ k hk) hs) vX10_stateNow iX10_contest_40 (rfl) rfl rfl rfl (Nat.le_of_ble_eq_true rfl) ⟨by decide, by decide⟩ ?_
  refine wa_istore_n [(3, .int (nI (s))), (0, wm_r G (96)), (1, .int (nI (l))), (2, .int (nI (n)))] dX10_contest_43 rfl (by decide) rfl ?_
  refine wa_aload_n dX10_contest_44 rfl 1 rfl ?_
  refine wa_iload_n dX10_contest_45 rfl 2 rfl ?_
  refine wa_iconst (0) dX10_contest_46 (by decide) ?_
  refine wa_iload_n dX10_contest_47 rfl 3 rfl ?_
  refine wa_callV (x_layMakes (M := N1) C w h hx1 hW l 0 n hl (by decide) (Nat.zero_le _) hn (N1.2.2 2) rfl hdy1 (fun t ht => hst t ht rfl)) vX10_layMakes iX10_contest_48 (rfl) rfl rfl rfl (Nat.le_of_ble_eq_true rfl) ⟨by decide, by decide⟩ (fun v_ N2 h_ => ?_)
  obtain ⟨rfl, hF2, hdy2, hmk2⟩ := h_
  show WA G t_X10_contest (fun v N => v = some (.int (wB (ctC C w h l n s))) ∧ ∃ O, FrX M O ∧ N = xTell O (ctO C w h l n s)) 51 [(3, .int (nI (s))), (0, wm_r G (96)), (1, .int (nI (l))), (2, .int (nI (n)))] [] (N2)
  have hxx2 : FrX M N2 := hxx1.tr (hF2.x hdy2)
  refine wa_aload_n dX10_contest_51 rfl 1 rfl ?_
  refine wa_getd gX10_contest_52 (rfl) rfl ?_
  refine wa_iload_n dX10_contest_55 rfl 0 rfl ?_
  refine wa_zaldN (e := s) dX10_contest_56 (dt2_sh _) (by omega) (by omega) ?_
  refine wa_eqi (y := (wB (ctC C w h l n s))) (hmk2 s hs) ?_
  refine wa_istore [(4, .int (wB (ctC C w h l n s))), (3, .int (nI (s))), (0, wm_r G (96)), (1, .int (nI (l))), (2, .int (nI (n)))] dX10_contest_57 (by decide) rfl ?_
  refine wa_bipush (-9) dX10_contest_59 (by decide) ?_
  refine wa_istore [(5, .int (-9)), (4, .int (wB (ctC C w h l n s))), (3, .int (nI (s))), (0, wm_r G (96)), (1, .int (nI (l))), (2, .int (nI (n)))] dX10_contest_61 (by decide) rfl ?_
  refine wa_iload dX10_contest_63 1 rfl ?_
  refine wa_if_eqB 131 dX10_contest_65 (by decide) (fun (c_65 : (ctC C w h l n s) = false) => ?_) (fun (c_65 : (ctC C w h l n s) = true) => ?_)
  · have ho9 : (-9 : Int32) = ctO C w h l n s := by unfold ctO; rw [if_neg (fun q => by rw [c_65] at q; exact absurd q.1 (by decide))]
    refine wa_aload_n dX10_contest_131 rfl 3 rfl ?_
    refine wa_iload dX10_contest_132 0 rfl ?_
    refine wa_eqi (y := (ctO C w h l n s)) (ho9) ?_
    refine wa_iload dX10_contest_134 1 rfl ?_
    refine wa_if_eqB 143 dX10_contest_136 (by decide) (fun (c_136 : (ctC C w h l n s) = false) => ?_) (fun (c_136 : (ctC C w h l n s) = true) => ?_)
    · refine wa_iconst (0) dX10_contest_143 (by decide) ?_
      refine wa_eqi (y := (wB (ctC C w h l n s))) (by rw [show ctC C w h l n s = false from c_136]; rfl) ?_
      refine wa_cVi (x_tells (ctO C w h l n s) (wB (ctC C w h l n s))) vX10_tells iX10_contest_144 (rfl) rfl rfl rfl (Nat.le_of_ble_eq_true rfl) ⟨by decide, by decide⟩ ?_
      refine wa_iret dX10_contest_147 rfl ?_
      exact ⟨rfl, _, (by first | exact hxx3 | exact hxx2), rfl⟩
    · refine wa_iconst (1) dX10_contest_139 (by decide) ?_
      refine wa_eqi (y := (wB (ctC C w h l n s))) (by rw [show ctC C w h l n s = true from c_136]; rfl) ?_
      refine wa_goto 144 dX10_contest_140 (by decide) ?_
      refine wa_cVi (x_tells (ctO C w h l n s) (wB (ctC C w h l n s))) vX10_tells iX10_contest_144 (rfl) rfl rfl rfl (Nat.le_of_ble_eq_true rfl) ⟨by decide, by decide⟩ ?_
      refine wa_iret dX10_contest_147 rfl ?_
      exact ⟨rfl, _, (by first | exact hxx3 | exact hxx2), rfl⟩
  · refine wa_iload_n dX10_contest_68 rfl 5 rfl ?_
    refine wa_if_leN (a := n) 131 dX10_contest_69 (by decide) (by omega) (fun c_69 => ?_) (fun c_69 => ?_)
    · have ho9 : (-9 : Int32) = ctO C w h l n s := by unfold ctO; rw [if_neg (fun q => absurd q.2 (by omega))]
      refine wa_aload_n dX10_contest_131 rfl 3 rfl ?_
      refine wa_iload dX10_contest_132 0 rfl ?_
      refine wa_eqi (y := (ctO C w h l n s)) (ho9) ?_
      refine wa_iload dX10_contest_134 1 rfl ?_
      refine wa_if_eqB 143 dX10_contest_136 (by decide) (fun (c_136 : (ctC C w h l n s) = false) => ?_) (fun (c_136 : (ctC C w h l n s) = true) => ?_)
      · refine wa_iconst (0) dX10_contest_143 (by decide) ?_
        refine wa_eqi (y := (wB (ctC C w h l n s))) (by rw [show ctC C w h l n s = false from c_136]; rfl) ?_
        refine wa_cVi (x_tells (ctO C w h l n s) (wB (ctC C w h l n s))) vX10_tells iX10_contest_144 (rfl) rfl rfl rfl (Nat.le_of_ble_eq_true rfl) ⟨by decide, by decide⟩ ?_
        refine wa_iret dX10_contest_147 rfl ?_
        exact ⟨rfl, _, (by first | exact hxx3 | exact hxx2), rfl⟩
      · refine wa_iconst (1) dX10_contest_139 (by decide) ?_
        refine wa_eqi (y := (wB (ctC C w h l n s))) (by rw [show ctC C w h l n s = true from c_136]; rfl) ?_
        refine wa_goto 144 dX10_contest_140 (by decide) ?_
        refine wa_cVi (x_tells (ctO C w h l n s) (wB (ctC C w h l n s))) vX10_tells iX10_contest_144 (rfl) rfl rfl rfl (Nat.le_of_ble_eq_true rfl) ⟨by decide, by decide⟩ ?_
        refine wa_iret dX10_contest_147 rfl ?_
        exact ⟨rfl, _, (by first | exact hxx3 | exact hxx2), rfl⟩
    · refine wa_aload_n dX10_contest_72 rfl 3 rfl ?_
      refine wa_iload_n dX10_contest_73 rfl 4 rfl ?_
      refine wa_iconst (1) dX10_contest_74 (by decide) ?_
      refine wa_iload_n dX10_contest_75 rfl 5 rfl ?_
      refine wa_callV (x_layMakes (M := N2) C w h (hF2.stn hx1) hW l 1 n hl (by decide) (by omega) hn (N2.2.2 2) rfl hdy2 (fun t ht => by rw [hF2.1 115 (by decide) (by decide)]; exact hst t ht rfl)) vX10_layMakes iX10_contest_76 (rfl) rfl rfl rfl (Nat.le_of_ble_eq_true rfl) ⟨by decide, by decide⟩ (fun v_ N3 h_ => ?_)
      obtain ⟨rfl, hF3, hdy3, hmk3⟩ := h_
      show WA G t_X10_contest (fun v N => v = some (.int (wB (ctC C w h l n s))) ∧ ∃ O, FrX M O ∧ N = xTell O (ctO C w h l n s)) 79 [(5, .int (-9)), (4, .int (wB (ctC C w h l n s))), (3, .int (nI (s))), (0, wm_r G (96)), (1, .int (nI (l))), (2, .int (nI (n)))] [] (N3)
      have hx3 := hF3.stn (hF2.stn hx1)
      have hxx3 : FrX M N3 := hxx2.tr (hF3.x hdy3)
      refine wa_aload_n dX10_contest_79 rfl 3 rfl ?_
      refine wa_geti gX10_contest_80 (rfl) rfl ?_
      refine wa_eqi (y := (nI (w * h))) (hx3.2.2.1) ?_
      refine wa_iconst (1) dX10_contest_83 (by decide) ?_
      refine wa_isub dX10_contest_84 ?_
      refine wa_istore [(6, .int ((nI (w * h)) - (1))), (5, .int (-9)), (4, .int (wB (ctC C w h l n s))), (3, .int (nI (s))), (0, wm_r G (96)), (1, .int (nI (l))), (2, .int (nI (n)))] dX10_contest_85 (by decide) rfl ?_
      have L_87 : ∀ (n_ : Nat) (m : Nat), (m) < n_ → (m ≤ w * h) → WA G t_X10_contest (fun v N => v = some (.int (wB (ctC C w h l n s))) ∧ ∃ O, FrX M O ∧ N = xTell O (ctO C w h l n s)) 87 [(6, .int (nI m - 1)), (5, .int (fdK (ctQ C w h l n s) (w * h) m)), (4, .int (wB (ctC C w h l n s))), (3, .int (nI (s))), (0, wm_r G (96))] [] (N3) := by
        intro n_
        induction n_ with
        | zero => intro m h_; exact absurd h_ (Nat.not_lt_zero _)
        | succ n_ ih_87 =>
          intro m h_ hm
          refine wa_iload dX10_contest_87 0 rfl ?_
          refine wa_if_lt 131 dX10_contest_89 (by decide) (fun c_89 => ?_) (fun c_89 => ?_)
          · have hm0 : m = 0 := (m1_neg (by omega)).mp c_89
            have ho9 : fdK (ctQ C w h l n s) (w * h) m = ctO C w h l n s := by rw [hm0, fdK_0]; unfold ctO; rw [if_pos ⟨c_65, by omega⟩]
            refine wa_aload_n dX10_contest_131 rfl 4 rfl ?_
            refine wa_iload dX10_contest_132 1 rfl ?_
            refine wa_eqi (y := (ctO C w h l n s)) (ho9) ?_
            refine wa_iload dX10_contest_134 2 rfl ?_
            refine wa_if_eqB 143 dX10_contest_136 (by decide) (fun (c_136 : (ctC C w h l n s) = false) => ?_) (fun (c_136 : (ctC C w h l n s) = true) => ?_)
            · refine wa_iconst (0) dX10_contest_143 (by decide) ?_
              refine wa_eqi (y := (wB (ctC C w h l n s))) (by rw [show ctC C w h l n s = false from c_136]; rfl) ?_
              refine wa_cVi (x_tells (ctO C w h l n s) (wB (ctC C w h l n s))) vX10_tells iX10_contest_144 (rfl) rfl rfl rfl (Nat.le_of_ble_eq_true rfl) ⟨by decide, by decide⟩ ?_
              refine wa_iret dX10_contest_147 rfl ?_
              exact ⟨rfl, _, (by first | exact hxx3 | exact hxx2), rfl⟩
            · refine wa_iconst (1) dX10_contest_139 (by decide) ?_
              refine wa_eqi (y := (wB (ctC C w h l n s))) (by rw [show ctC C w h l n s = true from c_136]; rfl) ?_
              refine wa_goto 144 dX10_contest_140 (by decide) ?_
              refine wa_cVi (x_tells (ctO C w h l n s) (wB (ctC C w h l n s))) vX10_tells iX10_contest_144 (rfl) rfl rfl rfl (Nat.le_of_ble_eq_true rfl) ⟨by decide, by decide⟩ ?_
              refine wa_iret dX10_contest_147 rfl ?_
              exact ⟨rfl, _, (by first | exact hxx3 | exact hxx2), rfl⟩
          · have hm1 : 1 ≤ m := by rcases Nat.eq_zero_or_pos m with q | q; (exact absurd ((m1_neg (by omega)).mpr q) c_89); exact q
            refine wa_aload_n dX10_contest_92 rfl 4 rfl ?_
            refine wa_iload dX10_contest_93 0 rfl ?_
            refine wa_eqi (y := (nI (m - 1))) (m1_n hm1) ?_
            refine wa_cVi (x_isFixed C w h hx3 hW (m - 1) (by omega)) vX10_isFixed iX10_contest_95 (rfl) rfl rfl rfl (Nat.le_of_ble_eq_true rfl) ⟨by decide, by decide⟩ ?_
            refine wa_if_neB 121 dX10_contest_98 (by decide) (fun (c_98 : (sFix (C.1 18 (m - 1))) = true) => ?_) (fun (c_98 : (sFix (C.1 18 (m - 1))) = false) => ?_)
            · have hq0 : ctQ C w h l n s (m - 1) = false := by unfold ctQ; rw [c_98]; rfl
              refine wa_iload dX10_contest_121 1 rfl ?_
              refine wa_eqi (y := (fdK (ctQ C w h l n s) (w * h) (m - 1))) (by first | exact (fdK_f hm1 hq0).symm | exact (m1_n hm1).trans (fdK_t hm1 (by omega) hq1).symm) ?_
              refine wa_istore [(5, .int (fdK (ctQ C w h l n s) (w * h) (m - 1))), (6, .int (nI m - 1)), (4, .int (wB (ctC C w h l n s))), (3, .int (nI (s))), (0, wm_r G (96))] dX10_contest_123 (by decide) rfl ?_
              refine wa_iinc ((nI (m - 1) - 1)) [(6, .int (nI (m - 1) - 1)), (5, .int (fdK (ctQ C w h l n s) (w * h) (m - 1))), (4, .int (wB (ctC C w h l n s))), (3, .int (nI (s))), (0, wm_r G (96))] dX10_contest_125 1 rfl (m1_dec hm1) (by decide) rfl ?_
              refine wa_goto 87 dX10_contest_128 (by decide) ?_
              exact ih_87 (m - 1) (by omega) (by omega)
            · refine wa_aload_n dX10_contest_101 rfl 4 rfl ?_
              refine wa_getd gX10_contest_102 (rfl) rfl ?_
              refine wa_aload_n dX10_contest_105 rfl 4 rfl ?_
              refine wa_iload_n dX10_contest_106 rfl 3 rfl ?_
              refine wa_iload dX10_contest_107 0 rfl ?_
              refine wa_eqi (y := (nI (m - 1))) (m1_n hm1) ?_
              refine wa_cVi (x_turnedOf C w h hx3 hW s (by omega) (m - 1) (by omega)) vX10_turnedOf iX10_contest_109 (rfl) rfl rfl rfl (Nat.le_of_ble_eq_true rfl) ⟨by decide, by decide⟩ ?_
              refine wa_eqi (y := (nI (sMv s (m - 1) (sStep (C.1 18 (m - 1)))))) (by rw [st_of c_98]) ?_
              have hmv := sMv_lt (m := sStep (C.1 18 (m - 1))) hs (show m - 1 < w * h by omega)
              refine wa_zaldN (e := sMv s (m - 1) (sStep (C.1 18 (m - 1)))) dX10_contest_112 (dt2_sh _) (by omega) (by omega) ?_
              refine wa_eqi (y := (wB (wnI (C.1 18) (w * h) (ctF C w h l) n (n - 1) (sMv s (m - 1) (sStep (C.1 18 (m - 1))))))) (hmk3 _ hmv) ?_
              refine wa_if_eqB 121 dX10_contest_113 (by decide) (fun (c_113 : (wnI (C.1 18) (w * h) (ctF C w h l) n (n - 1) (sMv s (m - 1) (sStep (C.1 18 (m - 1))))) = false) => ?_) (fun (c_113 : (wnI (C.1 18) (w * h) (ctF C w h l) n (n - 1) (sMv s (m - 1) (sStep (C.1 18 (m - 1))))) = true) => ?_)
              · have hq0 : ctQ C w h l n s (m - 1) = false := by unfold ctQ; rw [c_98, c_113]; rfl
                refine wa_iload dX10_contest_121 1 rfl ?_
                refine wa_eqi (y := (fdK (ctQ C w h l n s) (w * h) (m - 1))) (by first | exact (fdK_f hm1 hq0).symm | exact (m1_n hm1).trans (fdK_t hm1 (by omega) hq1).symm) ?_
                refine wa_istore [(5, .int (fdK (ctQ C w h l n s) (w * h) (m - 1))), (6, .int (nI m - 1)), (4, .int (wB (ctC C w h l n s))), (3, .int (nI (s))), (0, wm_r G (96))] dX10_contest_123 (by decide) rfl ?_
                refine wa_iinc ((nI (m - 1) - 1)) [(6, .int (nI (m - 1) - 1)), (5, .int (fdK (ctQ C w h l n s) (w * h) (m - 1))), (4, .int (wB (ctC C w h l n s))), (3, .int (nI (s))), (0, wm_r G (96))] dX10_contest_125 1 rfl (m1_dec hm1) (by decide) rfl ?_
                refine wa_goto 87 dX10_contest_128 (by decide) ?_
                exact ih_87 (m - 1) (by omega) (by omega)
              · have hq1 : ctQ C w h l n s (m - 1) = true := by unfold ctQ; rw [c_98, c_113]; rfl
                refine wa_iload dX10_contest_116 0 rfl ?_
                refine wa_goto 123 dX10_contest_118 (by decide) ?_
                refine wa_eqi (y := (fdK (ctQ C w h l n s) (w * h) (m - 1))) (by first | exact (fdK_f hm1 hq0).symm | exact (m1_n hm1).trans (fdK_t hm1 (by omega) hq1).symm) ?_
                refine wa_istore [(5, .int (fdK (ctQ C w h l n s) (w * h) (m - 1))), (6, .int (nI m - 1)), (4, .int (wB (ctC C w h l n s))), (3, .int (nI (s))), (0, wm_r G (96))] dX10_contest_123 (by decide) rfl ?_
                refine wa_iinc ((nI (m - 1) - 1)) [(6, .int (nI (m - 1) - 1)), (5, .int (fdK (ctQ C w h l n s) (w * h) (m - 1))), (4, .int (wB (ctC C w h l n s))), (3, .int (nI (s))), (0, wm_r G (96))] dX10_contest_125 1 rfl (m1_dec hm1) (by decide) rfl ?_
                refine wa_goto 87 dX10_contest_128 (by decide) ?_
                exact ih_87 (m - 1) (by omega) (by omega)
      refine wa_sub [0, 1, 2, 3, 4] rfl ?_
      rw [show Value.int (-9) = Value.int (fdK (ctQ C w h l n s) (w * h) (w * h)) by rw [fdK_n]]
      exact L_87 _ (w * h) (Nat.lt_succ_self _) (Nat.le_refl _)
