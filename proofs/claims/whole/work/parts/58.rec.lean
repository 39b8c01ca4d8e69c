theorem m_dropFrom {G : wm_G} {M : wm_M} (n rn : Nat) (hn : n < 100) (hr : rn ≤ 4) (hrn : M.1 54 0 = nI rn) : MD G t_X2_dropFrom [wm_r G (54), .int (nI (n))] (M) (none) (if n < rn then wI M 54 0 (nI n) else M) := by
  refine wm_met (by decide) (Nat.le_of_ble_eq_true rfl) ?_
  show WA G t_X2_dropFrom (fun v_ N_ => v_ = none ∧ N_ = if n < rn then wI M 54 0 (nI n) else M) 0 [(0, wm_r G (54)), (1, .int (nI (n)))] [] (M)
  refine wa_iload_n dX2_dropFrom_0 rfl 1 rfl ?_
  refine wa_if_ltN (a := n) 17 dX2_dropFrom_1 (by decide) (by omega) (fun c_1 => absurd c_1 (Nat.not_lt_zero _)) (fun c_1 => ?_)
  refine wa_iload_n dX2_dropFrom_4 rfl 1 rfl ?_
  refine wa_aload_n dX2_dropFrom_5 rfl 0 rfl ?_
  refine wa_geti gX2_dropFrom_6 (rfl) rfl ?_
  refine wa_eqi (y := (nI (rn))) (hrn) ?_
  refine wa_icmp_geN (a := n) (b := rn) 17 dX2_dropFrom_9 (by decide) (by omega) (by omega) (fun c_9 => ?_) (fun c_9 => ?_)
  · exact wa_vret dX2_dropFrom_17 rfl ⟨rfl, by first | (rw [if_neg (by omega)]) | (rw [if_pos c_9])⟩
  · refine wa_aload_n dX2_dropFrom_12 rfl 0 rfl ?_
    refine wa_iload_n dX2_dropFrom_13 rfl 1 rfl ?_
    refine wa_puti gX2_dropFrom_14 (rfl) rfl ?_
    exact wa_vret dX2_dropFrom_17 rfl ⟨rfl, by first | (rw [if_neg (by omega)]) | (rw [if_pos c_9])⟩

theorem m_add {G : wm_G} {M : wm_M} (y st en : Int32) (f rn s : Nat) (hr : rn < 4) (hrn : M.1 54 0 = nI rn) (hf : f < 6) (hs : M.1 9 f = nI s) (hs3 : s ≤ 3) (hL : M.1 58 0 = nI 3) : MD G t_X2_add [wm_r G (54), .int (y), .int (st), .int (en), wm_r G (1), .int (nI (f))] (M) (some (.int (nI (rn)))) (wI (wIa (wI (wI (wI (wI M 55 rn y) 56 rn st) 57 rn en) 64 rn (nI s)) (60 + rn) (wTo (M.1 (3 + f)) (M.1 (60 + rn)) s)) 54 0 (nI (rn + 1))) := by
  refine wm_met (by decide) (Nat.le_of_ble_eq_true rfl) ?_
  show WA G t_X2_add (fun v_ N_ => v_ = some (.int (nI (rn))) ∧ N_ = wI (wIa (wI (wI (wI (wI M 55 rn y) 56 rn st) 57 rn en) 64 rn (nI s)) (60 + rn) (wTo (M.1 (3 + f)) (M.1 (60 + rn)) s)) 54 0 (nI (rn + 1))) 0 [(0, wm_r G (54)), (1, .int (y)), (2, .int (st)), (3, .int (en)), (4, wm_r G (1)), (5, .int (nI (f)))] [] (M)
  refine wa_aload_n dX2_add_0 rfl 0 rfl ?_
  refine wa_geti gX2_add_1 (rfl) rfl ?_
  refine wa_eqi (y := (nI (rn))) (hrn) ?_
  refine wa_if_ltN (a := rn) 15 dX2_add_4 (by decide) (by omega) (fun c_4 => absurd c_4 (Nat.not_lt_zero _)) (fun c_4 => ?_)
  refine wa_aload_n dX2_add_7 rfl 0 rfl ?_
  refine wa_geti gX2_add_8 (rfl) rfl ?_
  refine wa_eqi (y := (nI (rn))) (hrn) ?_
  refine wa_iconst (4) dX2_add_11 (by decide) ?_
  refine wa_icmp_ltN (a := rn) (b := 4) 18 dX2_add_12 (by decide) (by omega) (by omega) (fun c_12 => ?_) (fun c_12 => absurd c_12 (by omega))
  refine wa_aload_n dX2_add_18 rfl 0 rfl ?_
  refine wa_getr gX2_add_19 (rfl) rfl ?_
  refine wa_aload_n dX2_add_22 rfl 0 rfl ?_
  refine wa_geti gX2_add_23 (rfl) rfl ?_
  refine wa_eqi (y := (nI (rn))) (hrn) ?_
  refine wa_iload_n dX2_add_26 rfl 1 rfl ?_
  refine wa_iastN (e := rn) dX2_add_27 (rfl) (by omega) (by decide) ?_
  refine wa_aload_n dX2_add_28 rfl 0 rfl ?_
  refine wa_getr gX2_add_29 (rfl) rfl ?_
  refine wa_aload_n dX2_add_32 rfl 0 rfl ?_
  refine wa_geti gX2_add_33 (rfl) rfl ?_
  refine wa_eqi (y := (nI (rn))) (by rw [wI_c (by decide)]; exact hrn) ?_
  refine wa_iload_n dX2_add_36 rfl 2 rfl ?_
  refine wa_iastN (e := rn) dX2_add_37 (rfl) (by omega) (by decide) ?_
  refine wa_aload_n dX2_add_38 rfl 0 rfl ?_
  refine wa_getr gX2_add_39 (rfl) rfl ?_
  refine wa_aload_n dX2_add_42 rfl 0 rfl ?_
  refine wa_geti gX2_add_43 (rfl) rfl ?_
  refine wa_eqi (y := (nI (rn))) (by rw [wI_c (by decide), wI_c (by decide)]; exact hrn) ?_
  refine wa_iload_n dX2_add_46 rfl 3 rfl ?_
  refine wa_iastN (e := rn) dX2_add_47 (rfl) (by omega) (by decide) ?_
  refine wa_aload_n dX2_add_48 rfl 0 rfl ?_
  refine wa_getr gX2_add_49 (rfl) rfl ?_
  refine wa_aload_n dX2_add_52 rfl 0 rfl ?_
  refine wa_geti gX2_add_53 (rfl) rfl ?_
  refine wa_eqi (y := (nI (rn))) (by rw [wI_c (by decide), wI_c (by decide), wI_c (by decide)]; exact hrn) ?_
  refine wa_aload dX2_add_56 4 rfl ?_
  refine wa_iload dX2_add_58 5 rfl ?_
  refine wa_cVv (m_takeN 58 4 3 TB_engr rn f s hr hf (by decide) (by rw [wI_c (by decide), wI_c (by decide), wI_c (by decide)]; exact hs) (by omega) hs3 (by rw [wI_c (by decide), wI_c (by decide), wI_c (by decide)]; exact hL)) vX5_take iX2_add_60 (rfl) rfl rfl rfl (Nat.le_of_ble_eq_true rfl) ⟨by decide, by decide⟩ ?_
  refine wa_eqm (M' := wIa (wI (wI (wI (wI M 55 rn y) 56 rn st) 57 rn en) 64 rn (nI s)) (60 + rn) (wTo (M.1 (3 + f)) (M.1 (60 + rn)) s)) (by rw [show (wI (wI (wI M 55 rn y) 56 rn st) 57 rn en).1 (3 + f) = M.1 (3 + f) by rw [wI_c (by omega), wI_c (by omega), wI_c (by omega)], show (wI (wI (wI M 55 rn y) 56 rn st) 57 rn en).1 (58 + 2 + rn) = M.1 (60 + rn) by rw [wI_c (by omega), wI_c (by omega), wI_c (by omega)]]) ?_
  refine wa_aload_n dX2_add_63 rfl 0 rfl ?_
  refine wa_dup dX2_add_64 rfl ?_
  refine wa_geti gX2_add_65 (rfl) rfl ?_
  refine wa_eqi (y := (nI (rn))) (by rw [wIa_n (by omega), wI_c (by decide), wI_c (by decide), wI_c (by decide), wI_c (by decide)]; exact hrn) ?_
  refine wa_dup_x1 dX2_add_68 rfl rfl ?_
  refine wa_iconst (1) dX2_add_69 (by decide) ?_
  refine wa_iaddN (a := rn) (b := 1) dX2_add_70 ?_
  refine wa_puti gX2_add_71 (rfl) rfl ?_
  exact wa_iret dX2_add_74 rfl ⟨congrArg (fun z => some (Value.int z)) (rfl), rfl⟩

theorem m_meetEngraving {G : wm_G} {M : wm_M} (w h : Nat) (hW : TW M w h) (e : Nat) (qb0 : Nat → Nat) (he4 : e < 4) (hR : ∃ y st en, RE M w h e y st en) (hqb0 : ∀ j, j < 6 → M.1 69 j = nI (qb0 j) ∧ qb0 j < 16) : MA G t_X2_meetEngraving [wm_r G (54), .int (nI (e)), wm_r G (69)] (M) (MeP M w h e qb0) := by
  obtain ⟨y, st, en, hRE⟩ := hR
  have hn6 := TW_n hW
  obtain ⟨hw, hh, hw3, hh2⟩ := id hW
  obtain ⟨q1, q2, q3⟩ := hRE.eq (by omega)
  obtain ⟨r1, r2, r3, r4, r5, r6, r7⟩ := hRE
  have he56 : M.1 56 e = nI (eS M e) := by rw [q2]; exact r3
  have he57 : M.1 57 e = nI (eE M e) := by rw [q3]; exact r5
  have hSl : eS M e < w + h := by rw [q2]; exact r4
  have hEl : eE M e < 2 := by rw [q3]; exact r6
  have he64 : M.1 64 e = nI (sLen w h (eS M e)) := by rw [q2]; exact r7
  have hlen : sLen w h (eS M e) ≤ 3 := by unfold sLen; split <;> omega
  have hf9 : sFst h (eS M e) (eE M e) < 10 := by unfold sFst; split <;> omega
  refine wm_met (by decide) (Nat.le_of_ble_eq_true rfl) ?_
  show WA G t_X2_meetEngraving (MeP M w h e qb0) 0 [(0, wm_r G (54)), (1, .int (nI (e))), (2, wm_r G (69))] [] (M)
  refine wa_aload_n dX2_meetEngraving_0 rfl 0 rfl ?_
  refine wa_getr gX2_meetEngraving_1 (rfl) rfl ?_
  refine wa_aload_n dX2_meetEngraving_4 rfl 0 rfl ?_
  refine wa_getr gX2_meetEngraving_5 (rfl) rfl ?_
  refine wa_iload_n dX2_meetEngraving_8 rfl 1 rfl ?_
  refine wa_ialdN (e := e) dX2_meetEngraving_9 (rfl) (by omega) (by decide) ?_
  refine wa_eqi (y := (nI (eS M e))) (he56) ?_
  refine wa_aload_n dX2_meetEngraving_10 rfl 0 rfl ?_
  refine wa_getr gX2_meetEngraving_11 (rfl) rfl ?_
  refine wa_iload_n dX2_meetEngraving_14 rfl 1 rfl ?_
  refine wa_ialdN (e := e) dX2_meetEngraving_15 (rfl) (by omega) (by decide) ?_
  refine wa_eqi (y := (nI (eE M e))) (he57) ?_
  refine wa_cVi (m_firstSide w h hW (eS M e) (eE M e) (by omega)) vX4_firstSide iX2_meetEngraving_16 (rfl) rfl rfl rfl (Nat.le_of_ble_eq_true rfl) ⟨by decide, by decide⟩ ?_
  refine wa_istore_n [(3, .int (nI (sFst h (eS M e) (eE M e)))), (0, wm_r G (54)), (1, .int (nI (e))), (2, wm_r G (69))] dX2_meetEngraving_19 rfl (by decide) rfl ?_
  refine wa_iconst (0) dX2_meetEngraving_20 (by decide) ?_
  refine wa_istore [(4, .int (0)), (3, .int (nI (sFst h (eS M e) (eE M e)))), (0, wm_r G (54)), (1, .int (nI (e))), (2, wm_r G (69))] dX2_meetEngraving_21 (by decide) rfl ?_
  have L_23 : ∀ (n_ : Nat) (i : Nat) (N : wm_M) (qb : Nat → Nat), (sLen w h (eS M e) - i) < n_ → (i ≤ sLen w h (eS M e)) → (Fr [69] [] M N) → (QbIs N 69 qb0 (fun k q => wAll (fun i => !decide (sAt w h (eS M e) (eE M e) i = k) || decide (sShow (M.1 18) (M.1 19) k ((q + sFst h (eS M e) (eE M e)) % 4) = M.1 (60 + e) i)) i) qb) → WA G t_X2_meetEngraving (MeP M w h e qb0) 23 [(4, .int (nI (i))), (3, .int (nI (sFst h (eS M e) (eE M e)))), (0, wm_r G (54)), (1, .int (nI (e))), (2, wm_r G (69))] [] (N) := by
    intro n_
    induction n_ with
    | zero => intro i N qb h_; exact absurd h_ (Nat.not_lt_zero _)
    | succ n_ ih_23 =>
      intro i N qb h_ hi hF hqb
      have h17N : N.1 17 = M.1 17 := hF.1 17 (nin1 (by decide))
      have h18N : N.1 18 = M.1 18 := hF.1 18 (nin1 (by decide))
      have h19N : N.1 19 = M.1 19 := hF.1 19 (nin1 (by decide))
      have h56N : N.1 56 = M.1 56 := hF.1 56 (nin1 (by decide))
      have h57N : N.1 57 = M.1 57 := hF.1 57 (nin1 (by decide))
      have h64N : N.1 64 = M.1 64 := hF.1 64 (nin1 (by decide))
      have h60N : N.1 (60 + e) = M.1 (60 + e) := hF.1 _ (nin1 (by omega))
      have hWN := hW.fr h17N
      refine wa_iload dX2_meetEngraving_23 0 rfl ?_
      refine wa_aload_n dX2_meetEngraving_25 rfl 2 rfl ?_
      refine wa_getr gX2_meetEngraving_26 (rfl) rfl ?_
      refine wa_iload_n dX2_meetEngraving_29 rfl 3 rfl ?_
      refine wa_cVi (m_sizeN 58 4 3 TB_engr e he4) vX5_size iX2_meetEngraving_30 (rfl) rfl rfl rfl (Nat.le_of_ble_eq_true rfl) ⟨by decide, by decide⟩ ?_
      refine wa_eqi (y := (nI (sLen w h (eS M e)))) (by rw [show N.1 (58 + 2 + 4) = M.1 64 from h64N, he64, nI_clamp (by omega)]) ?_
      refine wa_icmp_geN (a := i) (b := sLen w h (eS M e)) 92 dX2_meetEngraving_33 (by decide) (by omega) (by omega) (fun c_33 => ?_) (fun c_33 => ?_)
      · refine wa_vret dX2_meetEngraving_92 rfl ?_
        exact ⟨rfl, hF, qb, hqb.1, fun k hk q hq => by rw [hqb.2 k hk q hq, show i = sLen w h (eS M e) by omega]; rfl⟩
      · have hk := sAt_lt (e := eE M e) hSl c_33
        have hqk := hqb.1 (sAt w h (eS M e) (eE M e) i) (by omega)
        refine wa_aload_n dX2_meetEngraving_36 rfl 2 rfl ?_
        refine wa_getr gX2_meetEngraving_37 (rfl) rfl ?_
        refine wa_aload_n dX2_meetEngraving_40 rfl 2 rfl ?_
        refine wa_getr gX2_meetEngraving_41 (rfl) rfl ?_
        refine wa_iload_n dX2_meetEngraving_44 rfl 3 rfl ?_
        refine wa_ialdN (e := e) dX2_meetEngraving_45 (rfl) (by omega) (by decide) ?_
        refine wa_eqi (y := (nI (eS M e))) (by rw [h56N]; exact he56) ?_
        refine wa_aload_n dX2_meetEngraving_46 rfl 2 rfl ?_
        refine wa_getr gX2_meetEngraving_47 (rfl) rfl ?_
        refine wa_iload_n dX2_meetEngraving_50 rfl 3 rfl ?_
        refine wa_ialdN (e := e) dX2_meetEngraving_51 (rfl) (by omega) (by decide) ?_
        refine wa_eqi (y := (nI (eE M e))) (by rw [h57N]; exact he57) ?_
        refine wa_iload dX2_meetEngraving_52 0 rfl ?_
        refine wa_cVi (m_stoneAt w h hWN (eS M e) (eE M e) i (by omega) hEl c_33) vX4_stoneAt iX2_meetEngraving_54 (rfl) rfl rfl rfl (Nat.le_of_ble_eq_true rfl) ⟨by decide, by decide⟩ ?_
        refine wa_istore [(5, .int (nI (sAt w h (eS M e) (eE M e) i))), (4, .int (nI (i))), (3, .int (nI (sFst h (eS M e) (eE M e)))), (0, wm_r G (54)), (1, .int (nI (e))), (2, wm_r G (69))] dX2_meetEngraving_57 (by decide) rfl ?_
        refine wa_aload_n dX2_meetEngraving_59 rfl 5 rfl ?_
        refine wa_iload dX2_meetEngraving_60 0 rfl ?_
        refine wa_dup2_11 dX2_meetEngraving_62 rfl rfl ?_
        refine wa_ialdN (e := sAt w h (eS M e) (eE M e) i) dX2_meetEngraving_63 (rfl) (by omega) (by decide) ?_
        refine wa_eqi (y := (nI (qb (sAt w h (eS M e) (eE M e) i)))) (hqk.1) ?_
        refine wa_aload_n dX2_meetEngraving_64 rfl 3 rfl ?_
        refine wa_getr gX2_meetEngraving_65 (rfl) rfl ?_
        refine wa_iload dX2_meetEngraving_68 0 rfl ?_
        refine wa_iload_n dX2_meetEngraving_70 rfl 2 rfl ?_
        refine wa_aload_n dX2_meetEngraving_71 rfl 3 rfl ?_
        refine wa_getr gX2_meetEngraving_72 (rfl) rfl ?_
        refine wa_iload_n dX2_meetEngraving_75 rfl 4 rfl ?_
        refine wa_iload dX2_meetEngraving_76 1 rfl ?_
        refine wa_cVi (m_getN 58 4 3 TB_engr e i (sLen w h (eS M e)) he4 (by omega) (by rw [show N.1 (58 + 2 + 4) = M.1 64 from h64N]; exact he64) hlen) vX5_get iX2_meetEngraving_78 (rfl) rfl rfl rfl (Nat.le_of_ble_eq_true rfl) ⟨by decide, by decide⟩ ?_
        refine wa_eqi (y := (M.1 (60 + e) i)) (by rw [if_pos c_33, show N.1 (58 + 2 + e) = M.1 (60 + e) from h60N]) ?_
        refine wa_cVi (m_quartersShowing (sAt w h (eS M e) (eE M e) i) (sFst h (eS M e) (eE M e)) (M.1 (60 + e) i) (by omega) (by omega)) vX4_quartersShowing iX2_meetEngraving_81 (rfl) rfl rfl rfl (Nat.le_of_ble_eq_true rfl) ⟨by decide, by decide⟩ ?_
        refine wa_eqi (y := (nI (wBits (fun q => decide (sShow (M.1 18) (M.1 19) (sAt w h (eS M e) (eE M e) i) ((q + sFst h (eS M e) (eE M e)) % 4) = M.1 (60 + e) i)) 4))) (by rw [h18N, h19N]) ?_
        refine wa_iand dX2_meetEngraving_84 ?_
        refine wa_eqi (y := (nI (qb (sAt w h (eS M e) (eE M e) i) &&& wBits (fun q => decide (sShow (M.1 18) (M.1 19) (sAt w h (eS M e) (eE M e) i) ((q + sFst h (eS M e) (eE M e)) % 4) = M.1 (60 + e) i)) 4))) (nI_and _ _) ?_
        refine wa_iastN (e := sAt w h (eS M e) (eE M e) i) dX2_meetEngraving_85 (rfl) (by omega) (by decide) ?_
        refine wa_iinc ((nI (i + 1))) [(4, .int (nI (i + 1))), (5, .int (nI (sAt w h (eS M e) (eE M e) i))), (3, .int (nI (sFst h (eS M e) (eE M e)))), (0, wm_r G (54)), (1, .int (nI (e))), (2, wm_r G (69))] dX2_meetEngraving_86 1 rfl (nI_inc _) (by decide) rfl ?_
        refine wa_goto 23 dX2_meetEngraving_89 (by decide) ?_
        refine wa_sub [0, 2, 3, 4, 5] rfl ?_
        exact ih_23 (i + 1) _ (fun k => if k = sAt w h (eS M e) (eE M e) i then qb (sAt w h (eS M e) (eE M e) i) &&& wBits (fun q => decide (sShow (M.1 18) (M.1 19) (sAt w h (eS M e) (eE M e) i) ((q + sFst h (eS M e) (eE M e)) % 4) = M.1 (60 + e) i)) 4 else qb k) (by omega) (by omega) (hF.tr (Fr.ofI (by simp))) ⟨fun j hj => by dsimp only; by_cases q : j = sAt w h (eS M e) (eE M e) i; (subst q; exact ⟨by rw [wI_at, if_pos rfl], by rw [if_pos rfl]; exact Nat.lt_of_le_of_lt Nat.and_le_left hqk.2⟩); (rw [wI_ne (fun z9 => q z9.2), if_neg q]; exact hqb.1 j hj), fun k hk9 q hq => by dsimp only; rw [wAll_s]; by_cases z9 : k = sAt w h (eS M e) (eE M e) i; (subst z9; simp only [if_true]; rw [Nat.testBit_and, hqb.2 _ hk9 q hq, wBits_bit]; dsimp only; rw [Bool.and_assoc]; simp [hq]); (rw [if_neg z9, hqb.2 k hk9 q hq]; dsimp only; simp [Ne.symm z9])⟩
  exact L_23 _ 0 M qb0 (Nat.lt_succ_self _) (Nat.zero_le _) (Fr.rf _ _ M) ⟨hqb0, fun k hk q hq => by dsimp only; rw [wAll_0, Bool.and_true]⟩

theorem m_rmeetFitting {G : wm_G} {M : wm_M} (w h : Nat) (hW : TW M w h) (rn year : Nat) (qb0 : Nat → Nat) (hRO : RecOk M w h rn) (hy9 : year < 100) (hqb0 : ∀ j, j < 6 → M.1 69 j = nI (qb0 j) ∧ qb0 j < 16) : MA G t_X2_meetFitting [wm_r G (54), .int (nI (year)), wm_r G (69)] (M) (MfP M w h rn year qb0) := by
  obtain ⟨hrn, hr4, hRE⟩ := id hRO
  obtain ⟨hw, hh, hw3, hh2⟩ := id hW
  refine wm_met (by decide) (Nat.le_of_ble_eq_true rfl) ?_
  show WA G t_X2_meetFitting (MfP M w h rn year qb0) 0 [(0, wm_r G (54)), (1, .int (nI (year))), (2, wm_r G (69))] [] (M)
  refine wa_iconst (0) dX2_meetFitting_0 (by decide) ?_
  refine wa_istore_n [(3, .int (0)), (0, wm_r G (54)), (1, .int (nI (year))), (2, wm_r G (69))] dX2_meetFitting_1 rfl (by decide) rfl ?_
  have L_2 : ∀ (n_ : Nat) (e : Nat) (N : wm_M) (qb : Nat → Nat), (rn - e) < n_ → (e ≤ rn) → (Fr [69] [] M N) → (QbIs N 69 qb0 (fun k q => wAll (fun e => !decide (eY M e = year) || enQ M w h e k q) e) qb) → WA G t_X2_meetFitting (MfP M w h rn year qb0) 2 [(3, .int (nI (e))), (0, wm_r G (54)), (1, .int (nI (year))), (2, wm_r G (69))] [] (N) := by
    intro n_
    induction n_ with
    | zero => intro e N qb h_; exact absurd h_ (Nat.not_lt_zero _)
    | succ n_ ih_2 =>
      intro e N qb h_ he hF hqb
      have h17 : N.1 17 = M.1 17 := hF.1 17 (nin1 (by decide))
      have h54 : N.1 54 = M.1 54 := hF.1 54 (nin1 (by decide))
      have h55 : N.1 55 = M.1 55 := hF.1 55 (nin1 (by decide))
      have h56 : N.1 56 = M.1 56 := hF.1 56 (nin1 (by decide))
      have h57 : N.1 57 = M.1 57 := hF.1 57 (nin1 (by decide))
      have h64 : N.1 64 = M.1 64 := hF.1 64 (nin1 (by decide))
      refine wa_iload_n dX2_meetFitting_2 rfl 0 rfl ?_
      refine wa_aload_n dX2_meetFitting_3 rfl 1 rfl ?_
      refine wa_geti gX2_meetFitting_4 (rfl) rfl ?_
      refine wa_eqi (y := (nI (rn))) (by rw [h54]; exact hrn) ?_
      refine wa_icmp_geN (a := e) (b := rn) 37 dX2_meetFitting_7 (by decide) (by omega) (by omega) (fun c_7 => ?_) (fun c_7 => ?_)
      · refine wa_vret dX2_meetFitting_37 rfl ?_
        exact ⟨rfl, hF, qb, hqb.1, fun k hk q hq => by rw [hqb.2 k hk q hq, show e = rn by omega]; rfl⟩
      · obtain ⟨y, st, en, hR1⟩ := hRE e c_7
        obtain ⟨q1, q2, q3⟩ := hR1.eq (by omega)
        have hy : M.1 55 e = nI (eY M e) := by rw [q1]; exact hR1.1
        have hy2 : eY M e ≤ 9 := by rw [q1]; exact hR1.2.1
        refine wa_iload_n dX2_meetFitting_10 rfl 0 rfl ?_
        refine wa_iconst (4) dX2_meetFitting_11 (by decide) ?_
        refine wa_icmp_geN (a := e) (b := 4) 37 dX2_meetFitting_12 (by decide) (by omega) (by omega) (fun c_12 => absurd c_12 (by omega)) (fun c_12 => ?_)
        refine wa_aload_n dX2_meetFitting_15 rfl 1 rfl ?_
        refine wa_getr gX2_meetFitting_16 (rfl) rfl ?_
        refine wa_iload_n dX2_meetFitting_19 rfl 0 rfl ?_
        refine wa_ialdN (e := e) dX2_meetFitting_20 (rfl) (by omega) (by decide) ?_
        refine wa_eqi (y := (nI (eY M e))) (by rw [h55]; exact hy) ?_
        refine wa_iload_n dX2_meetFitting_21 rfl 2 rfl ?_
        refine wa_icmp_neN (a := eY M e) (b := year) 31 dX2_meetFitting_22 (by decide) (by omega) (by omega) (fun c_22 => ?_) (fun c_22 => ?_)
        · refine wa_iinc ((nI (e + 1))) [(3, .int (nI (e + 1))), (0, wm_r G (54)), (1, .int (nI (year))), (2, wm_r G (69))] dX2_meetFitting_31 0 rfl (nI_inc _) (by decide) rfl ?_
          refine wa_goto 2 dX2_meetFitting_34 (by decide) ?_
          exact ih_2 (e + 1) _ _ (by omega) (by omega) (by first | exact hF.tr hFj | exact hF) (by first | exact ⟨hqb2.1, fun k hk q hq => by rw [hqb2.2 k hk q hq, hqb.2 k hk q hq]; dsimp only; rw [wAll_s, enQ_fr hF (by omega), Bool.and_assoc]; simp [c_22]⟩ | exact ⟨hqb.1, fun k hk q hq => by rw [hqb.2 k hk q hq]; dsimp only; rw [wAll_s]; simp [c_22]⟩)
        · refine wa_aload_n dX2_meetFitting_25 rfl 1 rfl ?_
          refine wa_iload_n dX2_meetFitting_26 rfl 0 rfl ?_
          refine wa_aload_n dX2_meetFitting_27 rfl 3 rfl ?_
          refine wa_callV (m_meetEngraving w h (hW.fr h17) e qb (by omega) ⟨y, st, en, by unfold RE; rw [h55, h56, h57, h64]; exact hR1⟩ hqb.1) vX2_meetEngraving iX2_meetFitting_28 (rfl) rfl rfl rfl (Nat.le_of_ble_eq_true rfl) ⟨by decide, by decide⟩ (fun v_ N2 h_ => ?_)
          obtain ⟨rfl, hFj, qb2, hqb2⟩ := h_
          show WA G t_X2_meetFitting (MfP M w h rn year qb0) 31 [(3, .int (nI (e))), (0, wm_r G (54)), (1, .int (nI (year))), (2, wm_r G (69))] [] (N2)
          refine wa_iinc ((nI (e + 1))) [(3, .int (nI (e + 1))), (0, wm_r G (54)), (1, .int (nI (year))), (2, wm_r G (69))] dX2_meetFitting_31 0 rfl (nI_inc _) (by decide) rfl ?_
          refine wa_goto 2 dX2_meetFitting_34 (by decide) ?_
          exact ih_2 (e + 1) _ _ (by omega) (by omega) (by first | exact hF.tr hFj | exact hF) (by first | exact ⟨hqb2.1, fun k hk q hq => by rw [hqb2.2 k hk q hq, hqb.2 k hk q hq]; dsimp only; rw [wAll_s, enQ_fr hF (by omega), Bool.and_assoc]; simp [c_22]⟩ | exact ⟨hqb.1, fun k hk q hq => by rw [hqb.2 k hk q hq]; dsimp only; rw [wAll_s]; simp [c_22]⟩)
  exact L_2 _ 0 M qb0 (Nat.lt_succ_self _) (Nat.zero_le _) (Fr.rf _ _ M) ⟨hqb0, fun k hk q hq => by dsimp only; rw [wAll_0, Bool.and_true]⟩

theorem m_lastTold {G : wm_G} {M : wm_M} (w h : Nat) (hW : TW M w h) (rn n : Nat) (hRO : RecOk M w h rn) (hn : n < 100) : MD G t_X2_lastTold [wm_r G (54), .int (nI (n))] (M) (some (.int (nI (lastT M n rn)))) (M) := by
  obtain ⟨hrn, hr4, hRE⟩ := id hRO
  obtain ⟨hw, hh, hw3, hh2⟩ := id hW
  refine wm_met (by decide) (Nat.le_of_ble_eq_true rfl) ?_
  show WA G t_X2_lastTold (fun v_ N_ => v_ = some (.int (nI (lastT M n rn))) ∧ N_ = M) 0 [(0, wm_r G (54)), (1, .int (nI (n)))] [] (M)
  refine wa_iconst (0) dX2_lastTold_0 (by decide) ?_
  refine wa_istore_n [(2, .int (0)), (0, wm_r G (54)), (1, .int (nI (n)))] dX2_lastTold_1 rfl (by decide) rfl ?_
  refine wa_iconst (0) dX2_lastTold_2 (by decide) ?_
  refine wa_istore_n [(3, .int (0)), (2, .int (0)), (0, wm_r G (54)), (1, .int (nI (n)))] dX2_lastTold_3 rfl (by decide) rfl ?_
  have L_4 : ∀ (n_ : Nat) (e c : Nat), (rn - e) < n_ → (e ≤ rn) → (c = lastT M n e) → (c ≤ 9) → WA G t_X2_lastTold (fun v_ N_ => v_ = some (.int (nI (lastT M n rn))) ∧ N_ = M) 4 [(3, .int (nI (e))), (2, .int (nI (c))), (0, wm_r G (54)), (1, .int (nI (n)))] [] (M) := by
    intro n_
    induction n_ with
    | zero => intro e c h_; exact absurd h_ (Nat.not_lt_zero _)
    | succ n_ ih_4 =>
      intro e c h_ he hc hc9
      refine wa_iload_n dX2_lastTold_4 rfl 0 rfl ?_
      refine wa_aload_n dX2_lastTold_5 rfl 2 rfl ?_
      refine wa_geti gX2_lastTold_6 (rfl) rfl ?_
      refine wa_eqi (y := (nI (rn))) (hrn) ?_
      refine wa_icmp_geN (a := e) (b := rn) 44 dX2_lastTold_9 (by decide) (by omega) (by omega) (fun c_9 => ?_) (fun c_9 => ?_)
      · refine wa_iload_n dX2_lastTold_44 rfl 1 rfl ?_
        exact wa_iret dX2_lastTold_45 rfl ⟨congrArg (fun z => some (Value.int z)) (by rw [hc, show e = rn by omega]), rfl⟩
      · obtain ⟨y, st, en, hR1⟩ := hRE e c_9
        obtain ⟨q1, q2, q3⟩ := hR1.eq (by omega)
        have hy : M.1 55 e = nI (eY M e) := by rw [q1]; exact hR1.1
        have hy2 : eY M e ≤ 9 := by rw [q1]; exact hR1.2.1
        refine wa_iload_n dX2_lastTold_12 rfl 0 rfl ?_
        refine wa_iconst (4) dX2_lastTold_13 (by decide) ?_
        refine wa_icmp_geN (a := e) (b := 4) 44 dX2_lastTold_14 (by decide) (by omega) (by omega) (fun c_14 => absurd c_14 (by omega)) (fun c_14 => ?_)
        refine wa_aload_n dX2_lastTold_17 rfl 2 rfl ?_
        refine wa_getr gX2_lastTold_18 (rfl) rfl ?_
        refine wa_iload_n dX2_lastTold_21 rfl 0 rfl ?_
        refine wa_ialdN (e := e) dX2_lastTold_22 (rfl) (by omega) (by decide) ?_
        refine wa_eqi (y := (nI (eY M e))) (hy) ?_
        refine wa_iload_n dX2_lastTold_23 rfl 3 rfl ?_
        refine wa_icmp_gtN (a := eY M e) (b := n) 38 dX2_lastTold_24 (by decide) (by omega) (by omega) (fun c_24 => ?_) (fun c_24 => ?_)
        · refine wa_iinc ((nI (e + 1))) [(3, .int (nI (e + 1))), (2, .int (nI (c))), (0, wm_r G (54)), (1, .int (nI (n)))] dX2_lastTold_38 0 rfl (nI_inc _) (by decide) rfl ?_
          refine wa_goto 4 dX2_lastTold_41 (by decide) ?_
          exact ih_4 (e + 1) _ (by omega) (by omega) (by simp only [lastT]; first | (rw [if_neg (by omega)]; exact hc) | (rw [if_pos (by omega), ← hc])) (by first | exact hc9 | exact Nat.max_le.mpr ⟨hc9, hy2⟩)
        · refine wa_iload_n dX2_lastTold_27 rfl 1 rfl ?_
          refine wa_aload_n dX2_lastTold_28 rfl 2 rfl ?_
          refine wa_getr gX2_lastTold_29 (rfl) rfl ?_
          refine wa_iload_n dX2_lastTold_32 rfl 0 rfl ?_
          refine wa_ialdN (e := e) dX2_lastTold_33 (rfl) (by omega) (by decide) ?_
          refine wa_eqi (y := (nI (eY M e))) (hy) ?_
          refine wa_max iX2_lastTold_34 ⟨by decide, Nat.le_of_ble_eq_true rfl⟩ ?_
          refine wa_eqi (y := (nI (max c (eY M e)))) (nI_max (by omega) (by omega)) ?_
          refine wa_istore_n [(2, .int (nI (max c (eY M e)))), (3, .int (nI (e))), (0, wm_r G (54)), (1, .int (nI (n)))] dX2_lastTold_37 rfl (by decide) rfl ?_
          refine wa_iinc ((nI (e + 1))) [(3, .int (nI (e + 1))), (2, .int (nI (max c (eY M e)))), (0, wm_r G (54)), (1, .int (nI (n)))] dX2_lastTold_38 1 rfl (nI_inc _) (by decide) rfl ?_
          refine wa_goto 4 dX2_lastTold_41 (by decide) ?_
          exact ih_4 (e + 1) _ (by omega) (by omega) (by simp only [lastT]; first | (rw [if_neg (by omega)]; exact hc) | (rw [if_pos (by omega), ← hc])) (by first | exact hc9 | exact Nat.max_le.mpr ⟨hc9, hy2⟩)
  exact L_4 _ 0 0 (Nat.lt_succ_self _) (Nat.zero_le _) rfl (by omega)

theorem m_rfold {G : wm_G} {M : wm_M} (rn : Nat) (start : Int64) (hrn : M.1 54 0 = nI rn) (hr4 : rn ≤ 4) (hsz : ∀ e, e < rn → (M.1 64 e).toNatClampNeg ≤ 3) : MD G t_X2_fold [wm_r G (54), .long (start)] (M) (some (.long (eFold M start rn))) (M) := by
  refine wm_met (by decide) (Nat.le_of_ble_eq_true rfl) ?_
  show WA G t_X2_fold (fun v_ N_ => v_ = some (.long (eFold M start rn)) ∧ N_ = M) 0 [(0, wm_r G (54)), (1, .long (start))] [] (M)
  refine wa_lload_n dX2_fold_0 rfl 1 rfl ?_
  refine wa_lstore_n [(3, .long (start)), (0, wm_r G (54)), (1, .long (start))] dX2_fold_1 rfl (by decide) rfl ?_
  refine wa_iconst (0) dX2_fold_2 (by decide) ?_
  refine wa_istore [(5, .int (0)), (3, .long (start)), (0, wm_r G (54)), (1, .long (start))] dX2_fold_3 (by decide) rfl ?_
  have L_5 : ∀ (n_ : Nat) (e : Nat), (rn - e) < n_ → (e ≤ rn) → WA G t_X2_fold (fun v_ N_ => v_ = some (.long (eFold M start rn)) ∧ N_ = M) 5 [(5, .int (nI (e))), (3, .long (eFold M start e)), (0, wm_r G (54)), (1, .long (start))] [] (M) := by
    intro n_
    induction n_ with
    | zero => intro e h_; exact absurd h_ (Nat.not_lt_zero _)
    | succ n_ ih_5 =>
      intro e h_ he
      refine wa_iload dX2_fold_5 0 rfl ?_
      refine wa_aload_n dX2_fold_7 rfl 2 rfl ?_
      refine wa_geti gX2_fold_8 (rfl) rfl ?_
      refine wa_eqi (y := (nI (rn))) (hrn) ?_
      refine wa_icmp_geN (a := e) (b := rn) 80 dX2_fold_11 (by decide) (by omega) (by omega) (fun c_11 => ?_) (fun c_11 => ?_)
      · refine wa_lload_n dX2_fold_80 rfl 1 rfl ?_
        exact wa_lret dX2_fold_81 rfl ⟨congrArg (fun z => some (Value.long z)) (by rw [show e = rn by omega]), rfl⟩
      · refine wa_iload dX2_fold_14 0 rfl ?_
        refine wa_iconst (4) dX2_fold_16 (by decide) ?_
        refine wa_icmp_geN (a := e) (b := 4) 80 dX2_fold_17 (by decide) (by omega) (by omega) (fun c_17 => absurd c_17 (by omega)) (fun c_17 => ?_)
        refine wa_ldc2 (31) dX2_fold_20 kX2_fold_20 ?_
        refine wa_lload_n dX2_fold_23 rfl 1 rfl ?_
        refine wa_lmul dX2_fold_24 ?_
        refine wa_aload_n dX2_fold_25 rfl 2 rfl ?_
        refine wa_getr gX2_fold_26 (rfl) rfl ?_
        refine wa_iload dX2_fold_29 0 rfl ?_
        refine wa_ialdN (e := e) dX2_fold_31 (rfl) (by omega) (by decide) ?_
        refine wa_i2l dX2_fold_32 ?_
        refine wa_ladd dX2_fold_33 ?_
        refine wa_lstore_n [(3, .long (((31) * (eFold M start e)) + ((((M).1 (55) (e))).toInt64))), (5, .int (nI (e))), (0, wm_r G (54)), (1, .long (start))] dX2_fold_34 rfl (by decide) rfl ?_
        refine wa_ldc2 (31) dX2_fold_35 kX2_fold_35 ?_
        refine wa_lload_n dX2_fold_38 rfl 0 rfl ?_
        refine wa_lmul dX2_fold_39 ?_
        refine wa_aload_n dX2_fold_40 rfl 2 rfl ?_
        refine wa_getr gX2_fold_41 (rfl) rfl ?_
        refine wa_iload dX2_fold_44 1 rfl ?_
        refine wa_ialdN (e := e) dX2_fold_46 (rfl) (by omega) (by decide) ?_
        refine wa_i2l dX2_fold_47 ?_
        refine wa_ladd dX2_fold_48 ?_
        refine wa_lstore_n [(3, .long (((31) * (((31) * (eFold M start e)) + ((((M).1 (55) (e))).toInt64))) + ((((M).1 (56) (e))).toInt64))), (5, .int (nI (e))), (0, wm_r G (54)), (1, .long (start))] dX2_fold_49 rfl (by decide) rfl ?_
        refine wa_aload_n dX2_fold_50 rfl 2 rfl ?_
        refine wa_getr gX2_fold_51 (rfl) rfl ?_
        refine wa_ldc2 (31) dX2_fold_54 kX2_fold_54 ?_
        refine wa_lload_n dX2_fold_57 rfl 0 rfl ?_
        refine wa_lmul dX2_fold_58 ?_
        refine wa_aload_n dX2_fold_59 rfl 2 rfl ?_
        refine wa_getr gX2_fold_60 (rfl) rfl ?_
        refine wa_iload dX2_fold_63 1 rfl ?_
        refine wa_ialdN (e := e) dX2_fold_65 (rfl) (by omega) (by decide) ?_
        refine wa_i2l dX2_fold_66 ?_
        refine wa_ladd dX2_fold_67 ?_
        refine wa_iload dX2_fold_68 1 rfl ?_
        refine wa_cVl (m_foldPlaces 58 4 3 TB_engr (((31) * (((31) * (((31) * (eFold M start e)) + ((((M).1 (55) (e))).toInt64))) + ((((M).1 (56) (e))).toInt64))) + ((((M).1 (57) (e))).toInt64)) e (by omega) (hsz e c_11)) vX5_foldPlaces iX2_fold_70 (rfl) rfl rfl rfl (Nat.le_of_ble_eq_true rfl) ⟨by decide, by decide⟩ ?_
        refine wa_lstore_n [(3, .long (eFold M start (e + 1))), (5, .int (nI (e))), (0, wm_r G (54)), (1, .long (start))] dX2_fold_73 rfl (by decide) rfl ?_
        refine wa_iinc ((nI (e + 1))) [(5, .int (nI (e + 1))), (3, .long (eFold M start (e + 1))), (0, wm_r G (54)), (1, .long (start))] dX2_fold_74 1 rfl (nI_inc _) (by decide) rfl ?_
        refine wa_goto 5 dX2_fold_77 (by decide) ?_
        exact ih_5 (e + 1) (by omega) (by omega)
  exact L_5 _ 0 (Nat.lt_succ_self _) (Nat.zero_le _)
