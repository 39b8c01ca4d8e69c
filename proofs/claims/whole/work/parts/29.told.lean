theorem m_note {G : wm_G} {M : wm_M} (f : Nat) (h1 : 1 ≤ f) (h5 : f ≤ 5) : MD G t_X6_note [wm_r G (92), .int (nI (f))] (M) (none) (tNote M f) := by
  refine wm_met (by decide) (Nat.le_of_ble_eq_true rfl) ?_
  show WA G t_X6_note (fun v_ N_ => v_ = none ∧ N_ = tNote M f) 0 [(0, wm_r G (92)), (1, .int (nI (f)))] [] (M)
  refine wa_iload_n dX6_note_0 rfl 1 rfl ?_
  refine wa_iconst (1) dX6_note_1 (by decide) ?_
  refine wa_icmp_ltN (a := f) (b := 1) 10 dX6_note_2 (by decide) (by omega) (by omega) (fun c_2 => absurd c_2 (by omega)) (fun c_2 => ?_)
  refine wa_iload_n dX6_note_5 rfl 1 rfl ?_
  refine wa_iconst (5) dX6_note_6 (by decide) ?_
  refine wa_icmp_leN (a := f) (b := 5) 11 dX6_note_7 (by decide) (by omega) (by omega) (fun c_7 => ?_) (fun c_7 => absurd c_7 (by omega))
  refine wa_aload_n dX6_note_11 rfl 0 rfl ?_
  refine wa_iload_n dX6_note_12 rfl 1 rfl ?_
  refine wa_puti gX6_note_13 (rfl) rfl ?_
  refine wa_aload_n dX6_note_16 rfl 0 rfl ?_
  refine wa_getr gX6_note_17 (rfl) rfl ?_
  refine wa_iload_n dX6_note_20 rfl 1 rfl ?_
  refine wa_dup2_11 dX6_note_21 rfl rfl ?_
  refine wa_ialdN (e := f) dX6_note_22 (rfl) (by omega) (by decide) ?_
  refine wa_iconst (1) dX6_note_23 (by decide) ?_
  refine wa_iadd dX6_note_24 ?_
  refine wa_iastN (e := f) dX6_note_25 (rfl) (by omega) (by decide) ?_
  exact wa_vret dX6_note_26 rfl ⟨rfl, by unfold tNote; rw [show (wI M 92 3 (nI f)).1 93 = M.1 93 from wIa_n (by decide)]⟩

theorem m_gcd {G : wm_G} {M : wm_M} (a b : Nat) (ha : a < 2 ^ 63) (hb : b < 2 ^ 63) : MD G t_X6_greatestDivisor [.long (lN a), .long (lN b)] (M) (some (.long (lN (Nat.gcd a b)))) (M) := by
  refine wm_met (by decide) (Nat.le_of_ble_eq_true rfl) ?_
  show WA G t_X6_greatestDivisor (fun v_ N_ => v_ = some (.long (lN (Nat.gcd a b))) ∧ N_ = M) 0 [(0, .long (lN a)), (2, .long (lN b))] [] (M)
  refine wa_lload_n dX6_greatestDivisor_0 rfl 0 rfl ?_
  refine wa_lstore [(4, .long (lN a)), (0, .long (lN a)), (2, .long (lN b))] dX6_greatestDivisor_1 (by decide) rfl ?_
  refine wa_lload_n dX6_greatestDivisor_3 rfl 2 rfl ?_
  refine wa_lstore [(6, .long (lN b)), (4, .long (lN a)), (0, .long (lN a)), (2, .long (lN b))] dX6_greatestDivisor_4 (by decide) rfl ?_
  refine wa_iconst (0) dX6_greatestDivisor_6 (by decide) ?_
  refine wa_istore [(8, .int (0)), (6, .long (lN b)), (4, .long (lN a)), (0, .long (lN a)), (2, .long (lN b))] dX6_greatestDivisor_7 (by decide) rfl ?_
  have L_9 : ∀ (n_ : Nat) (i w r : Nat), (200 - i) < n_ → (i ≤ 200) → (w < 2 ^ 63) → (r < 2 ^ 63) → (Nat.gcd w r = Nat.gcd a b) → (i = 0 ∨ (r ≤ w ∧ w * r * 2 ^ (i - 1) ≤ 2 ^ 126)) → WA G t_X6_greatestDivisor (fun v_ N_ => v_ = some (.long (lN (Nat.gcd a b))) ∧ N_ = M) 9 [(8, .int (nI (i))), (6, .long (lN r)), (4, .long (lN w)), (0, .long (lN a)), (2, .long (lN b))] [] (M) := by
    intro n_
    induction n_ with
    | zero => intro i w r h_; exact absurd h_ (Nat.not_lt_zero _)
    | succ n_ ih_9 =>
      intro i w r h_ hi hw hr hg hi2
      refine wa_iload dX6_greatestDivisor_9 0 rfl ?_
      refine wa_sipush (200) dX6_greatestDivisor_11 (by decide) ?_
      refine wa_icmp_geN (a := i) (b := 200) 45 dX6_greatestDivisor_14 (by decide) (by omega) (by omega) (fun c_14 => ?_) (fun c_14 => ?_)
      · have hr0 : r = 0 := by
          rcases Nat.eq_zero_or_pos r with q | q
          · exact q
          · exfalso
            rcases hi2 with h9 | ⟨h9, h8⟩
            · omega
            · have h7 : i = 200 := by omega
              subst h7
              have h6 : 1 * 2 ^ 199 ≤ w * r * 2 ^ 199 := Nat.mul_le_mul_right _ (Nat.mul_pos (Nat.lt_of_lt_of_le q h9) q)
              have h5 : (2 : Nat) ^ 199 ≤ 2 ^ 126 := by rw [Nat.one_mul] at h6; exact Nat.le_trans h6 h8
              exact absurd h5 (by decide)
        refine wa_lload dX6_greatestDivisor_45 2 rfl ?_
        exact wa_lret dX6_greatestDivisor_47 rfl ⟨congrArg (fun z => some (Value.long z)) (by first | (rw [← hg, hr0, Nat.gcd_zero_right]) | (rw [← hg, (lg_cmp0 hr).mp c_21, Nat.gcd_zero_right])), rfl⟩
      · refine wa_lload dX6_greatestDivisor_17 1 rfl ?_
        refine wa_lconst (0) dX6_greatestDivisor_19 (by decide) ?_
        refine wa_lcmp dX6_greatestDivisor_20 ?_
        refine wa_if_eq 45 dX6_greatestDivisor_21 (by decide) (fun c_21 => ?_) (fun c_21 => ?_)
        · refine wa_lload dX6_greatestDivisor_45 2 rfl ?_
          exact wa_lret dX6_greatestDivisor_47 rfl ⟨congrArg (fun z => some (Value.long z)) (by first | (rw [← hg, hr0, Nat.gcd_zero_right]) | (rw [← hg, (lg_cmp0 hr).mp c_21, Nat.gcd_zero_right])), rfl⟩
        · have hr0 : 0 < r := Nat.pos_of_ne_zero (fun q => c_21 ((lg_cmp0 hr).mpr q))
          refine wa_lload dX6_greatestDivisor_24 2 rfl ?_
          refine wa_lload dX6_greatestDivisor_26 1 rfl ?_
          refine wa_lrem dX6_greatestDivisor_28 (lN_ne0 hr0 hr) ?_
          refine wa_eql (y := lN (w % r)) (lN_rem hw hr0 hr) ?_
          refine wa_lstore [(9, .long (lN (w % r))), (8, .int (nI (i))), (6, .long (lN r)), (4, .long (lN w)), (0, .long (lN a)), (2, .long (lN b))] dX6_greatestDivisor_29 (by decide) rfl ?_
          refine wa_lload dX6_greatestDivisor_31 2 rfl ?_
          refine wa_lstore [(4, .long (lN r)), (9, .long (lN (w % r))), (8, .int (nI (i))), (6, .long (lN r)), (0, .long (lN a)), (2, .long (lN b))] dX6_greatestDivisor_33 (by decide) rfl ?_
          refine wa_lload dX6_greatestDivisor_35 1 rfl ?_
          refine wa_lstore [(6, .long (lN (w % r))), (4, .long (lN r)), (9, .long (lN (w % r))), (8, .int (nI (i))), (0, .long (lN a)), (2, .long (lN b))] dX6_greatestDivisor_37 (by decide) rfl ?_
          refine wa_iinc ((nI (i + 1))) [(8, .int (nI (i + 1))), (6, .long (lN (w % r))), (4, .long (lN r)), (9, .long (lN (w % r))), (0, .long (lN a)), (2, .long (lN b))] dX6_greatestDivisor_39 3 rfl (nI_inc _) (by decide) rfl ?_
          refine wa_goto 9 dX6_greatestDivisor_42 (by decide) ?_
          refine wa_sub [0, 1, 2, 4, 5] rfl ?_
          exact ih_9 (i + 1) r (w % r) (by omega) (by omega) hr (Nat.lt_trans (Nat.mod_lt _ hr0) hr) (by rw [← hg, Nat.gcd_comm w r, Nat.gcd_rec r w, Nat.gcd_comm]) (Or.inr ⟨Nat.le_of_lt (Nat.mod_lt _ hr0), eu_next hw hr hi2⟩)
  exact L_9 _ 0 a b (Nat.lt_succ_self _) (by omega) ha hb rfl (Or.inl rfl)

theorem m_tfrac {G : wm_G} {M : wm_M} (a b : Nat) (ha : a < 2 ^ 63) (hb : b < 2 ^ 63) (h0 : 0 < b) : MD G t_X6_fraction [wm_r G (92), .long (lN a), .long (lN b)] (M) (none) (tFrac M a b) := by
  have hg0 : 0 < Nat.gcd a b := Nat.gcd_pos_of_pos_right _ h0
  have hgl : Nat.gcd a b < 2 ^ 63 := Nat.lt_of_le_of_lt (Nat.le_of_dvd h0 (Nat.gcd_dvd_right a b)) hb
  refine wm_met (by decide) (Nat.le_of_ble_eq_true rfl) ?_
  show WA G t_X6_fraction (fun v_ N_ => v_ = none ∧ N_ = tFrac M a b) 0 [(0, wm_r G (92)), (1, .long (lN a)), (3, .long (lN b))] [] (M)
  refine wa_lload_n dX6_fraction_0 rfl 1 rfl ?_
  refine wa_lload_n dX6_fraction_1 rfl 2 rfl ?_
  refine wa_cSl (m_gcd a b ha hb) vX6_greatestDivisor iX6_fraction_2 rfl rfl (Nat.le_of_ble_eq_true rfl) ⟨by decide, by decide⟩ ?_
  refine wa_lstore [(5, .long (lN (Nat.gcd a b))), (0, wm_r G (92)), (1, .long (lN a)), (3, .long (lN b))] dX6_fraction_5 (by decide) rfl ?_
  refine wa_lload dX6_fraction_7 0 rfl ?_
  refine wa_lconst (0) dX6_fraction_9 (by decide) ?_
  refine wa_lcmp dX6_fraction_10 ?_
  refine wa_if_gt 15 dX6_fraction_11 (by decide) (fun c_11 => ?_) (fun c_11 => absurd (lg_cmpP hg0 hgl) c_11)
  refine wa_aload_n dX6_fraction_15 rfl 1 rfl ?_
  refine wa_lload_n dX6_fraction_16 rfl 2 rfl ?_
  refine wa_lload dX6_fraction_17 0 rfl ?_
  refine wa_ldiv dX6_fraction_19 (lN_ne0 hg0 hgl) ?_
  refine wa_eql (y := lN (a / Nat.gcd a b)) (pk_lDiv ha hg0 hgl) ?_
  refine wa_putl gX6_fraction_20 (rfl) rfl ?_
  refine wa_aload_n dX6_fraction_23 rfl 1 rfl ?_
  refine wa_lload_n dX6_fraction_24 rfl 3 rfl ?_
  refine wa_lload dX6_fraction_25 0 rfl ?_
  refine wa_ldiv dX6_fraction_27 (lN_ne0 hg0 hgl) ?_
  refine wa_eql (y := lN (b / Nat.gcd a b)) (pk_lDiv hb hg0 hgl) ?_
  refine wa_putl gX6_fraction_28 (rfl) rfl ?_
  exact wa_vret dX6_fraction_31 rfl ⟨rfl, rfl⟩
