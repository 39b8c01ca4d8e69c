theorem m_rangeCheck {G : wm_G} {M : wm_M} (n a b : Nat) (h1 : a ≤ b) (h2 : b ≤ n) (h3 : n < 2 ^ 31) : MD G t_J7_rangeCheck_23922 [.int (nI (n)), .int (nI (a)), .int (nI (b))] (M) (none) (M) := by
  refine wm_met (by decide) (Nat.le_of_ble_eq_true rfl) ?_
  show WA G t_J7_rangeCheck_23922 (fun v_ N_ => v_ = none ∧ N_ = M) 0 [(0, .int (nI (n))), (1, .int (nI (a))), (2, .int (nI (b)))] [] (M)
  refine wa_iload_n dJ7_rangeCheck_23922_0 rfl 1 rfl ?_
  refine wa_iload_n dJ7_rangeCheck_23922_1 rfl 2 rfl ?_
  refine wa_icmp_leN (a := a) (b := b) 46 dJ7_rangeCheck_23922_2 (by decide) (by omega) (by omega) (fun c_2 => ?_) (fun c_2 => absurd c_2 (by omega))
  refine wa_iload_n dJ7_rangeCheck_23922_46 rfl 1 rfl ?_
  refine wa_if_geN (a := a) 59 dJ7_rangeCheck_23922_47 (by decide) (by omega) (fun c_47 => ?_) (fun c_47 => absurd c_47 (by omega))
  refine wa_iload_n dJ7_rangeCheck_23922_59 rfl 2 rfl ?_
  refine wa_iload_n dJ7_rangeCheck_23922_60 rfl 0 rfl ?_
  refine wa_icmp_leN (a := b) (b := n) 73 dJ7_rangeCheck_23922_61 (by decide) (by omega) (by omega) (fun c_61 => ?_) (fun c_61 => absurd c_61 (by omega))
  exact wa_vret dJ7_rangeCheck_23922_73 rfl ⟨rfl, rfl⟩

theorem m_fill4 {G : wm_G} {M : wm_M} (k n a b : Nat) (v : Int32) (hk : wm_sh k = .inr (0, n, 0, 0)) (h1 : a ≤ b) (h2 : b ≤ n) (h3 : n < 2 ^ 31) : MD G t_J7_fill_fda19 [wm_r G (k), .int (nI (a)), .int (nI (b)), .int (v)] (M) (none) (wIa M k (wFill (M.1 k) a b v)) := by
  refine wm_met (by decide) (Nat.le_of_ble_eq_true rfl) ?_
  show WA G t_J7_fill_fda19 (fun v_ N_ => v_ = none ∧ N_ = wIa M k (wFill (M.1 k) a b v)) 0 [(0, wm_r G (k)), (1, .int (nI (a))), (2, .int (nI (b))), (3, .int (v))] [] (M)
  refine wa_aload_n dJ7_fill_fda19_0 rfl 0 rfl ?_
  refine wa_alen (nI (n)) dJ7_fill_fda19_1 (hk) (by decide) rfl ?_
  refine wa_iload_n dJ7_fill_fda19_2 rfl 1 rfl ?_
  refine wa_iload_n dJ7_fill_fda19_3 rfl 2 rfl ?_
  refine wa_cSv (m_rangeCheck n a b h1 h2 h3) vJ7_rangeCheck_23922 iJ7_fill_fda19_4 rfl rfl (Nat.le_of_ble_eq_true rfl) ⟨by decide, by decide⟩ ?_
  refine wa_iload_n dJ7_fill_fda19_7 rfl 1 rfl ?_
  refine wa_istore [(4, .int (nI (a))), (0, wm_r G (k)), (1, .int (nI (a))), (2, .int (nI (b))), (3, .int (v))] dJ7_fill_fda19_8 (by decide) rfl ?_
  have L_10 : ∀ (n_ : Nat) (i : Nat), (b - i) < n_ → (a ≤ i) → (i ≤ b) → WA G t_J7_fill_fda19 (fun v_ N_ => v_ = none ∧ N_ = wIa M k (wFill (M.1 k) a b v)) 10 [(4, .int (nI (i))), (0, wm_r G (k)), (1, .int (nI (a))), (2, .int (nI (b))), (3, .int (v))] [] (wIa M k (wFill (M.1 k) a i v)) := by
    intro n_
    induction n_ with
    | zero => intro i h_; exact absurd h_ (Nat.not_lt_zero _)
    | succ n_ ih_10 =>
      intro i h_ hi hib
      refine wa_iload dJ7_fill_fda19_10 0 rfl ?_
      refine wa_iload_n dJ7_fill_fda19_12 rfl 3 rfl ?_
      refine wa_icmp_geN (a := i) (b := b) 27 dJ7_fill_fda19_13 (by decide) (by omega) (by omega) (fun c_13 => ?_) (fun c_13 => ?_)
      · exact wa_vret dJ7_fill_fda19_27 rfl ⟨rfl, by rw [show i = b by omega]⟩
      · refine wa_aload_n dJ7_fill_fda19_16 rfl 1 rfl ?_
        refine wa_iload dJ7_fill_fda19_17 0 rfl ?_
        refine wa_iload_n dJ7_fill_fda19_19 rfl 4 rfl ?_
        refine wa_iastN (e := i) dJ7_fill_fda19_20 (hk) (by omega) (by omega) ?_
        refine wa_eqm (M' := wIa M k (wFill (M.1 k) a (i + 1) v)) (by rw [wI_wIa, wFill_s hi]) ?_
        refine wa_iinc ((nI (i + 1))) [(4, .int (nI (i + 1))), (0, wm_r G (k)), (1, .int (nI (a))), (2, .int (nI (b))), (3, .int (v))] dJ7_fill_fda19_21 0 rfl (nI_inc _) (by decide) rfl ?_
        refine wa_goto 10 dJ7_fill_fda19_24 (by decide) ?_
        exact ih_10 (i + 1) (by omega) (by omega) (by omega)
  refine wa_eqm (M' := wIa M k (wFill (M.1 k) a a v)) (by rw [wFill_0, wIa_self]) ?_
  exact L_10 _ a (Nat.lt_succ_self _) (Nat.le_refl _) h1

theorem m_fillL {G : wm_G} {M : wm_M} (k n : Nat) (v : Int64) (hk : wm_sh k = .inr (1, n, 0, 0)) (h3 : n < 2 ^ 31) : MD G t_J7_fill_d0a16 [wm_r G (k), .long (v)] (M) (none) (wJa M k (wFill (M.2.1 k) 0 n v)) := by
  refine wm_met (by decide) (Nat.le_of_ble_eq_true rfl) ?_
  show WA G t_J7_fill_d0a16 (fun v_ N_ => v_ = none ∧ N_ = wJa M k (wFill (M.2.1 k) 0 n v)) 0 [(0, wm_r G (k)), (1, .long (v))] [] (M)
  refine wa_iconst (0) dJ7_fill_d0a16_0 (by decide) ?_
  refine wa_eqi (y := (nI (0))) (rfl) ?_
  refine wa_istore_n [(3, .int (nI (0))), (0, wm_r G (k)), (1, .long (v))] dJ7_fill_d0a16_1 rfl (by decide) rfl ?_
  refine wa_aload_n dJ7_fill_d0a16_2 rfl 1 rfl ?_
  refine wa_alen (nI (n)) dJ7_fill_d0a16_3 (hk) (by decide) rfl ?_
  refine wa_istore [(4, .int (nI (n))), (3, .int (nI (0))), (0, wm_r G (k)), (1, .long (v))] dJ7_fill_d0a16_4 (by decide) rfl ?_
  have L_6 : ∀ (n_ : Nat) (i : Nat), (n - i) < n_ → (i ≤ n) → WA G t_J7_fill_d0a16 (fun v_ N_ => v_ = none ∧ N_ = wJa M k (wFill (M.2.1 k) 0 n v)) 6 [(4, .int (nI (n))), (3, .int (nI (i))), (0, wm_r G (k)), (1, .long (v))] [] (wJa M k (wFill (M.2.1 k) 0 i v)) := by
    intro n_
    induction n_ with
    | zero => intro i h_; exact absurd h_ (Nat.not_lt_zero _)
    | succ n_ ih_6 =>
      intro i h_ hib
      refine wa_iload_n dJ7_fill_d0a16_6 rfl 1 rfl ?_
      refine wa_iload dJ7_fill_d0a16_7 0 rfl ?_
      refine wa_icmp_geN (a := i) (b := n) 22 dJ7_fill_d0a16_9 (by decide) (by omega) (by omega) (fun c_9 => ?_) (fun c_9 => ?_)
      · exact wa_vret dJ7_fill_d0a16_22 rfl ⟨rfl, by rw [show i = n by omega]⟩
      · refine wa_aload_n dJ7_fill_d0a16_12 rfl 2 rfl ?_
        refine wa_iload_n dJ7_fill_d0a16_13 rfl 1 rfl ?_
        refine wa_lload_n dJ7_fill_d0a16_14 rfl 3 rfl ?_
        refine wa_lastN (e := i) dJ7_fill_d0a16_15 (hk) (by omega) (by omega) ?_
        refine wa_eqm (M' := wJa M k (wFill (M.2.1 k) 0 (i + 1) v)) (by rw [wJ_wJa, wFill_sL (Nat.zero_le _)]) ?_
        refine wa_iinc ((nI (i + 1))) [(3, .int (nI (i + 1))), (4, .int (nI (n))), (0, wm_r G (k)), (1, .long (v))] dJ7_fill_d0a16_16 1 rfl (nI_inc _) (by decide) rfl ?_
        refine wa_goto 6 dJ7_fill_d0a16_19 (by decide) ?_
        refine wa_sub [1, 0, 2, 3] rfl ?_
        exact ih_6 (i + 1) (by omega) (by omega)
  refine wa_eqm (M' := wJa M k (wFill (M.2.1 k) 0 0 v)) (by rw [wFill_0, wJa_self]) ?_
  exact L_6 _ 0 (Nat.lt_succ_self _) (Nat.zero_le _)

theorem m_fill2 {G : wm_G} {M : wm_M} (k n : Nat) (v : Int32) (hk : wm_sh k = .inr (0, n, 0, 0)) (h3 : n < 2 ^ 31) : MD G t_J7_fill_53178 [wm_r G (k), .int (v)] (M) (none) (wIa M k (wFill (M.1 k) 0 n v)) := by
  refine wm_met (by decide) (Nat.le_of_ble_eq_true rfl) ?_
  show WA G t_J7_fill_53178 (fun v_ N_ => v_ = none ∧ N_ = wIa M k (wFill (M.1 k) 0 n v)) 0 [(0, wm_r G (k)), (1, .int (v))] [] (M)
  refine wa_iconst (0) dJ7_fill_53178_0 (by decide) ?_
  refine wa_eqi (y := (nI (0))) (rfl) ?_
  refine wa_istore_n [(2, .int (nI (0))), (0, wm_r G (k)), (1, .int (v))] dJ7_fill_53178_1 rfl (by decide) rfl ?_
  refine wa_aload_n dJ7_fill_53178_2 rfl 1 rfl ?_
  refine wa_alen (nI (n)) dJ7_fill_53178_3 (hk) (by decide) rfl ?_
  refine wa_istore_n [(3, .int (nI (n))), (2, .int (nI (0))), (0, wm_r G (k)), (1, .int (v))] dJ7_fill_53178_4 rfl (by decide) rfl ?_
  have L_5 : ∀ (n_ : Nat) (i : Nat), (n - i) < n_ → (i ≤ n) → WA G t_J7_fill_53178 (fun v_ N_ => v_ = none ∧ N_ = wIa M k (wFill (M.1 k) 0 n v)) 5 [(3, .int (nI (n))), (2, .int (nI (i))), (0, wm_r G (k)), (1, .int (v))] [] (wIa M k (wFill (M.1 k) 0 i v)) := by
    intro n_
    induction n_ with
    | zero => intro i h_; exact absurd h_ (Nat.not_lt_zero _)
    | succ n_ ih_5 =>
      intro i h_ hib
      refine wa_iload_n dJ7_fill_53178_5 rfl 1 rfl ?_
      refine wa_iload_n dJ7_fill_53178_6 rfl 0 rfl ?_
      refine wa_icmp_geN (a := i) (b := n) 20 dJ7_fill_53178_7 (by decide) (by omega) (by omega) (fun c_7 => ?_) (fun c_7 => ?_)
      · exact wa_vret dJ7_fill_53178_20 rfl ⟨rfl, by rw [show i = n by omega]⟩
      · refine wa_aload_n dJ7_fill_53178_10 rfl 2 rfl ?_
        refine wa_iload_n dJ7_fill_53178_11 rfl 1 rfl ?_
        refine wa_iload_n dJ7_fill_53178_12 rfl 3 rfl ?_
        refine wa_iastN (e := i) dJ7_fill_53178_13 (hk) (by omega) (by omega) ?_
        refine wa_eqm (M' := wIa M k (wFill (M.1 k) 0 (i + 1) v)) (by rw [wI_wIa, wFill_s (Nat.zero_le _)]) ?_
        refine wa_iinc ((nI (i + 1))) [(2, .int (nI (i + 1))), (3, .int (nI (n))), (0, wm_r G (k)), (1, .int (v))] dJ7_fill_53178_14 1 rfl (nI_inc _) (by decide) rfl ?_
        refine wa_goto 5 dJ7_fill_53178_17 (by decide) ?_
        refine wa_sub [1, 0, 2, 3] rfl ?_
        exact ih_5 (i + 1) (by omega) (by omega)
  refine wa_eqm (M' := wIa M k (wFill (M.1 k) 0 0 v)) (by rw [wFill_0, wIa_self]) ?_
  exact L_5 _ 0 (Nat.lt_succ_self _) (Nat.zero_le _)
