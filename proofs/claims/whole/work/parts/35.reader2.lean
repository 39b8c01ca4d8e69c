theorem m_readSign {G : wm_G} {M : wm_M} (tx sz p : Nat) (hR : RdAt M tx sz p) (a b : Int32) : MD G t_X7_readSign [wm_r G 27, .int a, .int b] M (some (.int (wB (inC (chF M tx sz p) a b)))) (if inC (chF M tx sz p) a b then wI (wI M 27 4 (chF M tx sz p - a)) 27 3 (nI (p + 1)) else M) := by
  cases hc : inC (chF M tx sz p) a b
  · simp only [Bool.false_eq_true, if_false]; exact m_readSign0 tx sz p hR a b hc
  · simp only [if_true]; exact m_readSign1 tx sz p hR a b hc

theorem m_readKind {G : wm_G} {M : wm_M} (tx sz p : Nat) (hR : RdAt M tx sz p) (k : Nat) (hk : k < 6) : MD G t_X7_readKind [wm_r G (27), .int (nI (k))] (M) (some (.int (wB (!decide (kindC (chF M tx sz p) = -9))))) (if kindC (chF M tx sz p) = -9 then M else wI (wI M 23 k (kindC (chF M tx sz p))) 27 3 (nI (p + 1))) := by
  obtain ⟨htx, ht, hp, hs, hsz, hp2⟩ := hR
  refine wm_met (by decide) (Nat.le_of_ble_eq_true rfl) ?_
  show WA G t_X7_readKind (fun v_ N_ => v_ = some (.int (wB (!decide (kindC (chF M tx sz p) = -9)))) ∧ N_ = if kindC (chF M tx sz p) = -9 then M else wI (wI M 23 k (kindC (chF M tx sz p))) 27 3 (nI (p + 1))) 0 [(0, wm_r G (27)), (1, .int (nI (k)))] [] (M)
  refine wa_aload_n dX7_readKind_0 rfl 0 rfl ?_
  refine wa_getr gX7_readKind_1 (rfl) rfl ?_
  refine wa_aload_n dX7_readKind_4 rfl 0 rfl ?_
  refine wa_geti gX7_readKind_5 (rfl) rfl ?_
  refine wa_eqi (y := (nI (tx))) (ht) ?_
  refine wa_aload_n dX7_readKind_8 rfl 0 rfl ?_
  refine wa_geti gX7_readKind_9 (rfl) rfl ?_
  refine wa_eqi (y := (nI (p))) (hp) ?_
  refine wa_cVi (m_getN 10 4 80 TB_texts tx p sz htx (by omega) hs hsz) vX5_get iX7_readKind_12 (rfl) rfl rfl rfl (Nat.le_of_ble_eq_true rfl) ⟨by decide, by decide⟩ ?_
  refine wa_eqi (y := (chF M tx sz p)) (rfl) ?_
  refine wa_cSi (m_kindOf (chF M tx sz p)) vX7_kindOf iX7_readKind_15 rfl rfl (Nat.le_of_ble_eq_true rfl) ⟨by decide, by decide⟩ ?_
  refine wa_istore_n [(2, .int (kindC (chF M tx sz p))), (0, wm_r G (27)), (1, .int (nI (k)))] dX7_readKind_18 rfl (by decide) rfl ?_
  refine wa_iload_n dX7_readKind_19 rfl 0 rfl ?_
  refine wa_bipush (-9) dX7_readKind_20 (by decide) ?_
  refine wa_icmp_ne 27 dX7_readKind_22 (by decide) (fun c_22 => ?_) (fun c_22 => ?_)
  · refine wa_aload_n dX7_readKind_27 rfl 1 rfl ?_
    refine wa_getr gX7_readKind_28 (rfl) rfl ?_
    refine wa_getr gX7_readKind_31 (rfl) rfl ?_
    refine wa_iload_n dX7_readKind_34 rfl 2 rfl ?_
    refine wa_iload_n dX7_readKind_35 rfl 0 rfl ?_
    refine wa_iastN (e := k) dX7_readKind_36 (rfl) (by omega) (by decide) ?_
    refine wa_aload_n dX7_readKind_37 rfl 1 rfl ?_
    refine wa_dup dX7_readKind_38 rfl ?_
    refine wa_geti gX7_readKind_39 (rfl) rfl ?_
    refine wa_eqi (y := (nI (p))) (by rw [wI_c (by decide)]; exact hp) ?_
    refine wa_iconst (1) dX7_readKind_42 (by decide) ?_
    refine wa_iaddN (a := p) (b := 1) dX7_readKind_43 ?_
    refine wa_puti gX7_readKind_44 (rfl) rfl ?_
    refine wa_iconst (1) dX7_readKind_47 (by decide) ?_
    exact wa_zret dX7_readKind_48 rfl (by decide) ⟨congrArg (fun z => some (Value.int z)) (by simp [c_22, wB]), by rw [if_neg c_22]⟩
  · refine wa_iconst (0) dX7_readKind_25 (by decide) ?_
    exact wa_zret dX7_readKind_26 rfl (by decide) ⟨congrArg (fun z => some (Value.int z)) (by simp [c_22, wB]), by rw [if_pos c_22]⟩

theorem m_readWords {G : wm_G} {M : wm_M} (tx sz p : Nat) (hR : RdAt M tx sz p) (k : Nat) (hk : k < 6) (hp9 : p < 150) : MA G t_X7_readWords [wm_r G (27), .int (nI (k))] (M) (fun v_ N_ => v_ = some (.int (wB (decide (wdN (chF M tx sz) 4 p = 4)))) ∧ Sc M N_ ∧ N_.1 27 2 = M.1 27 2 ∧ N_.1 27 3 = nI (p + wdN (chF M tx sz) 4 p) ∧ (∀ c, c ≠ 24 → c ≠ 27 → N_.1 c = M.1 c) ∧ (∀ j, (j < 4 * k ∨ 4 * k + 4 ≤ j) → N_.1 24 j = M.1 24 j) ∧ (wdN (chF M tx sz) 4 p = 4 → ∀ i, i < 4 → N_.1 24 (4 * k + i) = chF M tx sz (p + i) - 97)) := by
  obtain ⟨htx, ht, hp, hs, hsz, hp2⟩ := id hR
  refine wm_met (by decide) (Nat.le_of_ble_eq_true rfl) ?_
  show WA G t_X7_readWords (fun v_ N_ => v_ = some (.int (wB (decide (wdN (chF M tx sz) 4 p = 4)))) ∧ Sc M N_ ∧ N_.1 27 2 = M.1 27 2 ∧ N_.1 27 3 = nI (p + wdN (chF M tx sz) 4 p) ∧ (∀ c, c ≠ 24 → c ≠ 27 → N_.1 c = M.1 c) ∧ (∀ j, (j < 4 * k ∨ 4 * k + 4 ≤ j) → N_.1 24 j = M.1 24 j) ∧ (wdN (chF M tx sz) 4 p = 4 → ∀ i, i < 4 → N_.1 24 (4 * k + i) = chF M tx sz (p + i) - 97)) 0 [(0, wm_r G (27)), (1, .int (nI (k)))] [] (M)
  refine wa_iconst (0) dX7_readWords_0 (by decide) ?_
  refine wa_istore_n [(2, .int (0)), (0, wm_r G (27)), (1, .int (nI (k)))] dX7_readWords_1 rfl (by decide) rfl ?_
  have L_2 : ∀ (n_ : Nat) (i : Nat) (N : wm_M), (4 - i) < n_ → (i ≤ 4) → (Sc M N) → (N.1 27 2 = M.1 27 2) → (N.1 27 3 = nI (p + i)) → (∀ c, c ≠ 24 → c ≠ 27 → N.1 c = M.1 c) → (∀ j, (j < 4 * k ∨ 4 * k + 4 ≤ j) → N.1 24 j = M.1 24 j) → (∀ j, j < i → N.1 24 (4 * k + j) = chF M tx sz (p + j) - 97) → (wdN (chF M tx sz) 4 p = i + wdN (chF M tx sz) (4 - i) (p + i)) → WA G t_X7_readWords (fun v_ N_ => v_ = some (.int (wB (decide (wdN (chF M tx sz) 4 p = 4)))) ∧ Sc M N_ ∧ N_.1 27 2 = M.1 27 2 ∧ N_.1 27 3 = nI (p + wdN (chF M tx sz) 4 p) ∧ (∀ c, c ≠ 24 → c ≠ 27 → N_.1 c = M.1 c) ∧ (∀ j, (j < 4 * k ∨ 4 * k + 4 ≤ j) → N_.1 24 j = M.1 24 j) ∧ (wdN (chF M tx sz) 4 p = 4 → ∀ i, i < 4 → N_.1 24 (4 * k + i) = chF M tx sz (p + i) - 97)) 2 [(2, .int (nI (i))), (0, wm_r G (27)), (1, .int (nI (k)))] [] (N) := by
    intro n_
    induction n_ with
    | zero => intro i N h_; exact absurd h_ (Nat.not_lt_zero _)
    | succ n_ ih_2 =>
      intro i N h_ hi hS hN2 hN3 hNc hNo hNw hw
      have hRN : RdAt N tx sz (p + i) := hR.sc hS hN2 hN3 (by omega)
      have hch : chF N tx sz = chF M tx sz := hS.ch htx
      refine wa_iload_n dX7_readWords_2 rfl 0 rfl ?_
      refine wa_iconst (4) dX7_readWords_3 (by decide) ?_
      refine wa_icmp_geN (a := i) (b := 4) 43 dX7_readWords_4 (by decide) (by omega) (by omega) (fun c_4 => ?_) (fun c_4 => ?_)
      · refine wa_iconst (1) dX7_readWords_43 (by decide) ?_
        refine wa_zret dX7_readWords_44 rfl (by decide) ?_
        have hi4 : i = 4 := by omega
        subst hi4
        have e0 : wdN (chF M tx sz) 4 p = 4 := by rw [hw]; rfl
        exact ⟨by rw [e0]; rfl, hS, hN2, by rw [e0]; exact hN3, hNc, hNo, fun _ i hi => hNw i hi⟩
      · refine wa_aload_n dX7_readWords_7 rfl 1 rfl ?_
        refine wa_bipush (97) dX7_readWords_8 (by decide) ?_
        refine wa_bipush (104) dX7_readWords_10 (by decide) ?_
        refine wa_cVi (m_readSign tx sz (p + i) hRN 97 104) vX7_readSign iX7_readWords_12 (rfl) rfl rfl rfl (Nat.le_of_ble_eq_true rfl) ⟨by decide, by decide⟩ ?_
        refine wa_if_neB 20 dX7_readWords_15 (by decide) (fun (c_15 : (inC (chF N tx sz (p + i)) 97 104) = true) => ?_) (fun (c_15 : (inC (chF N tx sz (p + i)) 97 104) = false) => ?_)
        · refine wa_eqm (M' := wI (wI N 27 4 (chF N tx sz (p + i) - 97)) 27 3 (nI (p + i + 1))) (by rw [if_pos c_15]) ?_
          refine wa_aload_n dX7_readWords_20 rfl 1 rfl ?_
          refine wa_getr gX7_readWords_21 (rfl) rfl ?_
          refine wa_getr gX7_readWords_24 (rfl) rfl ?_
          refine wa_iconst (4) dX7_readWords_27 (by decide) ?_
          refine wa_iload_n dX7_readWords_28 rfl 2 rfl ?_
          refine wa_imulN (a := 4) (b := k) dX7_readWords_29 ?_
          refine wa_iload_n dX7_readWords_30 rfl 0 rfl ?_
          refine wa_iaddN (a := 4 * k) (b := i) dX7_readWords_31 ?_
          refine wa_aload_n dX7_readWords_32 rfl 1 rfl ?_
          refine wa_geti gX7_readWords_33 (rfl) rfl ?_
          refine wa_eqi (y := (chF N tx sz (p + i) - 97)) (by rw [wI_ne (by decide), wI_at]) ?_
          refine wa_iastN (e := 4 * k + i) dX7_readWords_36 (rfl) (by omega) (by decide) ?_
          refine wa_iinc ((nI (i + 1))) [(2, .int (nI (i + 1))), (0, wm_r G (27)), (1, .int (nI (k)))] dX7_readWords_37 0 rfl (nI_inc _) (by decide) rfl ?_
          refine wa_goto 2 dX7_readWords_40 (by decide) ?_
          exact ih_2 (i + 1) (wI (wI (wI N 27 4 (chF N tx sz (p + i) - 97)) 27 3 (nI (p + i + 1))) 24 (4 * k + i) (chF N tx sz (p + i) - 97)) (by omega) (by omega) (hS.tr (((Sc.w (by decide)).tr (Sc.w (by decide))).tr (Sc.w (by decide)))) (by rw [wI_c (by decide), wI_ne (by decide), wI_ne (by decide)]; exact hN2) (by rw [wI_c (by decide), wI_at]; rfl) (fun c h1 h2 => by rw [wI_c h1, wI_c h2, wI_c h2]; exact hNc c h1 h2) (fun j hj => by rw [wI_ne (by omega), wI_c (by decide), wI_c (by decide)]; exact hNo j hj) (fun j hj => by rcases Nat.lt_or_eq_of_le (Nat.le_of_lt_succ hj) with q | q; (rw [wI_ne (by omega), wI_c (by decide), wI_c (by decide)]; exact hNw j q); (subst q; rw [wI_at, hch])) (by rw [hw, show 4 - i = (4 - (i + 1)) + 1 by omega]; simp only [wdN]; rw [← hch, if_pos c_15, Nat.add_assoc p i 1]; omega)
        · refine wa_eqm (M' := N) (by rw [if_neg (by simp [c_15])]) ?_
          refine wa_iconst (0) dX7_readWords_18 (by decide) ?_
          refine wa_zret dX7_readWords_19 rfl (by decide) ?_
          have e0 : wdN (chF M tx sz) 4 p = i := by rw [hw, show 4 - i = (3 - i) + 1 by omega]; simp only [wdN]; rw [← hch, if_neg (by simp [c_15])]; rfl
          refine ⟨by rw [e0, decide_eq_false (by omega)]; rfl, hS, hN2, by rw [e0]; exact hN3, hNc, hNo, fun h9 => absurd h9 (by omega)⟩
  exact L_2 _ 0 M (Nat.lt_succ_self _) (by omega) (Sc.rf M) rfl hp (fun _ _ _ => rfl) (fun _ _ => rfl) (fun j hj => absurd hj (Nat.not_lt_zero _)) (by simp)

theorem m_readSide {G : wm_G} {M : wm_M} (tx sz p : Nat) (hR : RdAt M tx sz p) (k : Nat) (hk : k < 6) (hp9 : p < 150) : MA G t_X7_readSide [wm_r G (27), .int (nI (k))] (M) (fun v_ N_ => v_ = some (.int (wB (sdEnd (chF M tx sz) (M.1 23 k) p).2)) ∧ Sc M N_ ∧ N_.1 27 2 = M.1 27 2 ∧ N_.1 27 3 = nI (sdEnd (chF M tx sz) (M.1 23 k) p).1 ∧ N_.1 22 = M.1 22 ∧ N_.1 23 = M.1 23 ∧ (∀ j, (j < 4 * k ∨ 4 * k + 4 ≤ j) → N_.1 24 j = M.1 24 j) ∧ (∀ j, j ≠ k → N_.1 25 j = M.1 25 j ∧ N_.1 26 j = M.1 26 j) ∧ ((sdEnd (chF M tx sz) (M.1 23 k) p).2 = true → (∀ i, i < 4 → N_.1 24 (4 * k + i) = if M.1 23 k = 4 ∧ chF M tx sz p - 48 = nI i then -1 else M.1 24 (4 * k + i)) ∧ N_.1 25 k = (if isOfB (M.1 23 k) 1 then chF M tx sz p - 48 else -9) ∧ (M.1 23 k = 1 → N_.1 26 k = chF M tx sz (p + 1) - 97))) := by
  obtain ⟨htx, ht, hp, hs, hsz, hp2⟩ := id hR
  have hR0 : RdAt (wI M 25 k (-9)) tx sz p := hR.sc (Sc.w (by decide)) (by rw [wI_c (by decide)]) (by rw [wI_c (by decide)]; exact hp) hp2
  have hc0 : chF (wI M 25 k (-9)) tx sz = chF M tx sz := (Sc.w (by decide)).ch htx
  refine wm_met (by decide) (Nat.le_of_ble_eq_true rfl) ?_
  show WA G t_X7_readSide (fun v_ N_ => v_ = some (.int (wB (sdEnd (chF M tx sz) (M.1 23 k) p).2)) ∧ Sc M N_ ∧ N_.1 27 2 = M.1 27 2 ∧ N_.1 27 3 = nI (sdEnd (chF M tx sz) (M.1 23 k) p).1 ∧ N_.1 22 = M.1 22 ∧ N_.1 23 = M.1 23 ∧ (∀ j, (j < 4 * k ∨ 4 * k + 4 ≤ j) → N_.1 24 j = M.1 24 j) ∧ (∀ j, j ≠ k → N_.1 25 j = M.1 25 j ∧ N_.1 26 j = M.1 26 j) ∧ ((sdEnd (chF M tx sz) (M.1 23 k) p).2 = true → (∀ i, i < 4 → N_.1 24 (4 * k + i) = if M.1 23 k = 4 ∧ chF M tx sz p - 48 = nI i then -1 else M.1 24 (4 * k + i)) ∧ N_.1 25 k = (if isOfB (M.1 23 k) 1 then chF M tx sz p - 48 else -9) ∧ (M.1 23 k = 1 → N_.1 26 k = chF M tx sz (p + 1) - 97))) 0 [(0, wm_r G (27)), (1, .int (nI (k)))] [] (M)
  refine wa_aload_n dX7_readSide_0 rfl 0 rfl ?_
  refine wa_getr gX7_readSide_1 (rfl) rfl ?_
  refine wa_getr gX7_readSide_4 (rfl) rfl ?_
  refine wa_iload_n dX7_readSide_7 rfl 1 rfl ?_
  refine wa_bipush (-9) dX7_readSide_8 (by decide) ?_
  refine wa_iastN (e := k) dX7_readSide_10 (rfl) (by omega) (by decide) ?_
  refine wa_aload_n dX7_readSide_11 rfl 0 rfl ?_
  refine wa_getr gX7_readSide_12 (rfl) rfl ?_
  refine wa_iload_n dX7_readSide_15 rfl 1 rfl ?_
  refine wa_iconst (1) dX7_readSide_16 (by decide) ?_
  refine wa_cVi (m_isOf 22 SO_22 k 1 hk) vX4_isOf iX7_readSide_17 (rfl) rfl rfl rfl (Nat.le_of_ble_eq_true rfl) ⟨by decide, by decide⟩ ?_
  refine wa_eqi (y := (wB (isOfB (M.1 23 k) 1))) (by rw [wI_c (by decide)]) ?_
  refine wa_if_neB 25 dX7_readSide_20 (by decide) (fun (c_20 : (isOfB (M.1 23 k) 1) = true) => ?_) (fun (c_20 : (isOfB (M.1 23 k) 1) = false) => ?_)
  · refine wa_aload_n dX7_readSide_25 rfl 0 rfl ?_
    refine wa_bipush (48) dX7_readSide_26 (by decide) ?_
    refine wa_bipush (51) dX7_readSide_28 (by decide) ?_
    refine wa_cVi (m_readSign tx sz p hR0 48 51) vX7_readSign iX7_readSide_30 (rfl) rfl rfl rfl (Nat.le_of_ble_eq_true rfl) ⟨by decide, by decide⟩ ?_
    refine wa_if_neB 38 dX7_readSide_33 (by decide) (fun (c_33 : (inC (chF (wI M 25 k (-9)) tx sz p) 48 51) = true) => ?_) (fun (c_33 : (inC (chF (wI M 25 k (-9)) tx sz p) 48 51) = false) => ?_)
    · rw [hc0] at c_33
      obtain ⟨sd, hsd, esd⟩ := fig_of c_33
      rw [← hc0] at c_33
      refine wa_eqm (M' := wI (wI (wI M 25 k (-9)) 27 4 (chF (wI M 25 k (-9)) tx sz p - 48)) 27 3 (nI (p + 1))) (by rw [if_pos c_33]) ?_
      refine wa_aload_n dX7_readSide_38 rfl 0 rfl ?_
      refine wa_getr gX7_readSide_39 (rfl) rfl ?_
      refine wa_getr gX7_readSide_42 (rfl) rfl ?_
      refine wa_iload_n dX7_readSide_45 rfl 1 rfl ?_
      refine wa_aload_n dX7_readSide_46 rfl 0 rfl ?_
      refine wa_geti gX7_readSide_47 (rfl) rfl ?_
      refine wa_eqi (y := (nI (sd))) (by rw [wI_ne (by decide), wI_at, hc0]; exact esd) ?_
      refine wa_iastN (e := k) dX7_readSide_50 (rfl) (by omega) (by decide) ?_
      refine wa_aload_n dX7_readSide_51 rfl 0 rfl ?_
      refine wa_getr gX7_readSide_52 (rfl) rfl ?_
      refine wa_getr gX7_readSide_55 (rfl) rfl ?_
      refine wa_iload_n dX7_readSide_58 rfl 1 rfl ?_
      refine wa_ialdN (e := k) dX7_readSide_59 (rfl) (by omega) (by decide) ?_
      refine wa_eqi (y := (M.1 23 k)) (by rw [wI_c (by decide), wI_c (by decide), wI_c (by decide), wI_c (by decide)]) ?_
      refine wa_iconst (4) dX7_readSide_60 (by decide) ?_
      refine wa_icmp_ne 83 dX7_readSide_61 (by decide) (fun c_61 => ?_) (fun c_61 => ?_)
      · have hR2 : RdAt (wI (wI (wI (wI M 25 k (-9)) 27 4 (chF (wI M 25 k (-9)) tx sz p - 48)) 27 3 (nI (p + 1))) 25 k (nI sd)) tx sz (p + 1) := hR.sc ((((Sc.w (by decide)).tr (Sc.w (by decide))).tr (Sc.w (by decide))).tr (Sc.w (by decide))) (by rw [wI_c (by decide), wI_ne (by decide), wI_ne (by decide), wI_c (by decide)]) (by rw [wI_c (by decide), wI_at]) (by omega)
        have hc2 : chF (wI (wI (wI (wI M 25 k (-9)) 27 4 (chF (wI M 25 k (-9)) tx sz p - 48)) 27 3 (nI (p + 1))) 25 k (nI sd)) tx sz = chF M tx sz := ((((Sc.w (by decide)).tr (Sc.w (by decide))).tr (Sc.w (by decide))).tr (Sc.w (by decide))).ch htx
        refine wa_aload_n dX7_readSide_83 rfl 0 rfl ?_
        refine wa_bipush (97) dX7_readSide_84 (by decide) ?_
        refine wa_bipush (104) dX7_readSide_86 (by decide) ?_
        refine wa_cVi (m_readSign tx sz (p + 1) hR2 97 104) vX7_readSign iX7_readSide_88 (rfl) rfl rfl rfl (Nat.le_of_ble_eq_true rfl) ⟨by decide, by decide⟩ ?_
        refine wa_if_neB 96 dX7_readSide_91 (by decide) (fun (c_91 : (inC (chF (wI (wI (wI (wI M 25 k (-9)) 27 4 (chF (wI M 25 k (-9)) tx sz p - 48)) 27 3 (nI (p + 1))) 25 k (nI sd)) tx sz (p + 1)) 97 104) = true) => ?_) (fun (c_91 : (inC (chF (wI (wI (wI (wI M 25 k (-9)) 27 4 (chF (wI M 25 k (-9)) tx sz p - 48)) 27 3 (nI (p + 1))) 25 k (nI sd)) tx sz (p + 1)) 97 104) = false) => ?_)
        · refine wa_eqm (M' := wI (wI (wI (wI (wI (wI M 25 k (-9)) 27 4 (chF (wI M 25 k (-9)) tx sz p - 48)) 27 3 (nI (p + 1))) 25 k (nI sd)) 27 4 (chF (wI (wI (wI (wI M 25 k (-9)) 27 4 (chF (wI M 25 k (-9)) tx sz p - 48)) 27 3 (nI (p + 1))) 25 k (nI sd)) tx sz (p + 1) - 97)) 27 3 (nI (p + 1 + 1))) (by rw [if_pos c_91]) ?_
          refine wa_aload_n dX7_readSide_96 rfl 0 rfl ?_
          refine wa_getr gX7_readSide_97 (rfl) rfl ?_
          refine wa_getr gX7_readSide_100 (rfl) rfl ?_
          refine wa_iload_n dX7_readSide_103 rfl 1 rfl ?_
          refine wa_aload_n dX7_readSide_104 rfl 0 rfl ?_
          refine wa_geti gX7_readSide_105 (rfl) rfl ?_
          refine wa_eqi (y := (chF (wI (wI (wI (wI M 25 k (-9)) 27 4 (chF (wI M 25 k (-9)) tx sz p - 48)) 27 3 (nI (p + 1))) 25 k (nI sd)) tx sz (p + 1) - 97)) (by rw [wI_ne (by decide), wI_at]) ?_
          refine wa_iastN (e := k) dX7_readSide_108 (rfl) (by omega) (by decide) ?_
          refine wa_iconst (1) dX7_readSide_109 (by decide) ?_
          refine wa_zret dX7_readSide_110 rfl (by decide) ?_
          rw [hc0] at c_33
          rw [hc2] at c_91
          have e0 : sdEnd (chF M tx sz) (M.1 23 k) p = (p + 2, true) := by unfold sdEnd; rw [if_neg (by simp [c_20]), if_neg (by simp [c_33]), if_neg c_61, if_neg (by simp [c_91])]
          rw [e0]
          exact ⟨rfl, ((((((Sc.w (by decide)).tr (Sc.w (by decide))).tr (Sc.w (by decide))).tr (Sc.w (by decide))).tr (Sc.w (by decide))).tr (Sc.w (by decide))).tr (Sc.w (by decide)), by rw [wI_c (by decide), wI_ne (by decide), wI_ne (by decide), wI_c (by decide), wI_ne (by decide), wI_ne (by decide), wI_c (by decide)], by rw [wI_c (by decide), wI_at], by rw [wI_c (by decide), wI_c (by decide), wI_c (by decide), wI_c (by decide), wI_c (by decide), wI_c (by decide), wI_c (by decide)], by rw [wI_c (by decide), wI_c (by decide), wI_c (by decide), wI_c (by decide), wI_c (by decide), wI_c (by decide), wI_c (by decide)], fun j hj => by rw [wI_c (by decide), wI_c (by decide), wI_c (by decide), wI_c (by decide), wI_c (by decide), wI_c (by decide), wI_c (by decide)], fun j hj => ⟨by rw [wI_c (by decide), wI_c (by decide), wI_c (by decide), wI_ne (by omega), wI_c (by decide), wI_c (by decide), wI_ne (by omega)], by rw [wI_ne (by omega), wI_c (by decide), wI_c (by decide), wI_c (by decide), wI_c (by decide), wI_c (by decide), wI_c (by decide)]⟩, fun _ => ⟨fun i hi => by rw [wI_c (by decide), wI_c (by decide), wI_c (by decide), wI_c (by decide), wI_c (by decide), wI_c (by decide), wI_c (by decide), if_neg (fun q => c_61 q.1)], by rw [wI_c (by decide), wI_c (by decide), wI_c (by decide), wI_at, if_pos c_20, esd], fun _ => by rw [wI_at, hc2]⟩⟩
        · refine wa_eqm (M' := wI (wI (wI (wI M 25 k (-9)) 27 4 (chF (wI M 25 k (-9)) tx sz p - 48)) 27 3 (nI (p + 1))) 25 k (nI sd)) (by rw [if_neg (by simp [c_91])]) ?_
          refine wa_iconst (0) dX7_readSide_94 (by decide) ?_
          refine wa_zret dX7_readSide_95 rfl (by decide) ?_
          rw [hc0] at c_33
          rw [hc2] at c_91
          have e0 : sdEnd (chF M tx sz) (M.1 23 k) p = (p + 1, false) := by unfold sdEnd; rw [if_neg (by simp [c_20]), if_neg (by simp [c_33]), if_neg c_61, if_pos c_91]
          rw [e0]
          exact ⟨rfl, (((Sc.w (by decide)).tr (Sc.w (by decide))).tr (Sc.w (by decide))).tr (Sc.w (by decide)), by rw [wI_c (by decide), wI_ne (by decide), wI_ne (by decide), wI_c (by decide)], by rw [wI_c (by decide), wI_at], by rw [wI_c (by decide), wI_c (by decide), wI_c (by decide), wI_c (by decide)], by rw [wI_c (by decide), wI_c (by decide), wI_c (by decide), wI_c (by decide)], fun j hj => by rw [wI_c (by decide), wI_c (by decide), wI_c (by decide), wI_c (by decide)], fun j hj => ⟨by rw [wI_ne (by omega), wI_c (by decide), wI_c (by decide), wI_ne (by omega)], by rw [wI_c (by decide), wI_c (by decide), wI_c (by decide), wI_c (by decide)]⟩, fun q => by cases q⟩
      · refine wa_aload_n dX7_readSide_64 rfl 0 rfl ?_
        refine wa_getr gX7_readSide_65 (rfl) rfl ?_
        refine wa_getr gX7_readSide_68 (rfl) rfl ?_
        refine wa_iconst (4) dX7_readSide_71 (by decide) ?_
        refine wa_iload_n dX7_readSide_72 rfl 1 rfl ?_
        refine wa_imulN (a := 4) (b := k) dX7_readSide_73 ?_
        refine wa_aload_n dX7_readSide_74 rfl 0 rfl ?_
        refine wa_geti gX7_readSide_75 (rfl) rfl ?_
        refine wa_eqi (y := (nI (sd))) (by rw [wI_c (by decide), wI_ne (by decide), wI_at, hc0]; exact esd) ?_
        refine wa_iaddN (a := 4 * k) (b := sd) dX7_readSide_78 ?_
        refine wa_iconst (-1) dX7_readSide_79 (by decide) ?_
        refine wa_iastN (e := 4 * k + sd) dX7_readSide_80 (rfl) (by omega) (by decide) ?_
        refine wa_iconst (1) dX7_readSide_81 (by decide) ?_
        refine wa_zret dX7_readSide_82 rfl (by decide) ?_
        rw [hc0] at c_33
        have e0 : sdEnd (chF M tx sz) (M.1 23 k) p = (p + 1, true) := by unfold sdEnd; rw [if_neg (by simp [c_20]), if_neg (by simp [c_33]), if_pos c_61]
        rw [e0]
        exact ⟨rfl, ((((Sc.w (by decide)).tr (Sc.w (by decide))).tr (Sc.w (by decide))).tr (Sc.w (by decide))).tr (Sc.w (by decide)), by rw [wI_c (by decide), wI_c (by decide), wI_ne (by decide), wI_ne (by decide), wI_c (by decide)], by rw [wI_c (by decide), wI_c (by decide), wI_at], by rw [wI_c (by decide), wI_c (by decide), wI_c (by decide), wI_c (by decide), wI_c (by decide)], by rw [wI_c (by decide), wI_c (by decide), wI_c (by decide), wI_c (by decide), wI_c (by decide)], fun j hj => by rw [wI_ne (by omega), wI_c (by decide), wI_c (by decide), wI_c (by decide), wI_c (by decide)], fun j hj => ⟨by rw [wI_c (by decide), wI_ne (by omega), wI_c (by decide), wI_c (by decide), wI_ne (by omega)], by rw [wI_c (by decide), wI_c (by decide), wI_c (by decide), wI_c (by decide), wI_c (by decide)]⟩, fun _ => ⟨fun i hi => by
          by_cases hh : i = sd
          · subst hh; rw [wI_at, if_pos ⟨c_61, esd⟩]
          · rw [wI_ne (by omega), wI_c (by decide), wI_c (by decide), wI_c (by decide), wI_c (by decide), if_neg (fun q => hh (((nI_eq (by omega) (by omega)).mp (esd.symm.trans q.2)).symm))], by rw [wI_c (by decide), wI_at, if_pos c_20, esd], fun q => by rw [c_61] at q; exact absurd q (by decide)⟩⟩
    · refine wa_eqm (M' := wI M 25 k (-9)) (by rw [if_neg (by simp [c_33])]) ?_
      refine wa_iconst (0) dX7_readSide_36 (by decide) ?_
      refine wa_zret dX7_readSide_37 rfl (by decide) ?_
      rw [hc0] at c_33
      have e0 : sdEnd (chF M tx sz) (M.1 23 k) p = (p, false) := by unfold sdEnd; rw [if_neg (by simp [c_20]), if_pos c_33]
      rw [e0]
      exact ⟨rfl, Sc.w (by decide), by rw [wI_c (by decide)], by rw [wI_c (by decide)]; exact hp, by rw [wI_c (by decide)], by rw [wI_c (by decide)], fun j _ => by rw [wI_c (by decide)], fun j hj => ⟨by rw [wI_ne (by omega)], by rw [wI_c (by decide)]⟩, fun q => by cases q⟩
  · refine wa_iconst (1) dX7_readSide_23 (by decide) ?_
    refine wa_zret dX7_readSide_24 rfl (by decide) ?_
    have e0 : sdEnd (chF M tx sz) (M.1 23 k) p = (p, true) := by unfold sdEnd; rw [if_pos c_20]
    rw [e0]
    exact ⟨rfl, Sc.w (by decide), by rw [wI_c (by decide)], by rw [wI_c (by decide)]; exact hp, by rw [wI_c (by decide)], by rw [wI_c (by decide)], fun j _ => by rw [wI_c (by decide)], fun j hj => ⟨by rw [wI_ne (by omega)], by rw [wI_c (by decide)]⟩, fun _ => ⟨fun i hi => by rw [wI_c (by decide), if_neg (fun q => by rw [q.1] at c_20; exact absurd c_20 (by decide))], by rw [wI_at, c_20]; rfl, fun q => by rw [q] at c_20; exact absurd c_20 (by decide)⟩⟩
