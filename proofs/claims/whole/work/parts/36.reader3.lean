theorem m_readEnd {G : wm_G} {M : wm_M} (tx sz p : Nat) (hR : RdAt M tx sz p) (hpz : p ≤ sz) : MD G t_X7_readEnd [wm_r G (27)] (M) (some (.int (wB (decide (sz ≤ skp (chF M tx sz) sz p))))) (wI M 27 3 (nI (skp (chF M tx sz) sz p))) := by
  obtain ⟨htx, ht, hp, hs, hsz, hp2⟩ := id hR
  have hsk := skp_le (ch := chF M tx sz) hpz
  refine wm_met (by decide) (Nat.le_of_ble_eq_true rfl) ?_
  show WA G t_X7_readEnd (fun v_ N_ => v_ = some (.int (wB (decide (sz ≤ skp (chF M tx sz) sz p)))) ∧ N_ = wI M 27 3 (nI (skp (chF M tx sz) sz p))) 0 [(0, wm_r G (27))] [] (M)
  refine wa_aload_n dX7_readEnd_0 rfl 0 rfl ?_
  refine wa_cVv (m_skipBlanks tx sz p hR) vX7_skipBlanks iX7_readEnd_1 (rfl) rfl rfl rfl (Nat.le_of_ble_eq_true rfl) ⟨by decide, by decide⟩ ?_
  refine wa_aload_n dX7_readEnd_4 rfl 0 rfl ?_
  refine wa_geti gX7_readEnd_5 (rfl) rfl ?_
  refine wa_eqi (y := (nI (skp (chF M tx sz) sz p))) (by rw [wI_at]) ?_
  refine wa_aload_n dX7_readEnd_8 rfl 0 rfl ?_
  refine wa_getr gX7_readEnd_9 (rfl) rfl ?_
  refine wa_aload_n dX7_readEnd_12 rfl 0 rfl ?_
  refine wa_geti gX7_readEnd_13 (rfl) rfl ?_
  refine wa_eqi (y := (nI (tx))) (by rw [wI_ne (by decide)]; exact ht) ?_
  refine wa_cVi (m_sizeN 10 4 80 TB_texts tx htx) vX5_size iX7_readEnd_16 (rfl) rfl rfl rfl (Nat.le_of_ble_eq_true rfl) ⟨by decide, by decide⟩ ?_
  refine wa_eqi (y := (nI (sz))) (by rw [show (wI M 27 3 (nI (skp (chF M tx sz) sz p))).1 (10 + 2 + 4) tx = nI sz from hs, nI_clamp (by omega)]) ?_
  refine wa_icmp_ltN (a := skp (chF M tx sz) sz p) (b := sz) 26 dX7_readEnd_19 (by decide) (by omega) (by omega) (fun c_19 => ?_) (fun c_19 => ?_)
  · refine wa_iconst (0) dX7_readEnd_26 (by decide) ?_
    exact wa_zret dX7_readEnd_27 rfl (by decide) ⟨congrArg (fun z => some (Value.int z)) (by first | (rw [decide_eq_false (by omega)]; rfl) | (rw [decide_eq_true (by omega)]; rfl)), rfl⟩
  · refine wa_iconst (1) dX7_readEnd_22 (by decide) ?_
    refine wa_goto 27 dX7_readEnd_23 (by decide) ?_
    exact wa_zret dX7_readEnd_27 rfl (by decide) ⟨congrArg (fun z => some (Value.int z)) (by first | (rw [decide_eq_false (by omega)]; rfl) | (rw [decide_eq_true (by omega)]; rfl)), rfl⟩
