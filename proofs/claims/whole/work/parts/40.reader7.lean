theorem m_readSize {G : wm_G} {M : wm_M} (tx sz : Nat) (hR : RdAt M tx sz 0) : MA G t_X7_readSize [wm_r G (27)] (M) (RzP M tx sz) := by
  obtain ⟨htx, ht, hpp, hs, hsz, hp2⟩ := id hR
  have hq := skp_le (ch := chF M tx sz) (Nat.zero_le sz)
  refine wm_met (by decide) (Nat.le_of_ble_eq_true rfl) ?_
  show WA G t_X7_readSize (RzP M tx sz) 0 [(0, wm_r G (27))] [] (M)
  refine wa_aload_n dX7_readSize_0 rfl 0 rfl ?_
  refine wa_cVv (m_skipBlanks tx sz 0 hR) vX7_skipBlanks iX7_readSize_1 (rfl) rfl rfl rfl (Nat.le_of_ble_eq_true rfl) ⟨by decide, by decide⟩ ?_
  have hR1 : RdAt (wI M 27 3 (nI (skp (chF M tx sz) sz 0))) tx sz (skp (chF M tx sz) sz 0) := hR.sc (Sc.w (by decide)) (by rw [wI_ne (by decide)]) (by first | exact wI_at | (rw [wI_c (by decide)]; exact wI_at)) (by omega)
  have hc1 : chF (wI M 27 3 (nI (skp (chF M tx sz) sz 0))) tx sz = chF M tx sz := (Sc.w (by decide)).ch htx
  refine wa_aload_n dX7_readSize_4 rfl 0 rfl ?_
  refine wa_bipush (103) dX7_readSize_5 (by decide) ?_
  refine wa_bipush (103) dX7_readSize_7 (by decide) ?_
  refine wa_cVi (m_readSign tx sz (skp (chF M tx sz) sz 0) hR1 103 103) vX7_readSign iX7_readSize_9 (rfl) rfl rfl rfl (Nat.le_of_ble_eq_true rfl) ⟨by decide, by decide⟩ ?_
  refine wa_eqi (y := (wB (inC (chF M tx sz (skp (chF M tx sz) sz 0)) 103 103))) (by rw [hc1]) ?_
  refine wa_eqm (M' := if inC (chF M tx sz (skp (chF M tx sz) sz 0)) 103 103 then wI (wI (wI M 27 3 (nI (skp (chF M tx sz) sz 0))) 27 4 (chF M tx sz (skp (chF M tx sz) sz 0) - 103)) 27 3 (nI (skp (chF M tx sz) sz 0 + 1)) else wI M 27 3 (nI (skp (chF M tx sz) sz 0))) (by rw [hc1]) ?_
  refine wa_if_eqB 26 dX7_readSize_12 (by decide) (fun (c_12 : (inC (chF M tx sz (skp (chF M tx sz) sz 0)) 103 103) = false) => ?_) (fun (c_12 : (inC (chF M tx sz (skp (chF M tx sz) sz 0)) 103 103) = true) => ?_)
  · refine wa_eqm (M' := wI M 27 3 (nI (skp (chF M tx sz) sz 0))) (by rw [if_neg (by simp [c_12])]) ?_
    refine wa_iconst (0) dX7_readSize_26 (by decide) ?_
    refine wa_zret dX7_readSize_27 rfl (by decide) ?_
    first
      | (exact ⟨skp (chF M tx sz) sz 0, false, rfl, Sc.w (by decide), by rw [wI_ne (by decide)], wI_at, fun q => (by cases q), fun _ => ⟨by unfold tFault; rw [if_pos c_12], by omega⟩⟩)
      | (exact ⟨skp (chF M tx sz) sz 0 + 1, false, rfl, ((Sc.w (by decide)).tr (Sc.w (by decide))).tr (Sc.w (by decide)), by rw [wI_ne (by decide), wI_ne (by decide), wI_ne (by decide)], wI_at, fun q => (by cases q), fun _ => ⟨by unfold tFault; rw [if_neg (by simp [c_12]), if_pos c_23], by omega⟩⟩)
  · refine wa_eqm (M' := wI (wI (wI M 27 3 (nI (skp (chF M tx sz) sz 0))) 27 4 (chF M tx sz (skp (chF M tx sz) sz 0) - 103)) 27 3 (nI (skp (chF M tx sz) sz 0 + 1))) (by rw [if_pos c_12]) ?_
    have hR2 : RdAt (wI (wI (wI M 27 3 (nI (skp (chF M tx sz) sz 0))) 27 4 (chF M tx sz (skp (chF M tx sz) sz 0) - 103)) 27 3 (nI (skp (chF M tx sz) sz 0 + 1))) tx sz (skp (chF M tx sz) sz 0 + 1) := hR.sc (((Sc.w (by decide)).tr (Sc.w (by decide))).tr (Sc.w (by decide))) (by rw [wI_ne (by decide), wI_ne (by decide), wI_ne (by decide)]) (by first | exact wI_at | (rw [wI_c (by decide)]; exact wI_at)) (by omega)
    have hc2 : chF (wI (wI (wI M 27 3 (nI (skp (chF M tx sz) sz 0))) 27 4 (chF M tx sz (skp (chF M tx sz) sz 0) - 103)) 27 3 (nI (skp (chF M tx sz) sz 0 + 1))) tx sz = chF M tx sz := (((Sc.w (by decide)).tr (Sc.w (by decide))).tr (Sc.w (by decide))).ch htx
    refine wa_aload_n dX7_readSize_15 rfl 0 rfl ?_
    refine wa_bipush (49) dX7_readSize_16 (by decide) ?_
    refine wa_bipush (51) dX7_readSize_18 (by decide) ?_
    refine wa_cVi (m_readSign tx sz (skp (chF M tx sz) sz 0 + 1) hR2 49 51) vX7_readSign iX7_readSize_20 (rfl) rfl rfl rfl (Nat.le_of_ble_eq_true rfl) ⟨by decide, by decide⟩ ?_
    refine wa_eqi (y := (wB (inC (chF M tx sz (skp (chF M tx sz) sz 0 + 1)) 49 51))) (by rw [hc2]) ?_
    refine wa_eqm (M' := if inC (chF M tx sz (skp (chF M tx sz) sz 0 + 1)) 49 51 then wI (wI (wI (wI (wI M 27 3 (nI (skp (chF M tx sz) sz 0))) 27 4 (chF M tx sz (skp (chF M tx sz) sz 0) - 103)) 27 3 (nI (skp (chF M tx sz) sz 0 + 1))) 27 4 (chF M tx sz (skp (chF M tx sz) sz 0 + 1) - 49)) 27 3 (nI (skp (chF M tx sz) sz 0 + 1 + 1)) else wI (wI (wI M 27 3 (nI (skp (chF M tx sz) sz 0))) 27 4 (chF M tx sz (skp (chF M tx sz) sz 0) - 103)) 27 3 (nI (skp (chF M tx sz) sz 0 + 1))) (by rw [hc2]) ?_
    refine wa_if_neB 28 dX7_readSize_23 (by decide) (fun (c_23 : (inC (chF M tx sz (skp (chF M tx sz) sz 0 + 1)) 49 51) = true) => ?_) (fun (c_23 : (inC (chF M tx sz (skp (chF M tx sz) sz 0 + 1)) 49 51) = false) => ?_)
    · refine wa_eqm (M' := wI (wI (wI (wI (wI M 27 3 (nI (skp (chF M tx sz) sz 0))) 27 4 (chF M tx sz (skp (chF M tx sz) sz 0) - 103)) 27 3 (nI (skp (chF M tx sz) sz 0 + 1))) 27 4 (chF M tx sz (skp (chF M tx sz) sz 0 + 1) - 49)) 27 3 (nI (skp (chF M tx sz) sz 0 + 1 + 1))) (by rw [if_pos c_23]) ?_
      have hgw := gW_of c_23
      refine wa_aload_n dX7_readSize_28 rfl 0 rfl ?_
      refine wa_getr gX7_readSize_29 (rfl) rfl ?_
      refine wa_aload_n dX7_readSize_32 rfl 0 rfl ?_
      refine wa_geti gX7_readSize_33 (rfl) rfl ?_
      refine wa_eqi (y := (chF M tx sz (skp (chF M tx sz) sz 0 + 1) - 49)) (by rw [wI_ne (by decide), wI_at]) ?_
      refine wa_iconst (1) dX7_readSize_36 (by decide) ?_
      refine wa_iadd dX7_readSize_37 ?_
      refine wa_eqi (y := (nI (gW (chF M tx sz) sz))) (hgw.1) ?_
      refine wa_puti gX7_readSize_38 (rfl) rfl ?_
      have hR4 : RdAt (wI (wI (wI (wI (wI (wI M 27 3 (nI (skp (chF M tx sz) sz 0))) 27 4 (chF M tx sz (skp (chF M tx sz) sz 0) - 103)) 27 3 (nI (skp (chF M tx sz) sz 0 + 1))) 27 4 (chF M tx sz (skp (chF M tx sz) sz 0 + 1) - 49)) 27 3 (nI (skp (chF M tx sz) sz 0 + 1 + 1))) 22 0 (nI (gW (chF M tx sz) sz))) tx sz (skp (chF M tx sz) sz 0 + 1 + 1) := hR.sc ((((((Sc.w (by decide)).tr (Sc.w (by decide))).tr (Sc.w (by decide))).tr (Sc.w (by decide))).tr (Sc.w (by decide))).tr (Sc.w (by decide))) (by rw [wI_c (by decide), wI_ne (by decide), wI_ne (by decide), wI_ne (by decide), wI_ne (by decide), wI_ne (by decide)]) (by first | exact wI_at | (rw [wI_c (by decide)]; exact wI_at)) (by omega)
      have hc4 : chF (wI (wI (wI (wI (wI (wI M 27 3 (nI (skp (chF M tx sz) sz 0))) 27 4 (chF M tx sz (skp (chF M tx sz) sz 0) - 103)) 27 3 (nI (skp (chF M tx sz) sz 0 + 1))) 27 4 (chF M tx sz (skp (chF M tx sz) sz 0 + 1) - 49)) 27 3 (nI (skp (chF M tx sz) sz 0 + 1 + 1))) 22 0 (nI (gW (chF M tx sz) sz))) tx sz = chF M tx sz := ((((((Sc.w (by decide)).tr (Sc.w (by decide))).tr (Sc.w (by decide))).tr (Sc.w (by decide))).tr (Sc.w (by decide))).tr (Sc.w (by decide))).ch htx
      refine wa_aload_n dX7_readSize_41 rfl 0 rfl ?_
      refine wa_bipush (49) dX7_readSize_42 (by decide) ?_
      refine wa_bipush (50) dX7_readSize_44 (by decide) ?_
      refine wa_cVi (m_readSign tx sz (skp (chF M tx sz) sz 0 + 1 + 1) hR4 49 50) vX7_readSign iX7_readSize_46 (rfl) rfl rfl rfl (Nat.le_of_ble_eq_true rfl) ⟨by decide, by decide⟩ ?_
      refine wa_eqi (y := (wB (inC (chF M tx sz (skp (chF M tx sz) sz 0 + 1 + 1)) 49 50))) (by rw [hc4]) ?_
      refine wa_eqm (M' := if inC (chF M tx sz (skp (chF M tx sz) sz 0 + 1 + 1)) 49 50 then wI (wI (wI (wI (wI (wI (wI (wI M 27 3 (nI (skp (chF M tx sz) sz 0))) 27 4 (chF M tx sz (skp (chF M tx sz) sz 0) - 103)) 27 3 (nI (skp (chF M tx sz) sz 0 + 1))) 27 4 (chF M tx sz (skp (chF M tx sz) sz 0 + 1) - 49)) 27 3 (nI (skp (chF M tx sz) sz 0 + 1 + 1))) 22 0 (nI (gW (chF M tx sz) sz))) 27 4 (chF M tx sz (skp (chF M tx sz) sz 0 + 1 + 1) - 49)) 27 3 (nI (skp (chF M tx sz) sz 0 + 1 + 1 + 1)) else wI (wI (wI (wI (wI (wI M 27 3 (nI (skp (chF M tx sz) sz 0))) 27 4 (chF M tx sz (skp (chF M tx sz) sz 0) - 103)) 27 3 (nI (skp (chF M tx sz) sz 0 + 1))) 27 4 (chF M tx sz (skp (chF M tx sz) sz 0 + 1) - 49)) 27 3 (nI (skp (chF M tx sz) sz 0 + 1 + 1))) 22 0 (nI (gW (chF M tx sz) sz))) (by rw [hc4]) ?_
      refine wa_if_neB 54 dX7_readSize_49 (by decide) (fun (c_49 : (inC (chF M tx sz (skp (chF M tx sz) sz 0 + 1 + 1)) 49 50) = true) => ?_) (fun (c_49 : (inC (chF M tx sz (skp (chF M tx sz) sz 0 + 1 + 1)) 49 50) = false) => ?_)
      · refine wa_eqm (M' := wI (wI (wI (wI (wI (wI (wI (wI M 27 3 (nI (skp (chF M tx sz) sz 0))) 27 4 (chF M tx sz (skp (chF M tx sz) sz 0) - 103)) 27 3 (nI (skp (chF M tx sz) sz 0 + 1))) 27 4 (chF M tx sz (skp (chF M tx sz) sz 0 + 1) - 49)) 27 3 (nI (skp (chF M tx sz) sz 0 + 1 + 1))) 22 0 (nI (gW (chF M tx sz) sz))) 27 4 (chF M tx sz (skp (chF M tx sz) sz 0 + 1 + 1) - 49)) 27 3 (nI (skp (chF M tx sz) sz 0 + 1 + 1 + 1))) (by rw [if_pos c_49]) ?_
        have hgh := gH_of c_49
        refine wa_aload_n dX7_readSize_54 rfl 0 rfl ?_
        refine wa_getr gX7_readSize_55 (rfl) rfl ?_
        refine wa_aload_n dX7_readSize_58 rfl 0 rfl ?_
        refine wa_geti gX7_readSize_59 (rfl) rfl ?_
        refine wa_eqi (y := (chF M tx sz (skp (chF M tx sz) sz 0 + 1 + 1) - 49)) (by rw [wI_ne (by decide), wI_at]) ?_
        refine wa_iconst (1) dX7_readSize_62 (by decide) ?_
        refine wa_iadd dX7_readSize_63 ?_
        refine wa_eqi (y := (nI (gH (chF M tx sz) sz))) (hgh.1) ?_
        refine wa_puti gX7_readSize_64 (rfl) rfl ?_
        refine wa_iconst (1) dX7_readSize_67 (by decide) ?_
        refine wa_zret dX7_readSize_68 rfl (by decide) ?_
        exact ⟨skp (chF M tx sz) sz 0 + 3, true, rfl, ((((((((Sc.w (by decide)).tr (Sc.w (by decide))).tr (Sc.w (by decide))).tr (Sc.w (by decide))).tr (Sc.w (by decide))).tr (Sc.w (by decide))).tr (Sc.w (by decide))).tr (Sc.w (by decide))).tr (Sc.w (by decide)), by rw [wI_c (by decide), wI_ne (by decide), wI_ne (by decide), wI_c (by decide), wI_ne (by decide), wI_ne (by decide), wI_ne (by decide), wI_ne (by decide), wI_ne (by decide)], by rw [wI_c (by decide)]; exact wI_at, fun _ => ⟨rfl, ⟨c_12, c_23, c_49⟩, by rw [wI_ne (by decide), wI_c (by decide), wI_c (by decide), wI_at], wI_at⟩, fun q => by cases q⟩
      · refine wa_eqm (M' := wI (wI (wI (wI (wI (wI M 27 3 (nI (skp (chF M tx sz) sz 0))) 27 4 (chF M tx sz (skp (chF M tx sz) sz 0) - 103)) 27 3 (nI (skp (chF M tx sz) sz 0 + 1))) 27 4 (chF M tx sz (skp (chF M tx sz) sz 0 + 1) - 49)) 27 3 (nI (skp (chF M tx sz) sz 0 + 1 + 1))) 22 0 (nI (gW (chF M tx sz) sz))) (by rw [if_neg (by simp [c_49])]) ?_
        refine wa_iconst (0) dX7_readSize_52 (by decide) ?_
        refine wa_zret dX7_readSize_53 rfl (by decide) ?_
        exact ⟨skp (chF M tx sz) sz 0 + 2, false, rfl, (((((Sc.w (by decide)).tr (Sc.w (by decide))).tr (Sc.w (by decide))).tr (Sc.w (by decide))).tr (Sc.w (by decide))).tr (Sc.w (by decide)), by rw [wI_c (by decide), wI_ne (by decide), wI_ne (by decide), wI_ne (by decide), wI_ne (by decide), wI_ne (by decide)], by rw [wI_c (by decide)]; exact wI_at, fun q => (by cases q), fun _ => ⟨by unfold tFault; rw [if_neg (by simp [c_12]), if_neg (by simp [c_23]), if_pos c_49], by omega⟩⟩
    · refine wa_eqm (M' := wI (wI (wI M 27 3 (nI (skp (chF M tx sz) sz 0))) 27 4 (chF M tx sz (skp (chF M tx sz) sz 0) - 103)) 27 3 (nI (skp (chF M tx sz) sz 0 + 1))) (by rw [if_neg (by simp [c_23])]) ?_
      refine wa_iconst (0) dX7_readSize_26 (by decide) ?_
      refine wa_zret dX7_readSize_27 rfl (by decide) ?_
      first
        | (exact ⟨skp (chF M tx sz) sz 0, false, rfl, Sc.w (by decide), by rw [wI_ne (by decide)], wI_at, fun q => (by cases q), fun _ => ⟨by unfold tFault; rw [if_pos c_12], by omega⟩⟩)
        | (exact ⟨skp (chF M tx sz) sz 0 + 1, false, rfl, ((Sc.w (by decide)).tr (Sc.w (by decide))).tr (Sc.w (by decide)), by rw [wI_ne (by decide), wI_ne (by decide), wI_ne (by decide)], wI_at, fun q => (by cases q), fun _ => ⟨by unfold tFault; rw [if_neg (by simp [c_12]), if_pos c_23], by omega⟩⟩)
