theorem m_faultOf {G : wm_G} {M : wm_M} (tx sz : Nat) (htx : tx < 4) (hs : M.1 16 tx = nI sz) (hsz : sz ≤ 80) : MA G t_X7_faultOf [wm_r G (27), .int (nI (tx))] (M) (FtP M tx sz) := by
  have hS0 : Sc M (wI (wI M 27 2 (nI tx)) 27 3 0) := (Sc.w (by decide)).tr (Sc.w (by decide))
  have hR0 : RdAt (wI (wI M 27 2 (nI tx)) 27 3 0) tx sz 0 := ⟨htx, by rw [wI_ne (by decide)]; exact wI_at, wI_at, by rw [hS0.1 16 (by decide)]; exact hs, hsz, by decide⟩
  have hc0 : chF (wI (wI M 27 2 (nI tx)) 27 3 0) tx sz = chF M tx sz := hS0.ch htx
  refine wm_met (by decide) (Nat.le_of_ble_eq_true rfl) ?_
  show WA G t_X7_faultOf (FtP M tx sz) 0 [(0, wm_r G (27)), (1, .int (nI (tx)))] [] (M)
  refine wa_aload_n dX7_faultOf_0 rfl 0 rfl ?_
  refine wa_iload_n dX7_faultOf_1 rfl 1 rfl ?_
  refine wa_puti gX7_faultOf_2 (rfl) rfl ?_
  refine wa_aload_n dX7_faultOf_5 rfl 0 rfl ?_
  refine wa_iconst (0) dX7_faultOf_6 (by decide) ?_
  refine wa_puti gX7_faultOf_7 (rfl) rfl ?_
  refine wa_aload_n dX7_faultOf_10 rfl 0 rfl ?_
  refine wa_callV (m_readSize tx sz hR0) vX7_readSize iX7_faultOf_11 (rfl) rfl rfl rfl (Nat.le_of_ble_eq_true rfl) ⟨by decide, by decide⟩ (fun v_ N1 h_ => ?_)
  obtain ⟨q1, ok1, rfl, hS1, h12, h13, h1t, h1f⟩ := h_
  show WA G t_X7_faultOf (FtP M tx sz) 14 [(0, wm_r G (27)), (1, .int (nI (tx)))] [.int (wB (ok1))] (N1)
  rw [hc0] at h1t h1f
  have hS01 := hS0.tr hS1
  refine wa_if_eqB 36 dX7_faultOf_14 (by decide) (fun (c_14 : (ok1) = false) => ?_) (fun (c_14 : (ok1) = true) => ?_)
  · refine wa_aload_n dX7_faultOf_36 rfl 0 rfl ?_
    refine wa_geti gX7_faultOf_37 (rfl) rfl ?_
    refine wa_iret dX7_faultOf_40 rfl ?_
    first
      | (have e0 : tFault (chF M tx sz) sz = -9 := by rw [tFault_ok hg, hpr]; simp only [prest]; rw [if_pos (by simpa using c_28)]
         exact ⟨by rw [e0], hS02.tr (Sc.w (by decide)), fun _ => ⟨hg, by rw [wI_c (by decide), h222]; exact hw1, by rw [wI_c (by decide), h222]; exact hh1, fun k hk => (hDr k hk).keep (by rw [wI_c (by decide)]) (fun i hi => by rw [wI_c (by decide)]) (by rw [wI_c (by decide)]) (by rw [wI_c (by decide)])⟩⟩)
      | (have e0 : tFault (chF M tx sz) sz = nI (skp (chF M tx sz) sz q2) := by rw [tFault_ok hg, hpr]; simp only [prest]; rw [if_neg (by simpa using c_28)]
         exact ⟨by rw [e0, wI_at], hS02.tr (Sc.w (by decide)), fun h9 => absurd (e0.symm.trans h9) (nI_ne9 (by omega))⟩)
      | (have e0 : tFault (chF M tx sz) sz = nI q2 := by rw [tFault_ok hg]; exact (h2f c_21).1
         exact ⟨by rw [e0, h23], hS02, fun h9 => absurd (e0.symm.trans h9) (nI_ne9 (by have := (h2f c_21).2; omega))⟩)
      | (have e0 := (h1f c_14).1
         exact ⟨by rw [e0, h13], hS01, fun h9 => absurd (e0.symm.trans h9) (nI_ne9 (by have := (h1f c_14).2; omega))⟩)
  · obtain ⟨e1, hg, hw1, hh1⟩ := h1t c_14
    subst e1
    have hgw := gW_of hg.2.1
    have hgh := gH_of hg.2.2
    have hlt := inC_lenof (by decide) hg.2.2
    have hR1 : RdAt N1 tx sz (skp (chF M tx sz) sz 0 + 3) := hR0.sc hS1 h12 h13 (by omega)
    have hc1 : chF N1 tx sz = chF M tx sz := hS01.ch htx
    refine wa_aload_n dX7_faultOf_17 rfl 0 rfl ?_
    refine wa_callV (m_readStones tx sz (gW (chF M tx sz) sz) (gH (chF M tx sz) sz) (skp (chF M tx sz) sz 0 + 3) hR1 (by omega) hw1 hh1 hgw.2.2 hgh.2.2) vX7_readStones iX7_faultOf_18 (rfl) rfl rfl rfl (Nat.le_of_ble_eq_true rfl) ⟨by decide, by decide⟩ (fun v_ N2 h_ => ?_)
    obtain ⟨q2, ok2, rfl, hS2, h222, h22, h23, h2t, h2f⟩ := h_
    show WA G t_X7_faultOf (FtP M tx sz) 21 [(0, wm_r G (27)), (1, .int (nI (tx)))] [.int (wB (ok2))] (N2)
    rw [hc1] at h2t h2f
    have hS02 := hS01.tr hS2
    refine wa_if_eqB 36 dX7_faultOf_21 (by decide) (fun (c_21 : (ok2) = false) => ?_) (fun (c_21 : (ok2) = true) => ?_)
    · refine wa_aload_n dX7_faultOf_36 rfl 0 rfl ?_
      refine wa_geti gX7_faultOf_37 (rfl) rfl ?_
      refine wa_iret dX7_faultOf_40 rfl ?_
      first
        | (have e0 : tFault (chF M tx sz) sz = -9 := by rw [tFault_ok hg, hpr]; simp only [prest]; rw [if_pos (by simpa using c_28)]
           exact ⟨by rw [e0], hS02.tr (Sc.w (by decide)), fun _ => ⟨hg, by rw [wI_c (by decide), h222]; exact hw1, by rw [wI_c (by decide), h222]; exact hh1, fun k hk => (hDr k hk).keep (by rw [wI_c (by decide)]) (fun i hi => by rw [wI_c (by decide)]) (by rw [wI_c (by decide)]) (by rw [wI_c (by decide)])⟩⟩)
        | (have e0 : tFault (chF M tx sz) sz = nI (skp (chF M tx sz) sz q2) := by rw [tFault_ok hg, hpr]; simp only [prest]; rw [if_neg (by simpa using c_28)]
           exact ⟨by rw [e0, wI_at], hS02.tr (Sc.w (by decide)), fun h9 => absurd (e0.symm.trans h9) (nI_ne9 (by omega))⟩)
        | (have e0 : tFault (chF M tx sz) sz = nI q2 := by rw [tFault_ok hg]; exact (h2f c_21).1
           exact ⟨by rw [e0, h23], hS02, fun h9 => absurd (e0.symm.trans h9) (nI_ne9 (by have := (h2f c_21).2; omega))⟩)
        | (have e0 := (h1f c_14).1
           exact ⟨by rw [e0, h13], hS01, fun h9 => absurd (e0.symm.trans h9) (nI_ne9 (by have := (h1f c_14).2; omega))⟩)
    · obtain ⟨hq2, hpr, hDr⟩ := h2t c_21
      have hR2 : RdAt N2 tx sz q2 := hR1.sc hS2 h22 h23 (by omega)
      have hc2 : chF N2 tx sz = chF M tx sz := hS02.ch htx
      have hsk := skp_le (ch := chF M tx sz) hq2
      refine wa_aload_n dX7_faultOf_24 rfl 0 rfl ?_
      refine wa_cVi (m_readEnd tx sz q2 hR2 hq2) vX7_readEnd iX7_faultOf_25 (rfl) rfl rfl rfl (Nat.le_of_ble_eq_true rfl) ⟨by decide, by decide⟩ ?_
      refine wa_eqi (y := (wB (decide (sz ≤ skp (chF M tx sz) sz q2)))) (by rw [hc2]) ?_
      refine wa_eqm (M' := wI N2 27 3 (nI (skp (chF M tx sz) sz q2))) (by rw [hc2]) ?_
      refine wa_if_eqB 36 dX7_faultOf_28 (by decide) (fun (c_28 : (decide (sz ≤ skp (chF M tx sz) sz q2)) = false) => ?_) (fun (c_28 : (decide (sz ≤ skp (chF M tx sz) sz q2)) = true) => ?_)
      · refine wa_aload_n dX7_faultOf_36 rfl 0 rfl ?_
        refine wa_geti gX7_faultOf_37 (rfl) rfl ?_
        refine wa_iret dX7_faultOf_40 rfl ?_
        first
          | (have e0 : tFault (chF M tx sz) sz = -9 := by rw [tFault_ok hg, hpr]; simp only [prest]; rw [if_pos (by simpa using c_28)]
             exact ⟨by rw [e0], hS02.tr (Sc.w (by decide)), fun _ => ⟨hg, by rw [wI_c (by decide), h222]; exact hw1, by rw [wI_c (by decide), h222]; exact hh1, fun k hk => (hDr k hk).keep (by rw [wI_c (by decide)]) (fun i hi => by rw [wI_c (by decide)]) (by rw [wI_c (by decide)]) (by rw [wI_c (by decide)])⟩⟩)
          | (have e0 : tFault (chF M tx sz) sz = nI (skp (chF M tx sz) sz q2) := by rw [tFault_ok hg, hpr]; simp only [prest]; rw [if_neg (by simpa using c_28)]
             exact ⟨by rw [e0, wI_at], hS02.tr (Sc.w (by decide)), fun h9 => absurd (e0.symm.trans h9) (nI_ne9 (by omega))⟩)
          | (have e0 : tFault (chF M tx sz) sz = nI q2 := by rw [tFault_ok hg]; exact (h2f c_21).1
             exact ⟨by rw [e0, h23], hS02, fun h9 => absurd (e0.symm.trans h9) (nI_ne9 (by have := (h2f c_21).2; omega))⟩)
          | (have e0 := (h1f c_14).1
             exact ⟨by rw [e0, h13], hS01, fun h9 => absurd (e0.symm.trans h9) (nI_ne9 (by have := (h1f c_14).2; omega))⟩)
      · refine wa_bipush (-9) dX7_faultOf_31 (by decide) ?_
        refine wa_goto 40 dX7_faultOf_33 (by decide) ?_
        refine wa_iret dX7_faultOf_40 rfl ?_
        first
          | (have e0 : tFault (chF M tx sz) sz = -9 := by rw [tFault_ok hg, hpr]; simp only [prest]; rw [if_pos (by simpa using c_28)]
             exact ⟨by rw [e0], hS02.tr (Sc.w (by decide)), fun _ => ⟨hg, by rw [wI_c (by decide), h222]; exact hw1, by rw [wI_c (by decide), h222]; exact hh1, fun k hk => (hDr k hk).keep (by rw [wI_c (by decide)]) (fun i hi => by rw [wI_c (by decide)]) (by rw [wI_c (by decide)]) (by rw [wI_c (by decide)])⟩⟩)
          | (have e0 : tFault (chF M tx sz) sz = nI (skp (chF M tx sz) sz q2) := by rw [tFault_ok hg, hpr]; simp only [prest]; rw [if_neg (by simpa using c_28)]
             exact ⟨by rw [e0, wI_at], hS02.tr (Sc.w (by decide)), fun h9 => absurd (e0.symm.trans h9) (nI_ne9 (by omega))⟩)
          | (have e0 : tFault (chF M tx sz) sz = nI q2 := by rw [tFault_ok hg]; exact (h2f c_21).1
             exact ⟨by rw [e0, h23], hS02, fun h9 => absurd (e0.symm.trans h9) (nI_ne9 (by have := (h2f c_21).2; omega))⟩)
          | (have e0 := (h1f c_14).1
             exact ⟨by rw [e0, h13], hS01, fun h9 => absurd (e0.symm.trans h9) (nI_ne9 (by have := (h1f c_14).2; omega))⟩)
