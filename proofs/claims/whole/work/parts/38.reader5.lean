theorem m_readStones {G : wm_G} {M : wm_M} (tx sz w h p0 : Nat) (hR : RdAt M tx sz p0) (hp0 : p0 ≤ sz) (hw : M.1 22 0 = nI w) (hh : M.1 22 1 = nI h) (hw3 : w ≤ 3) (hh2 : h ≤ 2) : MA G t_X7_readStones [wm_r G (27)] (M) (RsP M tx sz w h p0) := by
  obtain ⟨htx, ht, hpp, hs, hsz, hp2⟩ := id hR
  have hn6 : w * h ≤ 6 := Nat.le_trans (Nat.mul_le_mul hw3 hh2) (by decide)
  refine wm_met (by decide) (Nat.le_of_ble_eq_true rfl) ?_
  show WA G t_X7_readStones (RsP M tx sz w h p0) 0 [(0, wm_r G (27))] [] (M)
  refine wa_iconst (0) dX7_readStones_0 (by decide) ?_
  refine wa_istore_n [(1, .int (0)), (0, wm_r G (27))] dX7_readStones_1 rfl (by decide) rfl ?_
  have L_2 : ∀ (n_ : Nat) (k p : Nat) (N : wm_M), (w * h - k) < n_ → (k ≤ w * h) → (p ≤ sz) → (Sc M N) → (N.1 22 = M.1 22) → (N.1 27 2 = M.1 27 2) → (N.1 27 3 = nI p) → (prest (chF M tx sz) sz (w * h) p0 = prest (chF M tx sz) sz (w * h - k) p) → (∀ i, stAt (chF M tx sz) sz (k + i) p0 = stAt (chF M tx sz) sz i p) → (∀ k2, k2 < k → Dr N (chF M tx sz) k2 (stAt (chF M tx sz) sz k2 p0)) → WA G t_X7_readStones (RsP M tx sz w h p0) 2 [(1, .int (nI (k))), (0, wm_r G (27))] [] (N) := by
    intro n_
    induction n_ with
    | zero => intro k p N h_; exact absurd h_ (Nat.not_lt_zero _)
    | succ n_ ih_2 =>
      intro k p N h_ hk hpz hS hN22 hN2 hN3 hpr hst hDr
      have hRN : RdAt N tx sz p := hR.sc hS hN2 hN3 (by omega)
      have hch : chF N tx sz = chF M tx sz := hS.ch htx
      have hq := skp_le (ch := chF M tx sz) hpz
      refine wa_iload_n dX7_readStones_2 rfl 0 rfl ?_
      refine wa_aload_n dX7_readStones_3 rfl 1 rfl ?_
      refine wa_getr gX7_readStones_4 (rfl) rfl ?_
      refine wa_cVi (m_number 22 w h SO_22 (by rw [hN22]; exact hw) (by rw [hN22]; exact hh)) vX4_number iX7_readStones_7 (rfl) rfl rfl rfl (Nat.le_of_ble_eq_true rfl) ⟨by decide, by decide⟩ ?_
      refine wa_icmp_geN (a := k) (b := w * h) 49 dX7_readStones_10 (by decide) (by omega) (by omega) (fun c_10 => ?_) (fun c_10 => ?_)
      · refine wa_iconst (1) dX7_readStones_49 (by decide) ?_
        refine wa_zret dX7_readStones_50 rfl (by decide) ?_
        have hkn : k = w * h := by omega
        exact ⟨p, true, rfl, hS, hN22, hN2, hN3, fun _ => ⟨hpz, by rw [hpr, hkn, Nat.sub_self], fun k2 hk2 => hDr k2 (by omega)⟩, fun q => by cases q⟩
      · refine wa_aload_n dX7_readStones_13 rfl 1 rfl ?_
        refine wa_cVv (m_skipBlanks tx sz p hRN) vX7_skipBlanks iX7_readStones_14 (rfl) rfl rfl rfl (Nat.le_of_ble_eq_true rfl) ⟨by decide, by decide⟩ ?_
        refine wa_eqm (M' := wI N 27 3 (nI (skp (chF M tx sz) sz p))) (by rw [hch]) ?_
        have hRa : RdAt (wI N 27 3 (nI (skp (chF M tx sz) sz p))) tx sz (skp (chF M tx sz) sz p) := hRN.sc (Sc.w (by decide)) (by rw [wI_ne (by decide)]) wI_at (by omega)
        have hcha : chF (wI N 27 3 (nI (skp (chF M tx sz) sz p))) tx sz = chF M tx sz := (hS.tr (Sc.w (by decide))).ch htx
        refine wa_aload_n dX7_readStones_17 rfl 1 rfl ?_
        refine wa_iload_n dX7_readStones_18 rfl 0 rfl ?_
        refine wa_cVi (m_readKind tx sz (skp (chF M tx sz) sz p) hRa k (by omega)) vX7_readKind iX7_readStones_19 (rfl) rfl rfl rfl (Nat.le_of_ble_eq_true rfl) ⟨by decide, by decide⟩ ?_
        refine wa_eqi (y := (wB (!decide (kindC (chF M tx sz (skp (chF M tx sz) sz p)) = -9)))) (by rw [hcha]) ?_
        refine wa_eqm (M' := if kindC (chF M tx sz (skp (chF M tx sz) sz p)) = -9 then wI N 27 3 (nI (skp (chF M tx sz) sz p)) else wI (wI (wI N 27 3 (nI (skp (chF M tx sz) sz p))) 23 k (kindC (chF M tx sz (skp (chF M tx sz) sz p)))) 27 3 (nI (skp (chF M tx sz) sz p + 1))) (by rw [hcha]) ?_
        refine wa_if_eqB 41 dX7_readStones_22 (by decide) (fun (c_22 : (!decide (kindC (chF M tx sz (skp (chF M tx sz) sz p)) = -9)) = false) => ?_) (fun (c_22 : (!decide (kindC (chF M tx sz (skp (chF M tx sz) sz p)) = -9)) = true) => ?_)
        · have hkc : kindC (chF M tx sz (skp (chF M tx sz) sz p)) = -9 := by simpa using c_22
          refine wa_eqm (M' := wI N 27 3 (nI (skp (chF M tx sz) sz p))) (by rw [if_pos hkc]) ?_
          refine wa_iconst (0) dX7_readStones_41 (by decide) ?_
          refine wa_zret dX7_readStones_42 rfl (by decide) ?_
          first
            | (refine ⟨skp (chF M tx sz) sz p, false, rfl, hS.tr (Sc.w (by decide)), by rw [wI_c (by decide)]; exact hN22, by rw [wI_ne (by decide)]; exact hN2, wI_at, fun q => (by cases q), fun _ => ?_⟩
               exact ⟨by rw [hpr, prest_f (by omega) (by rw [stEnd_k hkc]), stEnd_k hkc], by omega⟩)
            | (refine ⟨_, false, rfl, hS.tr ((((Sc.w (by decide)).tr (Sc.w (by decide))).tr (Sc.w (by decide))).tr hS3), by rw [h3c 22 (by decide) (by decide), wI_c (by decide), wI_c (by decide), wI_c (by decide)]; exact hN22, by rw [h32, wI_ne (by decide), wI_c (by decide), wI_ne (by decide)]; exact hN2, h33, fun q => (by cases q), fun _ => ?_⟩
               exact ⟨by rw [hpr, prest_f (by omega) (by rw [stEnd_w hkc hwd]), stEnd_w hkc hwd], by have := wdN_le (chF M tx sz) 4 (skp (chF M tx sz) sz p + 1); omega⟩)
            | (refine ⟨_, false, rfl, hS5, by rw [h422, h3c 22 (by decide) (by decide), wI_c (by decide), wI_c (by decide), wI_c (by decide)]; exact hN22, by rw [h42, h32, wI_ne (by decide), wI_c (by decide), wI_ne (by decide)]; exact hN2, h43, fun q => (by cases q), fun _ => ?_⟩
               exact ⟨by rw [hpr, prest_f (by omega) c_38], Nat.lt_of_le_of_lt (by rw [stEnd_s hkc hwd]; exact sdEnd_le (by omega)) (by omega : sz < 200)⟩)
        · have hkc : ¬ kindC (chF M tx sz (skp (chF M tx sz) sz p)) = -9 := by simpa using c_22
          have hqlt := kindC_lt hkc
          refine wa_eqm (M' := wI (wI (wI N 27 3 (nI (skp (chF M tx sz) sz p))) 23 k (kindC (chF M tx sz (skp (chF M tx sz) sz p)))) 27 3 (nI (skp (chF M tx sz) sz p + 1))) (by rw [if_neg hkc]) ?_
          have hRb : RdAt (wI (wI (wI N 27 3 (nI (skp (chF M tx sz) sz p))) 23 k (kindC (chF M tx sz (skp (chF M tx sz) sz p)))) 27 3 (nI (skp (chF M tx sz) sz p + 1))) tx sz (skp (chF M tx sz) sz p + 1) := hRN.sc (((Sc.w (by decide)).tr (Sc.w (by decide))).tr (Sc.w (by decide))) (by rw [wI_ne (by decide), wI_c (by decide), wI_ne (by decide)]) wI_at (by omega)
          have hchb : chF (wI (wI (wI N 27 3 (nI (skp (chF M tx sz) sz p))) 23 k (kindC (chF M tx sz (skp (chF M tx sz) sz p)))) 27 3 (nI (skp (chF M tx sz) sz p + 1))) tx sz = chF M tx sz := (hS.tr (((Sc.w (by decide)).tr (Sc.w (by decide))).tr (Sc.w (by decide)))).ch htx
          refine wa_aload_n dX7_readStones_25 rfl 1 rfl ?_
          refine wa_iload_n dX7_readStones_26 rfl 0 rfl ?_
          refine wa_callV (m_readWords tx sz (skp (chF M tx sz) sz p + 1) hRb k (by omega) (by omega)) vX7_readWords iX7_readStones_27 (rfl) rfl rfl rfl (Nat.le_of_ble_eq_true rfl) ⟨by decide, by decide⟩ (fun v_ N3 h_ => ?_)
          obtain ⟨rfl, hS3, h32, h33, h3c, h3o, h3w⟩ := h_
          show WA G t_X7_readStones (RsP M tx sz w h p0) 30 [(1, .int (nI (k))), (0, wm_r G (27))] [.int (wB (decide (wdN (chF (wI (wI (wI N 27 3 (nI (skp (chF M tx sz) sz p))) 23 k (kindC (chF M tx sz (skp (chF M tx sz) sz p)))) 27 3 (nI (skp (chF M tx sz) sz p + 1))) tx sz) 4 (skp (chF M tx sz) sz p + 1) = 4)))] (N3)
          refine wa_eqi (y := (wB (decide (wdN (chF M tx sz) 4 (skp (chF M tx sz) sz p + 1) = 4)))) (by rw [hchb]) ?_
          rw [hchb] at h33 h3w
          refine wa_if_eqB 41 dX7_readStones_30 (by decide) (fun (c_30 : (decide (wdN (chF M tx sz) 4 (skp (chF M tx sz) sz p + 1) = 4)) = false) => ?_) (fun (c_30 : (decide (wdN (chF M tx sz) 4 (skp (chF M tx sz) sz p + 1) = 4)) = true) => ?_)
          · have hwd : ¬ wdN (chF M tx sz) 4 (skp (chF M tx sz) sz p + 1) = 4 := by simpa using c_30
            refine wa_iconst (0) dX7_readStones_41 (by decide) ?_
            refine wa_zret dX7_readStones_42 rfl (by decide) ?_
            first
              | (refine ⟨skp (chF M tx sz) sz p, false, rfl, hS.tr (Sc.w (by decide)), by rw [wI_c (by decide)]; exact hN22, by rw [wI_ne (by decide)]; exact hN2, wI_at, fun q => (by cases q), fun _ => ?_⟩
                 exact ⟨by rw [hpr, prest_f (by omega) (by rw [stEnd_k hkc]), stEnd_k hkc], by omega⟩)
              | (refine ⟨_, false, rfl, hS.tr ((((Sc.w (by decide)).tr (Sc.w (by decide))).tr (Sc.w (by decide))).tr hS3), by rw [h3c 22 (by decide) (by decide), wI_c (by decide), wI_c (by decide), wI_c (by decide)]; exact hN22, by rw [h32, wI_ne (by decide), wI_c (by decide), wI_ne (by decide)]; exact hN2, h33, fun q => (by cases q), fun _ => ?_⟩
                 exact ⟨by rw [hpr, prest_f (by omega) (by rw [stEnd_w hkc hwd]), stEnd_w hkc hwd], by have := wdN_le (chF M tx sz) 4 (skp (chF M tx sz) sz p + 1); omega⟩)
              | (refine ⟨_, false, rfl, hS5, by rw [h422, h3c 22 (by decide) (by decide), wI_c (by decide), wI_c (by decide), wI_c (by decide)]; exact hN22, by rw [h42, h32, wI_ne (by decide), wI_c (by decide), wI_ne (by decide)]; exact hN2, h43, fun q => (by cases q), fun _ => ?_⟩
                 exact ⟨by rw [hpr, prest_f (by omega) c_38], Nat.lt_of_le_of_lt (by rw [stEnd_s hkc hwd]; exact sdEnd_le (by omega)) (by omega : sz < 200)⟩)
          · have hwd : wdN (chF M tx sz) 4 (skp (chF M tx sz) sz p + 1) = 4 := by simpa using c_30
            have hwl := wdN_lt hwd (by decide)
            rw [hwd] at h33
            have hSb := hS.tr ((((Sc.w (by decide)).tr (Sc.w (by decide))).tr (Sc.w (by decide))).tr hS3)
            have hR3 : RdAt N3 tx sz (skp (chF M tx sz) sz p + 1 + 4) := hR.sc hSb (by rw [h32, wI_ne (by decide), wI_c (by decide), wI_ne (by decide)]; exact hN2) h33 (by omega)
            have hch3 : chF N3 tx sz = chF M tx sz := hSb.ch htx
            have h3k : N3.1 23 k = kindC (chF M tx sz (skp (chF M tx sz) sz p)) := by rw [h3c 23 (by decide) (by decide), wI_c (by decide), wI_at]
            refine wa_aload_n dX7_readStones_33 rfl 1 rfl ?_
            refine wa_iload_n dX7_readStones_34 rfl 0 rfl ?_
            refine wa_callV (m_readSide tx sz (skp (chF M tx sz) sz p + 1 + 4) hR3 k (by omega) (by omega)) vX7_readSide iX7_readStones_35 (rfl) rfl rfl rfl (Nat.le_of_ble_eq_true rfl) ⟨by decide, by decide⟩ (fun v_ N4 h_ => ?_)
            obtain ⟨rfl, hS4, h42, h43, h422, h423, h424, h4o, h4ok⟩ := h_
            show WA G t_X7_readStones (RsP M tx sz w h p0) 38 [(1, .int (nI (k))), (0, wm_r G (27))] [.int (wB ((sdEnd (chF N3 tx sz) (N3.1 23 k) (skp (chF M tx sz) sz p + 1 + 4)).2))] (N4)
            refine wa_eqi (y := (wB ((stEnd (chF M tx sz) (skp (chF M tx sz) sz p)).2))) (by rw [hch3, h3k, stEnd_s hkc hwd]) ?_
            rw [hch3, h3k, show skp (chF M tx sz) sz p + 1 + 4 = skp (chF M tx sz) sz p + 5 from rfl, ← stEnd_s hkc hwd] at h43 h4ok
            have hS5 := hSb.tr hS4
            refine wa_if_neB 43 dX7_readStones_38 (by decide) (fun (c_38 : ((stEnd (chF M tx sz) (skp (chF M tx sz) sz p)).2) = true) => ?_) (fun (c_38 : ((stEnd (chF M tx sz) (skp (chF M tx sz) sz p)).2) = false) => ?_)
            · refine wa_iinc ((nI (k + 1))) [(1, .int (nI (k + 1))), (0, wm_r G (27))] dX7_readStones_43 0 rfl (nI_inc _) (by decide) rfl ?_
              refine wa_goto 2 dX7_readStones_46 (by decide) ?_
              have hle : (stEnd (chF M tx sz) (skp (chF M tx sz) sz p)).1 ≤ sz := by rw [stEnd_s hkc hwd]; exact sdEnd_le (by omega)
              have hDk : Dr N4 (chF M tx sz) k (skp (chF M tx sz) sz p) := by
                obtain ⟨a1, a2, a3⟩ := h4ok c_38
                refine ⟨by rw [h423, h3k], fun i hi => ?_, ?_, fun q => ?_⟩
                · rw [a1 i hi, h3w hwd i hi]
                · rw [a2]
                · rw [a3 q]
              exact ih_2 (k + 1) (stEnd (chF M tx sz) (skp (chF M tx sz) sz p)).1 N4 (by omega) (by omega) hle hS5 (by rw [h422, h3c 22 (by decide) (by decide), wI_c (by decide), wI_c (by decide), wI_c (by decide)]; exact hN22) (by rw [h42, h32, wI_ne (by decide), wI_c (by decide), wI_ne (by decide)]; exact hN2) h43 (by rw [hpr, prest_t (by omega) c_38]; congr 1) (fun i => by rw [show k + 1 + i = k + (i + 1) by omega, hst (i + 1), stAt_s]) (fun k2 hk2 => by rcases Nat.lt_or_eq_of_le (Nat.le_of_lt_succ hk2) with q | q; exact (hDr k2 q).keep (by rw [h423, h3c 23 (by decide) (by decide), wI_c (by decide), wI_ne (by omega), wI_c (by decide)]) (fun i hi => by rw [h424 _ (by omega), h3o _ (by omega), wI_c (by decide), wI_c (by decide), wI_c (by decide)]) (by rw [(h4o k2 (by omega)).1, h3c 25 (by decide) (by decide), wI_c (by decide), wI_c (by decide), wI_c (by decide)]) (by rw [(h4o k2 (by omega)).2, h3c 26 (by decide) (by decide), wI_c (by decide), wI_c (by decide), wI_c (by decide)]); subst q; have := hst 0; rw [Nat.add_zero] at this; rw [this]; exact hDk)
            · refine wa_iconst (0) dX7_readStones_41 (by decide) ?_
              refine wa_zret dX7_readStones_42 rfl (by decide) ?_
              first
                | (refine ⟨skp (chF M tx sz) sz p, false, rfl, hS.tr (Sc.w (by decide)), by rw [wI_c (by decide)]; exact hN22, by rw [wI_ne (by decide)]; exact hN2, wI_at, fun q => (by cases q), fun _ => ?_⟩
                   exact ⟨by rw [hpr, prest_f (by omega) (by rw [stEnd_k hkc]), stEnd_k hkc], by omega⟩)
                | (refine ⟨_, false, rfl, hS.tr ((((Sc.w (by decide)).tr (Sc.w (by decide))).tr (Sc.w (by decide))).tr hS3), by rw [h3c 22 (by decide) (by decide), wI_c (by decide), wI_c (by decide), wI_c (by decide)]; exact hN22, by rw [h32, wI_ne (by decide), wI_c (by decide), wI_ne (by decide)]; exact hN2, h33, fun q => (by cases q), fun _ => ?_⟩
                   exact ⟨by rw [hpr, prest_f (by omega) (by rw [stEnd_w hkc hwd]), stEnd_w hkc hwd], by have := wdN_le (chF M tx sz) 4 (skp (chF M tx sz) sz p + 1); omega⟩)
                | (refine ⟨_, false, rfl, hS5, by rw [h422, h3c 22 (by decide) (by decide), wI_c (by decide), wI_c (by decide), wI_c (by decide)]; exact hN22, by rw [h42, h32, wI_ne (by decide), wI_c (by decide), wI_ne (by decide)]; exact hN2, h43, fun q => (by cases q), fun _ => ?_⟩
                   exact ⟨by rw [hpr, prest_f (by omega) c_38], Nat.lt_of_le_of_lt (by rw [stEnd_s hkc hwd]; exact sdEnd_le (by omega)) (by omega : sz < 200)⟩)
  exact L_2 _ 0 p0 M (Nat.lt_succ_self _) (Nat.zero_le _) hp0 (Sc.rf M) rfl rfl hpp (by rw [Nat.sub_zero]) (fun i => by rw [Nat.zero_add]) (fun k2 hk2 => absurd hk2 (Nat.not_lt_zero _))
