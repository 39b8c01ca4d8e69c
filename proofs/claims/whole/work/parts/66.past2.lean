theorem m_allWays {G : wm_G} {M : wm_M} (w h : Nat) (hW : TW M w h) (rn : Nat) (hRO : RecOk M w h rn) (n : Nat) (hn : n ≤ 9) (b : Bool) (hd0 : M.2.2 0 = b) (hd1 : M.2.2 1 = !b) (L : Nat → Nat → Bool) (hL : ∀ k, k ≤ n → ∀ s, s < 4096 → sb (M.2.1 (72 + 2 * k + 1)) s = L k s) : MA G t_X1_allWays [wm_r G (65), .int (nI (n))] (M) (WtP M (w * h) n (lastT M n rn) (kpB L (-9) (sb (M.2.1 (67 + 1))))) := by
  refine wm_met (by decide) (Nat.le_of_ble_eq_true rfl) ?_
  show WA G t_X1_allWays (WtP M (w * h) n (lastT M n rn) (kpB L (-9) (sb (M.2.1 (67 + 1))))) 0 [(0, wm_r G (65)), (1, .int (nI (n)))] [] (M)
  refine wa_aload_n dX1_allWays_0 rfl 0 rfl ?_
  refine wa_iload_n dX1_allWays_1 rfl 1 rfl ?_
  refine wa_aload_n dX1_allWays_2 rfl 0 rfl ?_
  refine wa_getr gX1_allWays_3 (rfl) rfl ?_
  refine wa_iload_n dX1_allWays_6 rfl 1 rfl ?_
  refine wa_cVi (m_lastTold w h hW rn n hRO (by omega)) vX2_lastTold iX1_allWays_7 (rfl) rfl rfl rfl (Nat.le_of_ble_eq_true rfl) ⟨by decide, by decide⟩ ?_
  refine wa_bipush (-9) dX1_allWays_10 (by decide) ?_
  refine wa_aload_n dX1_allWays_12 rfl 0 rfl ?_
  refine wa_getr gX1_allWays_13 (rfl) rfl ?_
  refine wa_callV (m_waysTo w h hW n (lastT M n rn) (-9) 67 SS_67 b hd0 hd1 L (sb (M.2.1 (67 + 1))) hn (lastT_le _ _ _) hL (fun _ _ => rfl)) vX1_waysTo iX1_allWays_16 (rfl) rfl rfl rfl (Nat.le_of_ble_eq_true rfl) ⟨by decide, by decide⟩ (fun v_ N h_ => ?_)
  obtain ⟨rfl, hF, hd⟩ := h_
  show WA G t_X1_allWays (WtP M (w * h) n (lastT M n rn) (kpB L (-9) (sb (M.2.1 (67 + 1))))) 19 [(0, wm_r G (65)), (1, .int (nI (n)))] [.int (nI (wSum (wyN (M.1 18) (w * h) (kpB L (-9) (sb (M.2.1 (67 + 1)))) (lastT M n rn)) (4 ^ (w * h)) * chN (M.1 18) (w * h) ^ (n - lastT M n rn)))] (N)
  refine wa_iret dX1_allWays_19 rfl ?_
  exact ⟨rfl, hF, hd⟩

theorem m_waysBy {G : wm_G} {M : wm_M} (w h : Nat) (hW : TW M w h) (rn : Nat) (hRO : RecOk M w h rn) (n : Nat) (hn : n ≤ 9) (b : Bool) (hd0 : M.2.2 0 = b) (hd1 : M.2.2 1 = !b) (L : Nat → Nat → Bool) (hL : ∀ k, k ≤ n → ∀ s, s < 4096 → sb (M.2.1 (72 + 2 * k + 1)) s = L k s) (y c : Nat) (hy : y ≤ n) (hc : SS c) : MA G t_X1_waysBy [wm_r G (65), .int (nI (n)), .int (nI (y)), wm_r G (c)] (M) (WtP M (w * h) n (max y (lastT M n rn)) (kpB L (nI y) (sb (M.2.1 (c + 1))))) := by
  have hlt := lastT_le M n rn
  refine wm_met (by decide) (Nat.le_of_ble_eq_true rfl) ?_
  show WA G t_X1_waysBy (WtP M (w * h) n (max y (lastT M n rn)) (kpB L (nI y) (sb (M.2.1 (c + 1))))) 0 [(0, wm_r G (65)), (1, .int (nI (n))), (2, .int (nI (y))), (3, wm_r G (c))] [] (M)
  refine wa_aload_n dX1_waysBy_0 rfl 0 rfl ?_
  refine wa_iload_n dX1_waysBy_1 rfl 1 rfl ?_
  refine wa_iload_n dX1_waysBy_2 rfl 2 rfl ?_
  refine wa_aload_n dX1_waysBy_3 rfl 0 rfl ?_
  refine wa_getr gX1_waysBy_4 (rfl) rfl ?_
  refine wa_iload_n dX1_waysBy_7 rfl 1 rfl ?_
  refine wa_cVi (m_lastTold w h hW rn n hRO (by omega)) vX2_lastTold iX1_waysBy_8 (rfl) rfl rfl rfl (Nat.le_of_ble_eq_true rfl) ⟨by decide, by decide⟩ ?_
  refine wa_max iX1_waysBy_11 ⟨by decide, Nat.le_of_ble_eq_true rfl⟩ ?_
  refine wa_eqi (y := (nI (max y (lastT M n rn)))) (nI_max (by omega) (by omega)) ?_
  refine wa_iload_n dX1_waysBy_14 rfl 2 rfl ?_
  refine wa_aload_n dX1_waysBy_15 rfl 3 rfl ?_
  refine wa_callV (m_waysTo w h hW n (max y (lastT M n rn)) (nI y) c hc b hd0 hd1 L (sb (M.2.1 (c + 1))) hn (by omega) hL (fun _ _ => rfl)) vX1_waysTo iX1_waysBy_16 (rfl) rfl rfl rfl (Nat.le_of_ble_eq_true rfl) ⟨by decide, by decide⟩ (fun v_ N h_ => ?_)
  obtain ⟨rfl, hF, hd⟩ := h_
  show WA G t_X1_waysBy (WtP M (w * h) n (max y (lastT M n rn)) (kpB L (nI y) (sb (M.2.1 (c + 1))))) 19 [(0, wm_r G (65)), (1, .int (nI (n))), (2, .int (nI (y))), (3, wm_r G (c))] [.int (nI (wSum (wyN (M.1 18) (w * h) (kpB L (nI y) (sb (M.2.1 (c + 1)))) (max y (lastT M n rn))) (4 ^ (w * h)) * chN (M.1 18) (w * h) ^ (n - max y (lastT M n rn))))] (N)
  refine wa_iret dX1_waysBy_19 rfl ?_
  exact ⟨rfl, hF, hd⟩
