/-! ===== the constructors' layer: calls, and the array of rows ===== -/
section WCC
variable {X : wc_X} {t : wm_T} {mc ms : Nat} {A : Nat → Prop} {post : va_W → Prop} {pc : Nat} {ls : List (Nat × Value)} {st : List Value} {kc ks : Nat}
theorem wc_blind {X : wc_X} {av : List Value} {w0 : va_W} {sz : Nat} : ∀ (a : Array Value) (U : State) (g : JFrame) (mk : MethodId), va_Pc av (fun U => U.heap.size = sz ∧ va_P X.2.1 classes w0 U.heap ∧ wc_K X U ∧ va_D (fun _ => True) w0) a U → va_Pc av (fun U => U.heap.size = sz ∧ va_P X.2.1 classes w0 U.heap ∧ wc_K X U ∧ va_D (fun _ => True) w0) a (U.calling g mk a) := by
  intro a U g mk q
  obtain ⟨q0, q1, qP, qK, qD⟩ := q
  exact ⟨q0, q1, qP, wc_K.same (u := U) (U := U.calling g mk a) rfl qK, qD⟩
theorem wc_good {t' : wm_T} {n : Nat} (h : wm_cal t' n) : GoodIn lw_gd (wm_ws0 t') := by
  intro w hw
  have : w ∈ lw_gd := by
    rcases List.mem_cons.mp hw with rfl | hw
    · exact h.1
    · exact hw
  exact ⟨this, lw_gd_good this⟩
theorem wc_fr {w0 wr : va_W} {H0 H : Heap} {locs : List Loc} (hD : va_D A (wr ++ w0)) (hS : va_S A H0 H locs) (hA : ∀ q : Nat, H0.size ≤ q → A q) : ∀ q, va_A w0 H.size q → A q := by
  intro q h
  rcases h with ⟨k, e, h⟩ | h
  · exact (wc_D_r hD).2 k (q, e) h
  · exact hA q (Nat.le_trans hS.1 h)
theorem wc_init {t' : wm_T} {mc' ms' n b : Nat} {As st0 : List Value} {w0 wr : va_W} {post' : va_W → Prop} (hM : MC X t' mc' ms' (.ref b :: As) w0 post') (hc : wc_calI t' n) (hi : wc_ii t t' pc) (hn : As.length = n) (hst : st0 = As.reverse ++ .ref b :: st) (hw : (st.map fun v => v.category).sum ≤ 8) (hR : t'.2.2.2.2.1 + 1 ≤ t.2.2.2.2.1 ∧ 8 + (t'.2.2.1 + 11) + t'.2.2.2.2.2 ≤ t.2.2.2.2.2) (hc1 : kc + mc' ≤ mc) (hs1 : ks + ms' ≤ ms)
    (k : ∀ w1 : va_W, post' w1 → WC X t mc ms A post (pc + 3) ls st (wr ++ w1) (kc + mc') (ks + ms')) : WC X t mc ms A post pc ls st0 (wr ++ w0) kc ks := by
  subst hst
  obtain ⟨index, hlink, hd⟩ := hi
  obtain ⟨hcal, h6, hy1, hret⟩ := hc
  have hgood := wc_good hcal
  obtain ⟨h1, h2, h3, h4, h5⟩ := hcal
  intro p e s m args below meth c Cx H locs la hP hD hS hl
  have hts := Cx.2.2.2.2.2.1
  have hF := wc_fr hD hS Cx.2.2.2.2.2.2.2.2.1
  refine va_callv (va_runI (cc := t.2.1) (nL := t.2.2.1) (Ts := lw_gd) (own := t.1.cls) (b := b) (As := As) (rest := st) ⟨Cx.1, Cx.2.1, Cx.2.2.2.1, Cx.2.2.2.2.1, hts⟩ (hM H.size) (cwI n hts hgood (by show _ = Cond.code t'.1 t'.2.1 t'.2.2.1 none :: lw_gd; rw [← hret]; rfl) rfl rfl (hts _ h2) (hts _ hlink) (hts _ h6) hy1 ⟨h3, h4, h5⟩ hR) ⟨wc_blind, fun U hU hW => ⟨rfl, by rw [hU], by rw [hU]; exact wc_P_r hP, Cx.2.2.2.2.2.2.2.1.warm hW, (wc_D_r hD).weaken (fun _ _ _ _ => trivial)⟩⟩ rfl hn hl.1 rfl (lv_room hw) hd ⟨hc1, hs1⟩) hS (fun q _ h => hF q h) hF (fun u tt H1 locs1 ht hvm hw1 hB hz1 hk1 hS1 => ?_)
  obtain ⟨hP1, hD1⟩ := hB
  rw [ht] at hP1
  obtain ⟨hP2, hD2⟩ := wc_join hP hD hk1 hF hP1 hD1
  exact k u hw1 p e s m args below meth c Cx H1 locs1 la hP2 hD2 hS1 hl
theorem wc_initN {t' : wm_T} {mc' ms' n b : Nat} {As st0 : List Value} {w0 wr : va_W} {post' : va_W → Prop} (hM : MC X t' mc' ms' (.ref b :: As) w0 post') (hc : wc_calI t' n) (hi : wc_in t t' pc) (hn : As.length = n) (hst : st0 = As.reverse ++ .ref b :: st) (hw : (st.map fun v => v.category).sum ≤ 8) (hR : t'.2.2.2.2.1 + 1 ≤ t.2.2.2.2.1 ∧ 8 + (t'.2.2.1 + 11) + t'.2.2.2.2.2 ≤ t.2.2.2.2.2) (hc1 : kc + mc' ≤ mc) (hs1 : ks + ms' ≤ ms)
    (k : ∀ w1 : va_W, post' w1 → WC X t mc ms A post (pc + 3) ls st (wr ++ w1) (kc + mc') (ks + ms')) : WC X t mc ms A post pc ls st0 (wr ++ w0) kc ks := by
  subst hst
  obtain ⟨index, hlink, hd⟩ := hi
  obtain ⟨hcal, h6, hy1, hret⟩ := hc
  have hgood := wc_good hcal
  obtain ⟨h1, h2, h3, h4, h5⟩ := hcal
  intro p e s m args below meth c Cx H locs la hP hD hS hl
  have hts := Cx.2.2.2.2.2.1
  have hF := wc_fr hD hS Cx.2.2.2.2.2.2.2.2.1
  refine va_callv (va_runIN (cc := t.2.1) (nL := t.2.2.1) (Ts := lw_gd) (own := t.1.cls) (host := "TurnedStones") (b := b) (As := As) (rest := st) ⟨Cx.1, Cx.2.1, Cx.2.2.2.1, Cx.2.2.2.2.1, hts⟩ (hM H.size) ⟨va_cnB n hts hgood (by show _ = Cond.code t'.1 t'.2.1 t'.2.2.1 none :: lw_gd; rw [← hret]; rfl) rfl rfl (Cx.2.2.2.2.2.2.2.1.2.2.2 _ hlink) (hts _ h2) ⟨h3, h4, h5⟩ hR, hy1, hts _ h6⟩ ⟨wc_blind, fun U hU hW => ⟨rfl, by rw [hU], by rw [hU]; exact wc_P_r hP, Cx.2.2.2.2.2.2.2.1.warm hW, (wc_D_r hD).weaken (fun _ _ _ _ => trivial)⟩⟩ rfl hn hl.1 rfl (lv_room hw) hd ⟨hc1, hs1⟩) hS (fun q _ h => hF q h) hF (fun u tt H1 locs1 ht hvm hw1 hB hz1 hk1 hS1 => ?_)
  obtain ⟨hP1, hD1⟩ := hB
  rw [ht] at hP1
  obtain ⟨hP2, hD2⟩ := wc_join hP hD hk1 hF hP1 hD1
  exact k u hw1 p e s m args below meth c Cx H1 locs1 la hP2 hD2 hS1 hl
theorem wc_callS {t' : wm_T} {mc' ms' n : Nat} {As st0 : List Value} {w0 wr : va_W} {post' : va_W → Prop} (hM : MC X t' mc' ms' As w0 post') (hc : wm_calS t' n) (hret : t'.2.2.2.1 = none) (hi : wm_is t t' pc) (hn : As.length = n) (hst : st0 = As.reverse ++ st) (hw : (st.map fun v => v.category).sum ≤ 8) (hR : t'.2.2.2.2.1 + 1 ≤ t.2.2.2.2.1 ∧ 8 + (t'.2.2.1 + 11) + t'.2.2.2.2.2 ≤ t.2.2.2.2.2) (hc1 : kc + mc' ≤ mc) (hs1 : ks + ms' ≤ ms)
    (k : ∀ w1 : va_W, post' w1 → WC X t mc ms A post (pc + 3) ls st (wr ++ w1) (kc + mc') (ks + ms')) : WC X t mc ms A post pc ls st0 (wr ++ w0) kc ks := by
  subst hst
  obtain ⟨index, hlink, hd⟩ := hi
  obtain ⟨hcal, h6⟩ := hc
  obtain ⟨h1, h2, h3, h4, h5⟩ := hcal
  intro p e s m args below meth c Cx H locs la hP hD hS hl
  have hts := Cx.2.2.2.2.2.1
  have hF := wc_fr hD hS Cx.2.2.2.2.2.2.2.2.1
  have hG : GoodIn lw_gd (va_wsS t.1.cls index t'.1 (wm_ws0 t')) := by
    intro w hw
    have : w ∈ lw_gd := by
      simp only [va_wsS, wm_ws0, List.mem_append, List.mem_cons, List.not_mem_nil, or_false] at hw
      rcases hw with (rfl | rfl | rfl) | rfl | hw
      · exact hlink
      · exact h6
      · exact h2
      · exact h1
      · exact hw
    exact ⟨this, lw_gd_good this⟩
  refine va_callv (va_runS (cc := t.2.1) (nL := t.2.2.1) (Ts := lw_gd) (own := t.1.cls) (As := As) (rest := st) ⟨Cx.1, Cx.2.1, Cx.2.2.2.1, Cx.2.2.2.2.1, hts⟩ (hM H.size) (va_cwS (ret := t'.2.2.2.1) n hts hG rfl rfl rfl ⟨h3, h4, h5⟩ hR) ⟨wc_blind, fun U hU hW => ⟨rfl, by rw [hU], by rw [hU]; exact wc_P_r hP, Cx.2.2.2.2.2.2.2.1.warm hW, (wc_D_r hD).weaken (fun _ _ _ _ => trivial)⟩⟩ rfl hn hl.1 rfl (lv_room hw) hd ⟨hc1, hs1⟩) hS (fun q _ h => hF q h) hF (fun u tt H1 locs1 ht hvm hw1 hB hz1 hk1 hS1 => ?_)
  obtain ⟨hP1, hD1⟩ := hB
  rw [ht] at hP1
  obtain ⟨hP2, hD2⟩ := wc_join hP hD hk1 hF hP1 hD1
  exact k u hw1 p e s m args below meth c Cx H1 locs1 la hP2 hD2 hS1 hl
/-- the cells of an array of n rows of w ints, at o and on -/
def ma_ws (X : wc_X) (n w o : Nat) : va_W := (o, .inl (X.2.2 4, n, .inr (.inr (.inr (.inr (fun i => if i < n then some (o + 1 + i) else none)))))) :: (List.range n).map (fun j => (o + 1 + j, .inl (X.2.2 0, w, .inl (fun _ => 0))))
theorem ma_ws_at {n w o k : Nat} {q : Nat × va_E} (h : (ma_ws X n w o)[k]? = some q) : k < n + 1 ∧ q.1 = o + k := by
  cases k with
  | zero => simp [ma_ws] at h; subst h; exact ⟨by omega, rfl⟩
  | succ k =>
    simp only [ma_ws, List.getElem?_cons_succ, List.getElem?_map] at h
    by_cases hk : k < n
    · rw [List.getElem?_range hk] at h
      simp at h; subst h; exact ⟨by omega, by show o + 1 + k = _; omega⟩
    · rw [List.getElem?_eq_none (by simp; omega)] at h; simp at h
theorem wc_multi {ws : va_W} {index : Nat} {n w : Int32} {N M : Nat} (hw : Cond.classLink t.1.cls index "[[I" ∈ lw_gd) (hn0 : ¬ n < 0) (hn1 : (n == 0) = false) (hN : n.toNatClampNeg = N) (hN2 : N * 4 ≤ 536870912) (hk0 : ¬ w < 0) (hM : w.toNatClampNeg = M) (hM2 : M * 4 ≤ 536870912) (hc : kc + (1 + N) ≤ mc) (hs : ks + (N + N * M) ≤ ms) (d : decode t.2.1 pc = .ok (.multianewarray index 2, 4))
    (k : ∀ o : Nat, WC X t mc ms A post (pc + 4) ls (.ref o :: st) (ws ++ ma_ws X N M o) (kc + (1 + N)) (ks + (N + N * M))) : WC X t mc ms A post pc ls (.int w :: .int n :: st) ws kc ks := by
  intro p e s m args below meth c Cx H locs la hP hD hS hl
  have hK := Cx.2.2.2.2.2.2.2.1
  obtain ⟨kA, hkA, hkindA⟩ := hK.2.2.1
  have h4 : s.vm.findClass "[[I" = some (X.2.2 4) := (hK.1.2 4 _ rfl).2
  obtain ⟨-, kI, hkI, ccI, hkindI⟩ := (hK.1.2 0 _ rfl).1 0 (fun _ => .null)
  refine ma_W Cx.1 Cx.2.1 Cx.2.2.2.2.1 (Cx.2.2.2.2.2.1 _ hw) h4 hkA hkindA hkI hkindI hn0 hn1 hN hN2 hk0 hM hM2 hc hs d (fun H1 hI => ?_)
  obtain ⟨z1, o1, r1, oc1⟩ := hI
  have hk1 : ∀ (i : Nat) (x : Nat × va_E), ws[i]? = some x → H1[x.1]? = H[x.1]? := fun i x hx => o1 x.1 ((hP i x hx).lt)
  refine k H.size p e s m args below meth c Cx H1 locs la ((hP.kept hk1).app (fun i q hq => ?_)) (hD.app ⟨fun i j x y hx hy hxy => ?_, fun i q hq => ?_⟩ (fun i j x y hx hy hxy => ?_)) ⟨Nat.le_trans hS.1 (by omega), fun x h1 h2 => (o1 x (Nat.lt_of_lt_of_le h1 hS.1)).trans (hS.2.1 x h1 h2), hS.2.2⟩ hl
  · cases i with
    | zero =>
      simp [ma_ws] at hq; subst hq
      show H1[H.size]? = some (vp_cell _ _)
      rw [oc1, vp_cell_q]
      congr 2
      funext j
      unfold ma_f
      by_cases hj : j < N
      · rw [if_pos hj, if_pos hj]; rfl
      · rw [if_neg hj, if_neg hj]; rfl
    | succ i =>
      obtain ⟨g1, -⟩ := ma_ws_at hq
      have hi : i < N := by omega
      simp only [ma_ws, List.getElem?_cons_succ, List.getElem?_map] at hq
      rw [List.getElem?_range hi] at hq
      simp at hq; subst hq
      show H1[H.size + 1 + i]? = some (vp_cell _ _)
      rw [r1 i hi, vp_cell_i]
  · have a1 := ma_ws_at hx
    have a2 := ma_ws_at hy
    omega
  · have a1 := ma_ws_at hq
    rw [a1.2]
    exact Cx.2.2.2.2.2.2.2.2.1 _ (Nat.le_trans hS.1 (by omega))
  · have a1 := (hP i x hx).lt
    have a2 := ma_ws_at hy
    omega
/-- Arrays.fill of an int array -/
theorem ct_fill (n b : Nat) (x : Int32) (hn : n < 2 ^ 31) : MC X t_J7_fill_53178 0 0 [.ref b, .int x] [(b, .inl (X.2.2 0, n, .inl (fun _ => 0)))] (fun w => w = [(b, .inl (X.2.2 0, n, .inl (fun _ => x)))]) := by
  refine wc_met (by decide) (Nat.le_of_ble_eq_true rfl) rfl (fun A => ?_)
  show WC X t_J7_fill_53178 0 0 A _ 0 [(0, .ref b), (1, .int x)] [] _ 0 0
  refine wc_iconst (nI 0) dJ7_fill_53178_0 (by decide) ?_
  refine wc_istore_n [(2, .int (nI 0)), (0, .ref b), (1, .int x)] dJ7_fill_53178_1 rfl (by decide) rfl ?_
  refine wc_aload_n dJ7_fill_53178_2 rfl 1 rfl ?_
  refine wc_alen (v := nI n) 0 rfl rfl dJ7_fill_53178_3 ?_
  refine wc_istore_n [(3, .int (nI n)), (2, .int (nI 0)), (0, .ref b), (1, .int x)] dJ7_fill_53178_4 rfl (by decide) rfl ?_
  have L : ∀ (z i : Nat), n - i < z → i ≤ n → ∀ f : Nat → Int32, (∀ j, j < i → f j = x) → WC X t_J7_fill_53178 0 0 A (fun w => w = [(b, .inl (X.2.2 0, n, .inl (fun _ => x)))]) 5 [(3, .int (nI n)), (2, .int (nI i)), (0, .ref b), (1, .int x)] [] [(b, .inl (X.2.2 0, n, .inl f))] 0 0 := by
    intro z
    induction z with
    | zero => intro i h; exact absurd h (Nat.not_lt_zero _)
    | succ z ih =>
      intro i hz hi f hf
      refine wc_iload_n dJ7_fill_53178_5 rfl 1 rfl ?_
      refine wc_iload_n dJ7_fill_53178_6 rfl 0 rfl ?_
      refine wc_icmp_ge 20 dJ7_fill_53178_7 (by decide) (fun c9 => ?_) (fun c9 => ?_)
      · have hni : n ≤ i := by
          rcases Nat.lt_or_ge i n with q | q
          · exact absurd ((nI_leI (by omega) (by omega)).mp c9) (by omega)
          · exact q
        intro p e s m args below meth c Cx H locs la hP hD hS hl
        have hP' : va_P X.2.1 classes [(b, .inl (X.2.2 0, n, .inl (fun _ => x)))] H := by
          intro k q hq
          match k, hq with
          | 0, hq =>
            cases hq
            have h0 : H[b]? = some (vp_cell (X.2.2 0) (n, .inl f)) := hP 0 _ rfl
            show H[b]? = some (vp_cell _ _)
            rw [h0, vp_cell_i, vp_cell_i]
            congr 1
            unfold arrV
            congr 1
            apply Array.ext_getElem?
            intro j
            simp only [Array.getElem?_ofFn]
            by_cases hj : j < n
            · simp [hj, hf j (by omega)]
            · simp [hj]
        exact wc_ret (X := X) (t := t_J7_fill_53178) (mc := 0) (ms := 0) (post := fun w => w = [(b, .inl (X.2.2 0, n, .inl (fun _ => x)))]) (ls := [(3, .int (nI n)), (2, .int (nI i)), (0, .ref b), (1, .int x)]) dJ7_fill_53178_20 rfl rfl rfl p e s m args below meth c Cx H locs la hP' ⟨fun i j x y hx hy _ => hD.1 i j _ _ (by match i, hx with | 0, _ => rfl) (by match j, hy with | 0, _ => rfl) rfl, fun k q hq => by match k, hq with | 0, hq => cases hq; exact hD.2 0 (b, .inl (X.2.2 0, n, .inl f)) rfl⟩ hS hl
      · have hni : i < n := by
          rcases Nat.lt_or_ge i n with q | q
          · exact q
          · exact absurd ((nI_leI (by omega) (by omega)).mpr q) c9
        refine wc_aload_n dJ7_fill_53178_10 rfl 2 rfl ?_
        refine wc_iload_n dJ7_fill_53178_11 rfl 1 rfl ?_
        refine wc_iload_n dJ7_fill_53178_12 rfl 3 rfl ?_
        refine wc_iast 0 rfl (vp_in_nI hni (by omega)) rfl dJ7_fill_53178_13 ?_
        refine wc_iinc (nI (i + 1)) [(2, .int (nI (i + 1))), (3, .int (nI n)), (0, .ref b), (1, .int x)] dJ7_fill_53178_14 1 rfl (nI_inc i) (by decide) rfl ?_
        refine wc_goto 5 dJ7_fill_53178_17 (by decide) ?_
        intro p e s m args below meth c Cx H locs la hP hD hS hl
        refine ih (i + 1) (by omega) (by omega) (upd f (nI i).toNatClampNeg x) (fun j hj => ?_) p e s m args below meth c Cx H locs la hP hD hS (lv_sub hl [1, 0, 2, 3] rfl)
        rw [nI_clamp (by omega)]
        unfold upd
        by_cases e9 : j = i
        · rw [if_pos e9]
        · rw [if_neg e9]; exact hf j (by omega)
  exact L (n + 1) 0 (by omega) (Nat.zero_le _) _ (fun j hj => absurd hj (Nat.not_lt_zero _))
end WCC
