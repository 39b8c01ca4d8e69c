/-! together and the contest -/
theorem pcN_0 {s : Nat} (h : s < 16) : pcN s = 0 → s = 0 := (by decide : ∀ s, s < 16 → pcN s = 0 → s = 0) s h
theorem bt_sub : ∀ a, a < 16 → ∀ b, b < 16 → a &&& b = b → (pcN b < pcN a ∨ (pcN b = pcN a ∧ a ≤ b)) := by decide
theorem tgS_best {P : Nat → Bool} {b : Nat} (hb : b < 16) (hP : b = 0 ∨ P b = true) (hm : ∀ s, s < 16 → P s = true → bt1 s b) : ∀ i, i ≤ 16 → (i ≤ b → (tgS P i).1 < pcN b ∨ b = 0) ∧ ((b < i ∨ b = 0) → tgS P i = (pcN b, b))
  | 0, _ => by
    refine ⟨fun _ => ?_, fun q => ?_⟩
    · rcases Nat.eq_zero_or_pos (pcN b) with q | q
      · exact Or.inr (pcN_0 hb q)
      · exact Or.inl q
    · have : b = 0 := by omega
      subst this; rfl
  | i + 1, hi => by
    obtain ⟨h1, h2⟩ := tgS_best hb hP hm i (by omega)
    simp only [tgS]
    refine ⟨fun q => ?_, fun q => ?_⟩
    · rcases h1 (by omega) with r | r
      · by_cases c : (tgS P i).1 < pcN i ∧ P i = true
        · rw [if_pos c]
          have := hm i (by omega) c.2
          unfold bt1 at this
          left; show pcN i < pcN b; omega
        · rw [if_neg c]; exact Or.inl r
      · exact Or.inr r
    · by_cases e : b < i ∨ b = 0
      · rw [h2 e, if_neg (fun c => ?_)]
        have := hm i (by omega) c.2
        unfold bt1 at this
        have c1 : pcN b < pcN i := c.1
        omega
      · have e2 : b = i := by omega
        subst e2
        rw [if_pos ⟨(h1 (Nat.le_refl _)).resolve_right (by omega), hP.resolve_left (by omega)⟩]
section STEPS6
variable {G : wm_G} {M : wm_M} {w h rn s yr : Nat}
theorem tg_eq (ci : CI M w h rn s yr) {b : Nat} (q : BtP M w h (4 ^ (w * h)) b) : tgS (tgP M w h) 16 = (pcN b, b) := by
  have hn6 := ci.n6
  have h4 := p4_le hn6
  obtain ⟨hb, hq, hm⟩ := q
  refine (tgS_best hb ?_ ?_ 16 (Nat.le_refl _)).2 (by omega)
  · rcases hq with e | ⟨t, ht, e⟩
    · exact Or.inl e
    · by_cases h0 : b = 0
      · exact Or.inl h0
      · right
        unfold hadX at e
        cases qp : prodB (hadN (M.1 18) (w * h)) t with
        | false => rw [qp] at e; exact absurd e.symm h0
        | true =>
          rw [qp, if_pos rfl] at e
          refine wAny_iff.mpr ⟨t, by omega, ?_⟩
          rw [goal_gS ci hb ⟨ht, qp⟩]
          unfold gS; rw [e, Nat.and_self]; exact decide_eq_true rfl
  · intro a ha hP
    obtain ⟨t, ht, hg⟩ := wAny_iff.mp hP
    have hh := goal_had hn6 ht hg
    rw [goal_gS ci ha hh] at hg
    have hx : hadX M w h t = stdN M w h t := by unfold hadX; rw [hh.2, if_pos rfl]
    have k1 := hm t hh.1
    rw [hx] at k1
    have k2 : bt1 a (stdN M w h t) := bt_sub _ (stdN_lt _ _ _ _) a ha (of_decide_eq_true hg)
    exact bt1_tr k2 k1
theorem s_together (ci : CI M w h rn s yr) : StepB G t_X9_together t_X10_together [] M w h rn s yr := by
  have hc := c_tog (G := G) w h rn s yr ci
  refine ⟨_, MA.mono hc (fun u N q => ⟨q.1, tTell M (nI (tgS (tgP M w h) 16).2), w, h, rn, s, yr, q.2, ci.tell, OnlyC.tell, fun P x => ?_⟩)⟩
  refine MA.mono (x_tog M w h s x.stn ci.tw x.law ci.lw ci.stn x.now.1 ci.hd) (fun u O ⟨b, e1, e2, R, e3, e4⟩ => ⟨?_, ?_, ?_⟩)
  · rw [e1, tg_eq ci e2]
  · rw [e4, tg_eq ci e2]; exact (x.fr ci.r4 e3.x).tell ci.r4
  · rw [e4]; exact e3.x.m.tr FrM.tell
theorem wnI_had {kd : Nat → Int32} {m n : Nat} (hm : m ≤ 6) {f g : Nat → Bool} (e : ∀ t, hdB kd m t → f t = g t) : ∀ d t, hdB kd m t → wnI kd m f n d t = wnI kd m g n d t
  | 0, t, ht => e t ht
  | d + 1, t, ht => by
    simp only [wnI, wnB]
    rw [wnI_had hm e d t ht, wAny_cong (fun k hk => by rw [wnI_had hm e d _ (hd_mv ht hm hk)]), wAll_cong (fun k hk => by rw [wnI_had hm e d _ (hd_mv ht hm hk)])]
theorem sStep_fix (x : Int32) : decide (0 < sStep x) = !sFix x := by
  unfold sStep
  cases sFix x with
  | true => rfl
  | false => simp only [Bool.false_eq_true, if_false]; split <;> rfl
theorem ct_op (ci : CI M w h rn s yr) {l n : Nat} (hl : l < 4) (hn : 0 < n) : wFind (opP M w h l n s) (w * h) = wFind (ctQ M w h l n s) (w * h) := wFind_cong (fun k hk => by
  unfold opP ctQ nrF
  rw [sStep_fix, wnI_had ci.n6 (g := ctF M w h l) (fun t ht => sb_lv ci hl ht) _ _ (hd_mv ci.hd ci.n6 hk)])
theorem ct_eq (ci : CI M w h rn s yr) {l n : Nat} (hl : l < 4) : won M w h l n s = ctC M w h l n s ∧ opn M w h l n s = ctO M w h l n s := by
  have e0 : ∀ d, wnI (M.1 18) (w * h) (sb (M.2.1 (38 + 2 * l + 1))) n d s = wnI (M.1 18) (w * h) (ctF M w h l) n d s := fun d => wnI_had ci.n6 (fun t ht => sb_lv ci hl ht) _ _ ci.hd
  have hn6 := ci.n6
  rcases Nat.eq_zero_or_pos n with q | q
  · subst q
    refine ⟨?_, ?_⟩
    · rw [won_0 rfl]; exact e0 0
    · unfold opn ctO; rw [if_pos rfl, if_neg (by omega)]
  · have key : ctC M w h l n s = won M w h l n s := by
      unfold ctC won
      rw [← e0]
      have hnn : n = (n - 1) + 1 := by omega
      have e1 : wnI (M.1 18) (w * h) (sb (M.2.1 (38 + 2 * l + 1))) n n s = wnB (M.1 18) (w * h) (wnI (M.1 18) (w * h) (sb (M.2.1 (38 + 2 * l + 1))) n (n - 1)) (decide ((n - (n - 1)) % 2 = 1)) s := by
        conv => lhs; arg 5; rw [hnn]
        rfl
      rw [e1]
      unfold wnB opn
      rw [show n - (n - 1) = 1 by omega, if_pos (by decide), if_neg (by omega), Bool.or_comm]
      congr 1
      rcases wFind_cases (opP M w h l n s) (w * h) with ⟨e, h1⟩ | ⟨i, hi, e, h1, h2⟩
      · rw [decide_eq_true e]
        exact Bool.eq_false_iff.mpr (fun c => by obtain ⟨k, hk, c⟩ := wAny_iff.mp c; have := h1 k hk; unfold opP nrF at this; rw [this] at c; cases c)
      · rw [e, decide_eq_false (nI_ne9 (by omega))]
        exact wAny_iff.mpr ⟨i, hi, h1⟩
    refine ⟨key.symm, ?_⟩
    unfold ctO; rw [key]
    have e2 : opn M w h l n s = wFind (opP M w h l n s) (w * h) := by unfold opn; rw [if_neg (by omega)]
    cases hw : won M w h l n s with
    | true => rw [if_pos ⟨rfl, q⟩, e2]; exact ct_op ci hl q
    | false =>
      rw [if_neg (fun c => by cases c.1)]
      unfold won at hw
      rw [Bool.or_eq_false_iff] at hw
      simpa using hw.1
theorem s_contest (ci : CI M w h rn s yr) (l n : Int32) : StepI G t_X9_contest t_X10_contest [.int l, .int n] M w h rn s yr := by
  rcases wIn_cases l (m := 4) (by decide) with q | ⟨l, hl, rfl⟩
  · exact st_same ci (c_cont_bad1 l n q) (fun N x => x_cont_bad1 l n q)
  · rcases wIn_cases n (m := 13) (by decide) with q | ⟨n, hn, rfl⟩
    · exact st_same ci (c_cont_bad2 l hl n q) (fun N x => x_cont_bad2 l hl n q)
    · rcases law_c (N := M) ci hl with q | ⟨z, hz, q⟩
      · exact st_note (by decide) ci (c_cont_no l hl n (by omega) q) (fun N x => x_cont_no l hl n (by omega) ((x.law.1 l hl).trans q))
      · have hc := c_cont_ok (G := G) w h rn s yr ci l hl n (by omega) q
        rw [(ct_eq ci hl).1, (ct_eq ci hl).2] at hc
        exact st_tellE ci hc (fun N x => x_cont_ok M w h s x.stn ci.tw x.law ci.lw ci.stn x.now.1 ci.hd.1 x.dyn l hl z ((x.law.1 l hl).trans hz.2.1) hz.2.2.2 n (by omega))
end STEPS6
