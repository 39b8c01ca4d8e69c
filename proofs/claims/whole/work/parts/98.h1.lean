section HIS2
variable {M : wm_M} {w h rn : Nat}
theorem fw_had : ∀ {k s : Nat}, fwB M w h rn k s = true → prodB (hadN (M.1 18) (w * h)) s = true
  | 0, s, q => by simp only [fwB, Bool.and_eq_true] at q; exact q.2.1
  | k + 1, s, q => by simp only [fwB, Bool.and_eq_true] at q; exact q.2.1
theorem lv_had {n : Nat} : ∀ {d s : Nat}, lvB M w h rn n d s = true → prodB (hadN (M.1 18) (w * h)) s = true
  | 0, s, q => fw_had q
  | d + 1, s, q => by simp only [lvB, Bool.and_eq_true] at q; exact fw_had q.1
theorem bool_dec {b : Bool} {p : Prop} [Decidable p] (h : b = true ↔ p) : b = decide p := by
  cases b with
  | true => exact (decide_eq_true (h.mp rfl)).symm
  | false => exact (decide_eq_false (fun c => by cases h.mpr c)).symm
theorem fw_eq (hn : w * h ≤ 6) : ∀ {k s : Nat}, s < 4 ^ (w * h) → fwB M w h rn k s = decide (0 < FWn M w h rn k s)
  | 0, s, hs => by
    refine bool_dec ?_
    unfold FWn
    simp only [fwB, wyN, Bool.and_eq_true, decide_eq_true_eq]
    constructor
    · rintro ⟨a, b, c⟩; rw [if_pos c, if_pos a]; decide
    · intro q
      split at q
      · rename_i c
        split at q
        · rename_i d; subst d; exact ⟨rfl, (hd_0 (M.1 18) hn).2, c⟩
        · omega
      · omega
  | k + 1, s, hs => by
    refine bool_dec ?_
    have ih := fun u (hu : u < 4 ^ (w * h)) => fw_eq hn (k := k) hu
    constructor
    · intro q
      simp only [fwB, Bool.and_eq_true, Bool.or_eq_true] at q
      obtain ⟨a, b, c⟩ := q
      unfold FWn; rw [F_s (fit := fun y t => fitB M w h rn y t) c]
      rcases a with a | a
      · rw [ih s hs] at a; have := of_decide_eq_true a; unfold FWn at this; omega
      · obtain ⟨j, hj, a⟩ := wAny_iff.mp a
        rw [Bool.and_eq_true] at a
        have a1 := of_decide_eq_true a.1
        have a2 := a.2
        rw [ih _ (sMv_lt hs hj)] at a2
        have a3 := of_decide_eq_true a2
        unfold FWn at a3
        have := wSum_mem (f := fun j => if 0 < sStep (M.1 18 j) then wyN (M.1 18) (w * h) (fun y t => fitB M w h rn y t) k (sMv s j (4 - sStep (M.1 18 j))) else 0) hj
        simp only [if_pos a1] at this
        omega
    · intro q
      have hh := F_had hn hs q
      have hf := F_fit q
      unfold FWn at q; rw [F_s hf] at q
      simp only [fwB, Bool.and_eq_true, Bool.or_eq_true]
      refine ⟨?_, hh.2, hf⟩
      rcases Nat.eq_zero_or_pos (wyN (M.1 18) (w * h) (fun y t => fitB M w h rn y t) k s) with c | c
      · rw [c, Nat.zero_add] at q
        obtain ⟨j, hj, hp⟩ := wSum_pos q
        split at hp
        · rename_i d
          right
          refine wAny_iff.mpr ⟨j, hj, ?_⟩
          rw [decide_eq_true d, ih _ (sMv_lt hs hj)]
          exact decide_eq_true hp
        · omega
      · left; rw [ih s hs]; exact decide_eq_true c
theorem lv_eq (hn : w * h ≤ 6) {n : Nat} : ∀ {d s : Nat}, d ≤ n → s < 4 ^ (w * h) → lvB M w h rn n d s = decide (0 < ONn M w h rn n d s)
  | 0, s, _, hs => by
    simp only [lvB]
    rw [fw_eq hn hs]
    refine bool_dec ?_
    unfold ONn
    simp only [onN, decide_eq_true_eq]
    constructor
    · intro q; rw [if_pos q]; decide
    · intro q; split at q; (assumption); omega
  | d + 1, s, hd, hs => by
    refine bool_dec ?_
    have ih := fun u (hu : u < 4 ^ (w * h)) => lv_eq hn (n := n) (d := d) (by omega) hu
    unfold ONn
    simp only [lvB, onN, Bool.and_eq_true, Bool.or_eq_true]
    rw [fw_eq hn hs]
    constructor
    · rintro ⟨a, b⟩
      rw [if_pos a]
      rcases b with b | b
      · rw [ih s hs] at b; have := of_decide_eq_true b; unfold ONn at this; omega
      · obtain ⟨j, hj, b⟩ := wAny_iff.mp b
        rw [Bool.and_eq_true] at b
        have a1 := of_decide_eq_true b.1
        have a2 := b.2
        rw [ih _ (sMv_lt hs hj)] at a2
        have a3 := of_decide_eq_true a2
        unfold ONn at a3
        have := wSum_mem (f := fun j => if 0 < sStep (M.1 18 j) then onN (M.1 18) (w * h) (fun y t => decide (0 < FWn M w h rn y t)) n d (sMv s j (sStep (M.1 18 j))) else 0) hj
        simp only [if_pos a1] at this
        omega
    · intro q
      split at q
      · rename_i a
        refine ⟨a, ?_⟩
        rcases Nat.eq_zero_or_pos (onN (M.1 18) (w * h) (fun y t => decide (0 < FWn M w h rn y t)) n d s) with c | c
        · rw [c, Nat.zero_add] at q
          obtain ⟨j, hj, hp⟩ := wSum_pos q
          split at hp
          · rename_i e
            right
            refine wAny_iff.mpr ⟨j, hj, ?_⟩
            rw [decide_eq_true e, ih _ (sMv_lt hs hj)]
            exact decide_eq_true hp
          · omega
        · left; rw [ih s hs]; exact decide_eq_true c
      · omega
theorem lastT_ge {y e : Nat} : ∀ {n : Nat}, e < n → eY M e ≤ y → eY M e ≤ lastT M y n
  | 0, q, _ => absurd q (Nat.not_lt_zero _)
  | n + 1, q, hy => by
    simp only [lastT]
    by_cases c : e = n
    · subst c; rw [if_pos hy]; exact Nat.le_max_right _ _
    · have := lastT_ge (n := n) (by omega) hy
      split <;> omega
theorem fit_last {n y t : Nat} (h1 : lastT M n rn < y) (h2 : y ≤ n) : fitB M w h rn y t = true := wAll_t (fun e he => by
  rw [decide_eq_false (fun c => by have := lastT_ge (M := M) (y := n) he (by omega); omega)]; rfl)
theorem hv_N (hn : w * h ≤ 6) {n : Nat} (h9 : n ≤ 9) : hvN M w h rn n = ONn M w h rn n n 0 := by
  unfold hvN
  have hl := lastT_le M n rn
  refine hv_on (fit := fun y t => fitB M w h rn y t) hn (fun k t hk ht => ?_) (last := lastT M n rn) (fun y t a b => fit_last a b) hl (Nat.le_refl _)
  unfold kpB
  rw [decide_eq_false (fun e => nI_ne9 (p := k) (by omega) e.symm)]
  exact (Bool.and_true _).trans (lv_eq hn (by omega) ht)
theorem ov_N (hn : w * h ≤ 6) {n y l : Nat} (h9 : n ≤ 9) (hy : y ≤ n) (hT : ∀ t, hadS M (w * h) t → sb (M.2.1 (38 + 2 * l + 1)) t = ctF M w h l t) : ovN M w h rn n y l = wSum (odS M w h rn n y l) (4 ^ (w * h)) := by
  unfold ovN
  have hl := lastT_le M n rn
  refine (ov_on (fit := fun y t => fitB M w h rn y t) (y := y) (T := sb (M.2.1 (38 + 2 * l + 1))) hn hy (fun k t hk ht => ?_) (last := lastT M n rn) (fun y t a b => fit_last a b) (Nat.max_le.mpr ⟨hy, hl⟩) (Nat.le_max_right _ _) (Nat.le_max_left _ _)).trans (wSum_cong (fun t ht => ?_))
  · unfold kpB
    have e : decide (nI y = nI k) = decide (y = k) := by
      by_cases c : y = k
      · rw [decide_eq_true c, c]; exact decide_eq_true rfl
      · rw [decide_eq_false c]; exact decide_eq_false (fun d => c ((nI_eq (by omega) (by omega)).mp d))
    show (lvB M w h rn n (n - k) t && (!decide (nI y = nI k) || sb (M.2.1 (38 + 2 * l + 1)) t)) = _
    rw [e, lv_eq hn (by omega) ht]; rfl
  · unfold odS
    rcases Nat.eq_zero_or_pos (FWn M w h rn y t) with c | c
    · rw [c, Nat.zero_mul]
      have c2 : wyN (M.1 18) (w * h) (fun y t => fitB M w h rn y t) y t = 0 := c
      rw [c2, Nat.zero_mul]; split <;> split <;> rfl
    · rw [hT t (F_had hn ht c)]; rfl
theorem any_N (hn : w * h ≤ 6) {n : Nat} : wAny (fwB M w h rn n) 4096 = decide (0 < ONn M w h rn n n 0) := by
  have h4 := p4_le hn
  refine bool_dec (Iff.trans ?_ (any_on (fit := fun y t => fitB M w h rn y t) (n := n) hn).symm)
  rw [wAny_iff]
  constructor
  · rintro ⟨t, ht, q⟩
    have hl := hd_lt hn ht (fw_had q)
    rw [fw_eq hn hl] at q
    exact ⟨t, hl, of_decide_eq_true q⟩
  · rintro ⟨t, ht, q⟩
    exact ⟨t, by omega, by rw [fw_eq hn ht]; exact decide_eq_true q⟩
theorem lv_R (hn : w * h ≤ 6) {n k t : Nat} (ht : t < 4 ^ (w * h)) : lvY M w h rn n k t = lvR M w h rn n k t := lv_eq hn (by omega) ht
theorem lvY_lt (hn : w * h ≤ 6) {n k t : Nat} (ht : t < 4096) (q : lvY M w h rn n k t = true) : t < 4 ^ (w * h) := hd_lt hn ht (lv_had q)
theorem any_lt {p q : Nat → Bool} {m : Nat} (hm : m ≤ 6) (h1 : ∀ t, t < 4096 → p t = true → t < 4 ^ m) (h2 : ∀ t, t < 4 ^ m → p t = q t) : wAny p 4096 = wAny q (4 ^ m) := by
  have h4 := p4_le hm
  cases c : wAny q (4 ^ m) with
  | true => obtain ⟨t, ht, e⟩ := wAny_iff.mp c; exact wAny_iff.mpr ⟨t, by omega, by rw [h2 t ht]; exact e⟩
  | false =>
    refine Bool.eq_false_iff.mpr (fun d => ?_)
    obtain ⟨t, ht, e⟩ := wAny_iff.mp d
    have hl := h1 t ht e
    rw [h2 t hl] at e
    rw [wAny_iff.mpr ⟨t, hl, e⟩] at c; cases c
theorem all_lt {p q : Nat → Bool} {m : Nat} (hm : m ≤ 6) (h1 : ∀ t, t < 4096 → p t = false → t < 4 ^ m) (h2 : ∀ t, t < 4 ^ m → p t = q t) : wAll p 4096 = wAll q (4 ^ m) := by
  have h4 := p4_le hm
  cases c : wAll q (4 ^ m) with
  | true =>
    refine wAll_t (fun t ht => ?_)
    cases e : p t with
    | true => rfl
    | false =>
      have hl := h1 t ht e
      rw [h2 t hl, wAll_iff.mp c t hl] at e; cases e
  | false =>
    refine Bool.eq_false_iff.mpr (fun d => ?_)
    have : wAll q (4 ^ m) = true := wAll_t (fun t ht => by rw [← h2 t ht]; exact wAll_iff.mp d t (by omega))
    rw [this] at c; cases c
end HIS2
section STEPS8
variable {G : wm_G} {M : wm_M} {w h rn s yr : Nat}
theorem wh_A (ci : CI M w h rn s yr) {n l k : Nat} (hl : l < 4) : whA M w h rn n l k = alR M w h rn n l k (4 ^ (w * h)) := by
  have hn := ci.n6
  refine all_lt hn (fun t ht q => ?_) (fun t ht => ?_)
  · rw [Bool.or_eq_false_iff] at q
    exact lvY_lt hn ht (by simpa using q.1)
  · show (!lvY M w h rn n k t || sb (M.2.1 (38 + 2 * l + 1)) t) = (!lvR M w h rn n k t || ctF M w h l t)
    rw [← lv_R hn ht]
    cases c : lvY M w h rn n k t with
    | false => rfl
    | true => rw [sb_lv ci hl ⟨ht, lv_had c⟩]; rfl
theorem wh_S (ci : CI M w h rn s yr) {n l k : Nat} (hl : l < 4) : whS M w h rn n l k = smR M w h rn n l k (4 ^ (w * h)) := by
  have hn := ci.n6
  refine any_lt hn (fun t ht q => ?_) (fun t ht => ?_)
  · rw [Bool.and_eq_true] at q
    exact lvY_lt hn ht q.1
  · show (lvY M w h rn n k t && sb (M.2.1 (38 + 2 * l + 1)) t) = (lvR M w h rn n k t && ctF M w h l t)
    rw [← lv_R hn ht]
    cases c : lvY M w h rn n k t with
    | false => rfl
    | true => rw [sb_lv ci hl ⟨ht, lv_had c⟩]; rfl
theorem tn_B (hn : w * h ≤ 6) {n k : Nat} : tnB M w h rn n k = wAny (fun t2 => lvR M w h rn n (k - 1) t2 && lvR M w h rn n k t2) (4 ^ (w * h)) := by
  refine any_lt hn (fun t ht q => ?_) (fun t ht => ?_)
  · rw [Bool.and_eq_true] at q; exact lvY_lt hn ht q.1
  · show (lvY M w h rn n (k - 1) t && lvY M w h rn n k t) = _
    rw [lv_R hn ht, lv_R hn ht]
theorem tu_B (hn : w * h ≤ 6) {n k j : Nat} (hj : j < w * h) : tuB M w h rn n k j = wAny (fun t2 => tnR M w h rn n k t2 j) (4 ^ (w * h)) := by
  have h4 := p4_le hn
  unfold tuB
  have key : (decide (0 < sStep (M.1 18 j)) && wAny (fun s => lvY M w h rn n k s && lvY M w h rn n (k - 1) (sMv s j (4 - sStep (M.1 18 j)))) 4096) = true ↔ wAny (fun t2 => tnR M w h rn n k t2 j) (4 ^ (w * h)) = true := by
    rw [Bool.and_eq_true, wAny_iff, wAny_iff]
    constructor
    · rintro ⟨a, t, ht, q⟩
      rw [Bool.and_eq_true] at q
      have hl := lvY_lt hn ht q.1
      have hl2 := sMv_lt (m := 4 - sStep (M.1 18 j)) hl hj
      refine ⟨sMv t j (4 - sStep (M.1 18 j)), hl2, ?_⟩
      unfold tnR
      rw [mv_bk (by omega), ← lv_R hn hl, ← lv_R hn hl2, q.1, q.2, ← sStep_fix, a]; rfl
    · rintro ⟨t, ht, q⟩
      unfold tnR at q
      rw [Bool.and_eq_true, Bool.and_eq_true, ← sStep_fix] at q
      have hl2 := sMv_lt (m := sStep (M.1 18 j)) ht hj
      refine ⟨q.2.1, sMv t j (sStep (M.1 18 j)), by omega, ?_⟩
      rw [bk_mv (by omega), lv_R hn hl2, lv_R hn ht, q.1, q.2.2]; rfl
  cases c : wAny (fun t2 => tnR M w h rn n k t2 j) (4 ^ (w * h)) with
  | true => exact key.mpr c
  | false => exact Bool.eq_false_iff.mpr (fun d => by rw [key.mp d] at c; cases c)
theorem s_histories (ci : CI M w h rn s yr) (n : Int32) : StepI G t_X9_histories t_X10_histories [.int n] M w h rn s yr := by
  have hn6 := ci.n6
  rcases wIn_cases n (m := 10) (by decide) with q | ⟨n, hn, rfl⟩
  · exact st_same ci (c_hist_bad n q) (fun N x => x_hist_bad n q)
  · have e := any_N (M := M) (rn := rn) hn6 (n := n)
    rcases Nat.eq_zero_or_pos (ONn M w h rn n n 0) with q | q
    · rw [q] at e
      exact st_noteE (by decide) ci (c_hist_no w h rn s yr ci n hn e) (fun N x => x_hist_no M w h rn x.stn ci.tw ci.ro x.eng n hn q)
    · rw [decide_eq_true q] at e
      have hc := c_hist_ok (G := G) w h rn s yr ci n hn e
      rw [tFrac_2, hv_N hn6 (by omega)] at hc
      exact st_fracE ci hc (fun N x => x_hist_ok M w h rn x.stn ci.tw ci.ro x.eng n hn q)
theorem s_when (ci : CI M w h rn s yr) (n l : Int32) : StepI G t_X9_when t_X10_when [.int n, .int l] M w h rn s yr := by
  have hn6 := ci.n6
  rcases wIn_cases n (m := 10) (by decide) with q | ⟨n, hn, rfl⟩
  · exact st_same ci (c_when_bad1 n l q) (fun N x => x_when_bad1 n l q)
  · rcases wIn_cases l (m := 4) (by decide) with q | ⟨l, hl, rfl⟩
    · exact st_same ci (c_when_bad2 n hn l q) (fun N x => x_when_bad2 n hn l q)
    · rcases law_c (N := M) ci hl with q | ⟨z, hL, qz⟩
      · exact st_note (by decide) ci (c_when_no n hn l hl q) (fun N x => x_when_no n hn l hl ((x.law.1 l hl).trans q))
      · have e := any_N (M := M) (rn := rn) hn6 (n := n)
        rcases Nat.eq_zero_or_pos (ONn M w h rn n n 0) with q | q
        · rw [q] at e
          exact st_noteE (by decide) ci (c_when_nt w h rn s yr ci n hn l hl qz e) (fun N x => x_when_nt M w h rn x.stn ci.tw ci.ro x.eng n hn l hl z ((x.law.1 l hl).trans hL.2.1) hL.2.2.2 q)
        · rw [decide_eq_true q] at e
          have hc := c_when_ok (G := G) w h rn s yr ci n hn l hl qz e
          have e1 : wBits (whA M w h rn n l) (n + 1) = wBits (fun y => alR M w h rn n l y (4 ^ (w * h))) (n + 1) := wBits_cong (fun k _ => wh_A ci hl)
          have e2 : wBits (whS M w h rn n l) (n + 1) = wBits (fun y2 => decide (y2 < n + 1) && smR M w h rn n l y2 (4 ^ (w * h))) 10 := by
            refine Nat.eq_of_testBit_eq (fun i => ?_)
            rw [wBits_bit, wBits_bit, wh_S ci hl]
            by_cases c : i < n + 1
            · rw [decide_eq_true c, decide_eq_true (show i < 10 by omega)]; rfl
            · rw [decide_eq_false c]; simp
          rw [e1, e2] at hc
          exact st_tellE ci hc (fun N x => x_when_ok M w h rn x.stn ci.tw ci.ro x.eng x.law ci.lw ci.stn n hn l hl z ((x.law.1 l hl).trans hL.2.1) hL.2.2.2 q)
theorem bdn (p : Int32) {n : Nat} (hn : n < 10) : (p < 1 ∨ ¬ p ≤ nI n) ∨ ∃ k, 1 ≤ k ∧ k ≤ n ∧ p = nI k := by
  by_cases h1 : p < 1
  · exact Or.inl (Or.inl h1)
  · by_cases h2 : p ≤ nI n
    · right
      have h0 : ¬ p < 0 := fun q => h1 (Int32.lt_trans q (by decide))
      obtain ⟨k, hk, rfl⟩ := nI_of h0
      exact ⟨k, by rcases Nat.eq_zero_or_pos k with q | q; (subst q; exact absurd (by decide) h1); exact q, (nI_leI hk (by omega)).mp h2, rfl⟩
    · exact Or.inl (Or.inr h2)
theorem bdn0 (p : Int32) {n : Nat} (hn : n < 10) : (p < 0 ∨ ¬ p ≤ nI n) ∨ ∃ k, k ≤ n ∧ p = nI k := by
  by_cases h1 : p < 0
  · exact Or.inl (Or.inl h1)
  · by_cases h2 : p ≤ nI n
    · right
      obtain ⟨k, hk, rfl⟩ := nI_of h1
      exact ⟨k, (nI_leI hk (by omega)).mp h2, rfl⟩
    · exact Or.inl (Or.inr h2)
theorem s_turned (ci : CI M w h rn s yr) (n k : Int32) : StepI G t_X9_turned t_X10_turned [.int n, .int k] M w h rn s yr := by
  have hn6 := ci.n6
  rcases wIn_cases n (m := 10) (by decide) with q | ⟨n, hn, rfl⟩
  · exact st_same ci (c_turned_bad1 n k q) (fun N x => x_turned_bad1 n k q)
  · rcases bdn k hn with q | ⟨k, h1, hk, rfl⟩
    · exact st_same ci (c_turned_bad2 n hn k q) (fun N x => x_turned_bad2 n hn k q)
    · have e := any_N (M := M) (rn := rn) hn6 (n := n)
      rcases Nat.eq_zero_or_pos (ONn M w h rn n n 0) with q | q
      · rw [q] at e
        exact st_noteE (by decide) ci (c_turned_nt w h rn s yr ci n hn k h1 hk e) (fun N x => x_turned_nt M w h rn x.stn ci.tw ci.ro x.eng n hn k h1 hk q)
      · rw [decide_eq_true q] at e
        have hc := c_turned_ok (G := G) w h rn s yr ci n hn k h1 hk e
        have e1 : wBits (tuB M w h rn n k) (w * h) = wBits (fun j => wAny (fun t2 => tnR M w h rn n k t2 j) (4 ^ (w * h))) (w * h) := wBits_cong (fun j hj => tu_B hn6 hj)
        rw [e1, tn_B hn6] at hc
        exact st_tellE ci hc (fun N x => x_turned_ok M w h rn x.stn ci.tw ci.ro x.eng n hn k h1 hk q)
theorem s_odds (ci : CI M w h rn s yr) (n k l : Int32) : StepI G t_X9_odds t_X10_odds [.int n, .int k, .int l] M w h rn s yr := by
  have hn6 := ci.n6
  rcases wIn_cases n (m := 10) (by decide) with q | ⟨n, hn, rfl⟩
  · exact st_same ci (c_odds_bad1 n k l q) (fun N x => x_odds_bad1 n k l q)
  · rcases bdn0 k hn with q | ⟨k, hk, rfl⟩
    · exact st_same ci (c_odds_bad2 n hn k l q) (fun N x => x_odds_bad2 n hn k l q)
    · rcases wIn_cases l (m := 4) (by decide) with q | ⟨l, hl, rfl⟩
      · exact st_same ci (c_odds_bad3 n hn k hk l q) (fun N x => x_odds_bad3 n hn k hk l q)
      · rcases law_c (N := M) ci hl with q | ⟨z, hL, qz⟩
        · exact st_note (by decide) ci (c_odds_no n hn k hk l hl q) (fun N x => x_odds_no n hn k hk l hl ((x.law.1 l hl).trans q))
        · have e := any_N (M := M) (rn := rn) hn6 (n := n)
          rcases Nat.eq_zero_or_pos (ONn M w h rn n n 0) with q | q
          · rw [q] at e
            exact st_noteE (by decide) ci (c_odds_nt w h rn s yr ci n hn k hk l hl qz e) (fun N x => x_odds_nt M w h rn x.stn ci.tw ci.ro x.eng n hn k hk l hl z ((x.law.1 l hl).trans hL.2.1) hL.2.2.2 q)
          · rw [decide_eq_true q] at e
            have eh := hv_N (M := M) (w := w) (h := h) (rn := rn) hn6 (n := n) (by omega)
            have hc := c_odds_ok (G := G) w h rn s yr ci n hn k hk l hl qz e (by rw [eh]; exact q)
            rw [tFrac_2, eh, ov_N hn6 (by omega) hk (fun t ht => sb_lv ci hl ht)] at hc
            exact st_fracE ci hc (fun N x => x_odds_ok M w h rn x.stn ci.tw ci.ro x.eng x.law ci.lw ci.stn n hn k hk l hl z ((x.law.1 l hl).trans hL.2.1) hL.2.2.2 q)
end STEPS8
