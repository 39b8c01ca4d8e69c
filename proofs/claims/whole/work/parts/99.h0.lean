/-! ===== what the tables give at the start ===== -/
theorem wd_94 : Cond.instantiable RX9 14 ∈ lw_gd := List.mem_filter.mpr ⟨List.mem_of_getElem? (i := 94) (by decide +kernel), by decide +kernel⟩
theorem wd_1108 : Cond.instantiable RX10 41 ∈ lw_gd := List.mem_filter.mpr ⟨List.mem_of_getElem? (i := 1108) (by decide +kernel), by decide +kernel⟩
theorem wl_inst {k : Nat} {C : String} {T : u_T} {N : Nat} (h : classes[k]? = some (C, T, N)) : Cond.instantiable C N ∈ lw_gd := by
  match k, h with
  | 0, h => cases h; exact wd_185
  | 1, h => cases h; exact wd_288
  | 2, h => cases h; exact wd_260
  | 3, h => cases h; exact wd_194
  | 4, h => cases h; exact wd_125
  | 5, h => cases h; exact wd_102
  | 6, h => cases h; exact wd_319
  | 7, h => cases h; exact wd_163
  | 8, h => cases h; exact wd_225
  | 9, h => cases h; exact wd_94
  | 10, h => cases h; exact wd_1108
  | k + 11, h => simp [classes] at h
theorem wl_ovA : Cond.arrayOver (.array .int) ∈ lw_tbl := List.mem_of_getElem? (i := 108) (by decide +kernel)
theorem wl_ovQ : Cond.arrayOver (.object "TurnedStones$StateSet") ∈ lw_tbl := List.mem_of_getElem? (i := 193) (by decide +kernel)
theorem wl_lays : Cond.laysStatic RX3 "FIRST" "[J" ∈ lw_tbl := List.mem_of_getElem? (i := 631) (by decide +kernel)
theorem wl_n0 : Cond.methodLinkNest RX9 23 yX4_init "TurnedStones" ∈ lw_tbl := List.mem_of_getElem? (i := 126) (by decide +kernel)
theorem wl_n1 : Cond.methodLinkNest RX0 38 yX3_init "TurnedStones" ∈ lw_tbl := List.mem_of_getElem? (i := 195) (by decide +kernel)
theorem wl_n2 : Cond.methodLinkNest RX8 20 yX3_init "TurnedStones" ∈ lw_tbl := List.mem_of_getElem? (i := 231) (by decide +kernel)
theorem wl_n3 : Cond.methodLinkNest RX1 17 yX3_init "TurnedStones" ∈ lw_tbl := List.mem_of_getElem? (i := 294) (by decide +kernel)
theorem wl_n4 : Cond.methodLinkNest RX9 76 yX6_init "TurnedStones" ∈ lw_tbl := List.mem_of_getElem? (i := 320) (by decide +kernel)
theorem wd_93 : Cond.classLink R_law 7 RX9 ∈ lw_gd := List.mem_filter.mpr ⟨List.mem_of_getElem? (i := 93) (by decide +kernel), by decide +kernel⟩
theorem wd_95 : Cond.methodLink R_law 9 yX9_init ∈ lw_gd := List.mem_filter.mpr ⟨List.mem_of_getElem? (i := 95) (by decide +kernel), by decide +kernel⟩
theorem wd_1107 : Cond.classLink R_law 10 RX10 ∈ lw_gd := List.mem_filter.mpr ⟨List.mem_of_getElem? (i := 1107) (by decide +kernel), by decide +kernel⟩
theorem wd_1109 : Cond.methodLink R_law 12 yX10_init ∈ lw_gd := List.mem_filter.mpr ⟨List.mem_of_getElem? (i := 1109) (by decide +kernel), by decide +kernel⟩
theorem ma_word {args : Array Value} {s : State} (h : (Cond.arrayOver (.array .int)).before args s = true) : ∃ (comp cA : ClassId) (kA : Class), s.vm.findClass "[I" = some comp ∧ s.vm.classes[cA]? = some kA ∧ kA.kind = .array comp (.array .int) ∧ s.vm.findClass "[[I" = some cA := by
  unfold Cond.before Cond.holds at h
  simp only [Cond.value] at h
  obtain ⟨comp, h1, h2⟩ := Option.bind_eq_some_iff.mp (eq_of_beq h)
  obtain ⟨cA, h3, h4⟩ := Option.bind_eq_some_iff.mp h2
  obtain ⟨kA, h5, h6⟩ := Option.map_eq_some_iff.mp h4
  obtain ⟨hlt, hp, -⟩ := Array.findIdx?_eq_some_iff_getElem.mp h3
  rw [(Array.getElem?_eq_some_iff.mp h5).2] at hp
  cases hk : kA.kind with
  | array cc ty =>
    rw [hk] at h6 hp
    simp only [Bool.and_eq_true, decide_eq_true_eq, beq_iff_eq] at h6 hp
    exact ⟨comp, cA, kA, h1, h5, by rw [hk, hp, h6.1], h6.2⟩
  | _ => rw [hk] at h6; simp at h6
section WLS
variable {p : Program} {e : Env} {s : State} {m : MethodId} {below : List Frame} {meth : Method} {c : Code} {b L : Nat} {xs : Nat → Int32}
theorem wl_K (l : Launch) (C0 : lw_At p s m meth c b L xs) : ∃ (D : va_G) (ids : Nat → ClassId), wc_K (l, D, ids) s := by
  have hts0 := C0.2.2.2.2.2.1
  have hts : ∀ w ∈ lw_gd, w.before #[Value.ref b] s = true := fun w hw => hts0 w (lw_gd_tbl hw)
  have key : ∀ k : Nat, ∃ z : ClassId × (Nat → Nat), ∀ q : vw_C, classes[k]? = some q → u_Kn s q.1 q.2.1 q.2.2 z.1 z.2 := by
    intro k
    cases hq : classes[k]? with
    | none => exact ⟨(0, fun _ => 0), fun q h => by cases h⟩
    | some q =>
      obtain ⟨C, T, N⟩ := q
      obtain ⟨cC, sl, h⟩ := u_known hts (wm_cls hq).1 (hts _ (wl_inst hq))
      exact ⟨(cC, sl), fun q e => by cases e; exact h⟩
  obtain ⟨D, hD⟩ := Classical.axiomOfChoice key
  obtain ⟨cI, kI, compI, i1, i2, i3⟩ := Cond.arrayClass_spec (hts _ wd_123)
  obtain ⟨cJ, kJ, compJ, j1, j2, j3⟩ := Cond.arrayClass_spec (hts _ wd_203)
  obtain ⟨cB, kB, compB, b1, b2, b3⟩ := Cond.arrayClass_spec (hts _ wd_1238)
  obtain ⟨cZ, kZ, compZ, z1, z2, z3⟩ := Cond.arrayClass_spec (hts _ wd_1239)
  obtain ⟨comp, cA, kA, a1, a2, a3, a4⟩ := ma_word (hts0 _ wl_ovA)
  obtain ⟨compQ, cQ, kQ, q1, q2, q3, q4, q5⟩ := Cond.arrayOver_spec (hts0 _ wl_ovQ)
  have e1 : comp = cI := Option.some.inj (a1.symm.trans i1)
  subst e1
  have ar : ∀ {cX cc : ClassId} {kX : Class} {ty : FieldType}, s.vm.classes[cX]? = some kX → kX.kind = .array cc ty → ArrOfT s cX ty := fun h1 h2 n z => ⟨(fun k h => by cases h), _, h1, _, h2⟩
  refine ⟨(fun k => (D k).1, fun k => (D k).2), fun k => match k with | 0 => comp | 1 => cJ | 2 => cB | 3 => cZ | 4 => cA | _ => cQ, ⟨fun k q hq => hD k q hq, fun k q hq => ?_⟩, hts0 _ wl_ovQ, ⟨kA, a2, a3⟩, fun q hq => ?_⟩
  · match k, hq with
    | 0, hq => cases hq; exact ⟨ar i2 i3, i1⟩
    | 1, hq => cases hq; exact ⟨ar j2 j3, j1⟩
    | 2, hq => cases hq; exact ⟨ar b2 b3, b1⟩
    | 3, hq => cases hq; exact ⟨ar z2 z3, z1⟩
    | 4, hq => cases hq; exact ⟨ar a2 a3, a4⟩
    | 5, hq => cases hq; exact ⟨ar q3 q4, kQ, compQ, q3, q4, q1, q5⟩
    | k + 6, hq => simp [wc_tys] at hq
  · simp only [wc_nest, List.mem_cons, List.not_mem_nil, or_false] at hq
    rcases hq with rfl | rfl | rfl | rfl | rfl
    · exact va_Nw.of rfl (hts0 _ wl_n0)
    · exact va_Nw.of rfl (hts0 _ wl_n1)
    · exact va_Nw.of rfl (hts0 _ wl_n2)
    · exact va_Nw.of rfl (hts0 _ wl_n3)
    · exact va_Nw.of rfl (hts0 _ wl_n4)
theorem wl_first (C0 : lw_At p s m meth c b L xs) : ∃ f : Nat, va_Z RX3 "FIRST" "[J" (.ref f) (fun q => s.heap.size ≤ q) s s.heap ∧ va_T .long f 3 (fun j => .long (wm_first j)) (fun q => s.heap.size ≤ q) s s.heap := by
  have hs := flat_of_before _ C0.2.2.2.2.2.2.2.2.2
  have hts0 := C0.2.2.2.2.2.1
  have hA : ∀ a : Nat, a < s.heap.size → ¬ (fun q => s.heap.size ≤ q) a := fun a h q => absurd h (Nat.not_lt.mpr q)
  have hel : ∀ j : Nat, j < 3 → (Term.elem (.static RX3 "FIRST" "[J") (.int (Int32.ofNat j))).eval #[Value.ref b] s none [] s = some (.long (wm_first j)) := by
    intro j hj
    match j, hj with
    | 0, _ => exact va_eqtl (hs (Cond.eq (.elem (.static RX3 "FIRST" "[J") (.int 0)) (.long 1229782938247303441)) (by decide +kernel))
    | 1, _ => exact va_eqtl (hs (Cond.eq (.elem (.static RX3 "FIRST" "[J") (.int 1)) (.long 4222189076152335)) (by decide +kernel))
    | 2, _ => exact va_eqtl (hs (Cond.eq (.elem (.static RX3 "FIRST" "[J") (.int 2)) (.long 65535)) (by decide +kernel))
    | j + 3, hj => exact absurd hj (by omega)
  obtain ⟨t, h1, h2⟩ := va_Tof (tm := .static RX3 "FIRST" "[J") (ty := .long) (N := 3) (f := fun j => .long (wm_first j)) (A := fun q => s.heap.size ≤ q) (by decide) (hs (Cond.arrayOf (.static RX3 "FIRST" "[J") .long) (by decide +kernel)) (va_eqt (hs (Cond.eq (.length (.static RX3 "FIRST" "[J")) (.int 3)) (by decide +kernel))) hel hA
  exact ⟨t, va_Zof (hts0 _ wl_lays) (hts0 _ (lw_gd_tbl wd_83)) h1 hA, h2⟩
/-- a constructor, called by the law -/
theorem wl_init (C0 : lw_At p s m meth c b L xs) {X : wc_X} (hK : wc_K X s) {A : Nat → Prop} (hA : ∀ q : Nat, s.heap.size ≤ q → A q) {t' : wm_T} {mc' ms' h0 index pc kc ks : Nat} {st : List Value} {w0 wr : va_W} {post' : va_W → Prop} {Q : State → Prop} (hM : MC X t' mc' ms' [.ref h0] w0 post') (hc : wc_calI t' 0) (hlink : Cond.methodLink R_law index t'.1 ∈ lw_gd) (hd : decode code pc = .ok (.invokespecial index, 3)) (hw : (st.map fun v => v.category).sum ≤ 8) (hR : t'.2.2.2.2.1 + 1 ≤ 13 ∧ 8 + (t'.2.2.1 + 11) + t'.2.2.2.2.2 ≤ 546) (hc1 : kc + mc' ≤ 600000) (hs1 : ks + ms' ≤ 7302250)
    {H : Heap} {locs : List Loc} {la : Array Slot} {ls : List (Nat × Value)} (hP : va_P X.2.1 classes (wr ++ w0) H) (hD : va_D A (wr ++ w0)) (hS : va_S A s.heap H locs) (hl : lv_has la 4 ls)
    (k : ∀ (w1 : va_W) (H1 : Heap) (locs1 : List Loc), post' w1 → va_P X.2.1 classes (wr ++ w1) H1 → va_D A (wr ++ w1) → va_S A s.heap H1 locs1 → W p X.1 e room_1 s m #[Value.ref b] below meth c H1 locs1 (kc + mc') (ks + ms') Q (F0 m (pc + 3) la st)) : W p X.1 e room_1 s m #[Value.ref b] below meth c H locs kc ks Q (F0 m pc la (.ref h0 :: st)) := by
  obtain ⟨hx, hb, hr, hml, hown, hts0, -⟩ := C0
  have hts : ∀ w ∈ lw_gd, w.before #[Value.ref b] s = true := fun w hw => hts0 w (lw_gd_tbl hw)
  obtain ⟨hcal, h6, hy1, hret⟩ := hc
  have hgood := wc_good hcal
  obtain ⟨h1, h2, h3, h4, h5⟩ := hcal
  have hF := wc_fr hD hS hA
  refine va_callv (va_runI (cc := code) (nL := 4) (Ts := lw_gd) (own := R_law) (b := h0) (As := []) (rest := st) ⟨hx, hb, hml, hown, hts⟩ (hM H.size) (cwI 0 hts hgood (by show _ = Cond.code t'.1 t'.2.1 t'.2.2.1 none :: lw_gd; rw [← hret]; rfl) rfl rfl (hts _ h2) (hts _ hlink) (hts _ h6) hy1 ⟨h3, h4, h5⟩ hR) ⟨wc_blind, fun U hU hW => ⟨rfl, by rw [hU], by rw [hU]; exact wc_P_r hP, hK.warm hW, (wc_D_r hD).weaken (fun _ _ _ _ => trivial)⟩⟩ rfl rfl hl.1 rfl (lv_room hw) hd ⟨hc1, hs1⟩) hS (fun q _ h => hF q h) hF (fun u tt H1 locs1 ht hvm hw1 hB hz1 hk1 hS1 => ?_)
  obtain ⟨hP1, hD1⟩ := hB
  rw [ht] at hP1
  obtain ⟨hP2, hD2⟩ := wc_join hP hD hk1 hF hP1 hD1
  exact k u H1 locs1 hw1 hP2 hD2 hS1
end WLS
