/-! ===== the law's own frame ===== -/
def TwoI (G : wm_G) (tC tM : wm_T) (args : List Value) (M : wm_M) : Prop := ∃ v : Int32, MA G tC (wm_r G 0 :: args) M (fun u N => u = some (.int v) ∧ MA G tM (wm_r G 96 :: args) N (fun u O => u = some (.int v) ∧ RelA O))
def TwoL (G : wm_G) (tC tM : wm_T) (args : List Value) (M : wm_M) : Prop := ∃ v : Int64, MA G tC (wm_r G 0 :: args) M (fun u N => u = some (.long v) ∧ MA G tM (wm_r G 96 :: args) N (fun u O => u = some (.long v) ∧ RelA O))
theorem StepB.two {G : wm_G} {tC tM : wm_T} {args : List Value} {M : wm_M} {w h rn s yr : Nat} (q : StepB G tC tM args M w h rn s yr) (ci : CI M w h rn s yr) (x : XR M M w h rn s yr) : TwoI G tC tM args M := by
  obtain ⟨v, q⟩ := q
  refine ⟨v, MA.mono q (fun u N a => ⟨a.1, ?_⟩)⟩
  obtain ⟨C', w', h', rn', s', yr', e, c, o, k⟩ := a.2
  exact MA.mono (k N (x.only ci.r4 o e)) (fun u O b => ⟨b.1, rel_end c e b.2.1 b.2.2⟩)
theorem StepL.two {G : wm_G} {tC tM : wm_T} {args : List Value} {M : wm_M} {w h rn s yr : Nat} (q : StepL G tC tM args M w h rn s yr) (ci : CI M w h rn s yr) (x : XR M M w h rn s yr) : TwoL G tC tM args M := by
  obtain ⟨v, C', w', h', rn', s', yr', q1, q2, q3, q4⟩ := q
  exact ⟨v, MA.mono q1 (fun u N a => ⟨a.1, MA.mono (q4 N (x.only ci.r4 q3 a.2)) (fun u O b => ⟨b.1, rel_end q2 a.2 b.2.1 b.2.2⟩)⟩)⟩
section LAWF
variable {G : wm_G} {p : Program} {e : Env} {s : State} {m : MethodId} {below : List Frame} {meth : Method} {c : Code} {b L : Nat} {xs : Nat → Int32}
def R_law : String := "TurnedStonesLaw"
def lw_P (b : Addr) (xs : List Int32) (args : Array Value) (s : State) : Prop := args = #[.ref b] ∧ s.IntsAt b xs ∧ xs.length ≤ 3072 ∧ (Jvm.Cond.and given_1 narrow_1).before args s = true
def lw_Q (_ : Array Value) (s : State) (o : Outcome) (t : State) : Prop := o = .returned (some (.int 1)) ∧ Framed s o t [] 600000 7302250
def lw_Z (below : List Frame) (a : Array Value) (s : State) : State → Prop := fun t => ∃ o, t.status = .running ∧ Ended t below o ∧ lw_Q a s o t
def lw_At (p : Program) (s : State) (m : MethodId) (meth : Method) (c : Code) (b L : Nat) (xs : Nat → Int32) : Prop :=
  p.tables.exec = Jvm.exec ∧ c.code = code ∧ meth.sig.returnType = ret ∧ c.maxLocals = 4 ∧ s.vm.findClass R_law = some m.cls ∧ (∀ w ∈ lw_tbl, w.before #[Value.ref b] s = true) ∧ va_X b L xs s s.heap ∧ b < s.heap.size ∧ meth.locks = false ∧ (Jvm.Cond.and given_1 narrow_1).before #[Value.ref b] s = true
theorem wl_callx {pc : Nat} {H : Heap} {locs : List Loc} {Q : State → Prop} {la : Array Slot} {rest st0 : List Value} {a : Array Value} {post' : Option Value → wm_M → Prop} {kc ks : Nat}
    (hr : va_Run p G.1 e room_1 s m #[Value.ref b] below meth c H locs kc ks 0 0 (F0 m pc la st0) rest (wm_Q G post' a) G.2.2.2.2.1) (hS : va_S G.2.2.2.2.1 s.heap H locs)
    (kk : ∀ (v : Option Value) (N : wm_M) (H1 : Heap) (locs1 : List Loc), post' v N → va_P G.2.1 classes (wm_ws G N) H1 → va_S G.2.2.2.2.1 s.heap H1 locs1 → W p G.1 e room_1 s m #[Value.ref b] below meth c H1 locs1 kc ks Q (F0 m (pc + 3) la (v.toList ++ rest))) : W p G.1 e room_1 s m #[Value.ref b] below meth c H locs kc ks Q (F0 m pc la st0) := by
  intro T hT X
  obtain ⟨v, st₀, tt, T', L, h0, X', hL, e1, e2, ⟨⟨v', N, hv, hp, hb⟩, hz, hk⟩, stp⟩ := hr T hT X
  cases hv
  rw [h0] at hz hk
  obtain ⟨t2, a1, b1⟩ := kk v N T'.heap (locs ++ L) hp (by rw [e1]; exact hb)
    ⟨Nat.le_trans hS.1 (by rw [e1]; exact hz), fun q h1 h2 => by rw [e1, hk q (Nat.lt_of_lt_of_le h1 hS.1) h2]; exact hS.2.1 q h1 h2, fun q hq => by
      rcases List.mem_append.mp hq with h | h
      · exact hS.2.2 q h
      · exact hL q h⟩ T' rfl X'
  exact ⟨t2, stp t2 a1, b1⟩
theorem wl_call (C0 : lw_At p s m meth c b L xs) (hF : wm_F G s) {t' : wm_T} {As : List Value} {st st0 : List Value} {k ci n pc index : Nat} {fts : List (Nat × Nat)} {ft : Nat × Nat} {post' : Option Value → wm_M → Prop} {M : wm_M} (hM : MA G t' (wm_r G k :: As) M post') (hc : wm_calV t' n) (hlink : Cond.methodLink R_law index t'.1 ∈ lw_gd) (hd : decode code pc = .ok (.invokevirtual index, 3)) (hs : wm_sh k = .inl (ci, ft :: fts)) (hcl : (classes[ci]?).map (fun q => q.1) = some t'.1.cls)
    (hn : As.length = n) (hst : st0 = As.reverse ++ wm_r G k :: st) (hw : (st.map fun v => v.category).sum ≤ 8) (hR : t'.2.2.2.2.1 + 1 ≤ 13 ∧ 8 + (t'.2.2.1 + 11) + t'.2.2.2.2.2 ≤ 546) {H : Heap} {locs : List Loc} {la : Array Slot} {ls : List (Nat × Value)} (hP : va_P G.2.1 classes (wm_ws G M) H) (hS : va_S G.2.2.2.2.1 s.heap H locs) (hl : lv_has la 4 ls)
    (kk : ∀ (v : Option Value) (N : wm_M) (H1 : Heap) (locs1 : List Loc), post' v N → va_P G.2.1 classes (wm_ws G N) H1 → va_S G.2.2.2.2.1 s.heap H1 locs1 → W p G.1 e room_1 s m #[Value.ref b] below meth c H1 locs1 600000 7302250 (lw_Z below #[Value.ref b] s) (F0 m (pc + 3) la (v.toList ++ st))) : W p G.1 e room_1 s m #[Value.ref b] below meth c H locs 600000 7302250 (lw_Z below #[Value.ref b] s) (F0 m pc la st0) := by
  subst hst
  obtain ⟨hx, hb, hr, hml, hown, hts0, -⟩ := C0
  have hts : ∀ w ∈ lw_gd, w.before #[Value.ref b] s = true := fun w hw => hts0 w (lw_gd_tbl hw)
  obtain ⟨⟨h1, h2, h3, h4, h5⟩, h6, h7⟩ := hc
  obtain ⟨q, hq, hqc⟩ : ∃ q, classes[ci]? = some q ∧ q.1 = t'.1.cls := by
    cases h : classes[ci]? with
    | none => rw [h] at hcl; cases hcl
    | some q => rw [h] at hcl; exact ⟨q, rfl, Option.some.inj hcl⟩
  have hG : GoodIn lw_gd (wsV R_law index t'.1.cls t'.1 (wm_ws0 t')) := by
    intro w hw
    have : w ∈ lw_gd := by
      simp only [wsV, wm_ws0, List.mem_append, List.mem_cons, List.not_mem_nil, or_false] at hw
      rcases hw with (rfl | rfl | rfl | rfl) | rfl | hw
      · exact hlink
      · exact h6
      · exact h7
      · exact h2
      · exact h1
      · exact hw
    exact ⟨this, lw_gd_good this⟩
  have hrec := va_recv (q0 := k) (a := wm_a G k) (fs := wm_fs G M k 0 (ft :: fts)) hF.1 hP hq (by rw [wm_at (wm_lt (fun q => by rw [hs] at q; cases q)), wm_obj hs])
  rw [hqc] at hrec
  refine wl_callx (va_runV (cc := code) (nL := 4) (Ts := lw_gd) (own := R_law) (C := t'.1.cls) (b := wm_a G k) (As := As) (rest := st) ⟨hx, hb, hml, hown, hts⟩ hM (cwV n hts hG rfl rfl rfl ⟨rfl, h3, h4, h5⟩ hR) ⟨wm_blind _, hrec, fun U hU hW => ⟨rfl, wm_pre hF hP hS hU hW⟩⟩ rfl hn hl.1 rfl (lv_room hw) hd ⟨Nat.le_refl _, Nat.le_refl _⟩) hS kk
theorem lg_cmp_self (v : Int64) : lg_cmp v v = 0 := by unfold lg_cmp; simp
/-- a script's int, laid on the stack -/
theorem wl_arg (C0 : lw_At p s m meth c b L xs) {pc i k : Nat} {ki : Int} (d0 : decode code pc = .ok (.aload_n 0, 1)) (d1 : decode code (pc + 1) = .ok (.iload_n 3, 1)) (d2 : decode code (pc + 2) = .ok (.iconst ki, 1)) (d3 : decode code (pc + 3) = .ok (.iadd, 1)) (d4 : decode code (pc + 4) = .ok (.iaload, 1)) {la : Array Slot} (hl : lv_has la 4 [(3, .int (nI i)), (2, wm_r G 96), (1, wm_r G 0), (0, .ref b)]) (hA : G.2.2.2.2.1 = fun q => s.heap.size ≤ q) {H : Heap} {locs : List Loc} (hS : va_S G.2.2.2.2.1 s.heap H locs) (hi : i + k < L) (hL : L ≤ 3072) (hk : Int32.ofInt ki = nI k) {st : List Value}
    (kk : W p G.1 e room_1 s m #[Value.ref b] below meth c H locs 600000 7302250 (lw_Z below #[Value.ref b] s) (F0 m (pc + 5) la (.int (xs (i + k)) :: st))) : W p G.1 e room_1 s m #[Value.ref b] below meth c H locs 600000 7302250 (lw_Z below #[Value.ref b] s) (F0 m pc la st) := by
  obtain ⟨hx, hb, hr, hml, hown, hts, hX, hbl, hlocks, hgv⟩ := C0
  have hbA : ¬ G.2.2.2.2.1 b := by rw [hA]; exact Nat.not_le.mpr hbl
  refine lv_aload_n hx hb d0 rfl (lv_at hl 3 rfl) ?_
  refine lv_iload_n hx hb d1 rfl (lv_at hl 0 rfl) ?_
  refine lv_iconst (v := nI k) hx hb d2 hk ?_
  refine lv_iadd hx hb d3 ?_
  rw [nI_add]
  refine va_sld hx hb hX hbl hbA hS (vp_in_nI hi (by omega)) d4 ?_
  rw [nI_clamp (by omega)]
  exact kk
end LAWF
