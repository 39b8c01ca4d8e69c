/-! ===== the constructors' layer: a frame over a list of cells that grows ===== -/
abbrev wc_X : Type := Launch × va_G × (Nat → ClassId)
def wc_tys (ids : Nat → ClassId) : List (ClassId × FieldType) := [(ids 0, .int), (ids 1, .long), (ids 2, .byte), (ids 3, .boolean), (ids 4, .array .int), (ids 5, .object "TurnedStones$StateSet")]
def wc_nest : List (String × Nat × MethodName) := [(RX9, 23, yX4_init), (RX0, 38, yX3_init), (RX8, 20, yX3_init), (RX1, 17, yX3_init), (RX9, 76, yX6_init)]
/-- what the tables say, and go on saying: classes, array classes, the array class of arrays, the nest mates' links -/
def wc_K (X : wc_X) (U : State) : Prop := va_K X.2.1 classes (wc_tys X.2.2) U ∧ va_AO "TurnedStones$StateSet" U ∧ (∃ kA : Class, U.vm.classes[X.2.2 4]? = some kA ∧ kA.kind = .array (X.2.2 0) (.array .int)) ∧ ∀ q ∈ wc_nest, va_Nw (.methodLinkNest q.1 q.2.1 q.2.2 "TurnedStones") U
theorem wc_K.warm {X : wc_X} {s U : State} (hW : s.WarmedH U.vm) (h : wc_K X s) : wc_K X U := by
  obtain ⟨h1, h2, ⟨kA, h3, h4⟩, h5⟩ := h
  obtain ⟨k', hk', he⟩ := hW.alike.2.2 _ _ h3
  exact ⟨h1.moved hW.alike, h2.moved hW.alike, ⟨k', hk', by rw [he]; exact h4⟩, fun q hq => va_Nw.warmM hW (h5 q hq)⟩
theorem wc_K.same {X : wc_X} {u U : State} (h : u.vm = U.vm) (hk : wc_K X u) : wc_K X U := by
  have ha : u.vm.Alike U.vm := h ▸ Vm.Alike.refl u.vm
  obtain ⟨h1, h2, ⟨kA, h3, h4⟩, h5⟩ := hk
  exact ⟨h1.moved ha, h2.moved ha, ⟨kA, by rw [← h]; exact h3, h4⟩, fun q hq => va_Nw.same rfl h (h5 q hq)⟩
def wc_C (X : wc_X) (t : wm_T) (A : Nat → Prop) (p : Program) (s : State) (m : MethodId) (args : Array Value) (meth : Method) (c : Code) : Prop :=
  p.tables.exec = Jvm.exec ∧ c.code = t.2.1 ∧ meth.sig.returnType = none ∧ c.maxLocals = t.2.2.1 ∧ s.vm.findClass t.1.cls = some m.cls ∧ (∀ w ∈ lw_gd, w.before args s = true) ∧ meth.locks = false ∧ wc_K X s ∧ (∀ q : Nat, s.heap.size ≤ q → A q) ∧ meth.name = t.1.name
def wc_R (t : wm_T) (mc ms : Nat) : Room := { frames := t.2.2.2.2.1, cells := mc, slots := ms, locals := t.2.2.2.2.2 }
def wc_Q (X : wc_X) (post : va_W → Prop) (A : Nat → Prop) : Array Value → State → Outcome → State → Prop := va_Qv post (fun ws t => va_P X.2.1 classes ws t.heap ∧ va_D A ws) A
def WC (X : wc_X) (t : wm_T) (mc ms : Nat) (A : Nat → Prop) (post : va_W → Prop) (pc : Nat) (ls : List (Nat × Value)) (st : List Value) (ws : va_W) (kc ks : Nat) : Prop :=
  ∀ (p : Program) (e : Env) (s : State) (m : MethodId) (args : Array Value) (below : List Frame) (meth : Method) (c : Code), wc_C X t A p s m args meth c → ∀ (H : Heap) (locs : List Loc) (la : Array Slot), va_P X.2.1 classes ws H → va_D A ws → va_S A s.heap H locs → lv_has la t.2.2.1 ls →
    W p X.1 e (wc_R t mc ms) s m args below meth c H locs kc ks (MQ below (wc_Q X post A) args s mc ms A) (F0 m pc la st)
/-- the contract of a method that makes mc cells of ms slots: from the cells w0 to cells with post -/
def MC (X : wc_X) (t : wm_T) (mc ms : Nat) (av : List Value) (w0 : va_W) (post : va_W → Prop) : Prop :=
  ∀ sz : Nat, Met X.1 t.1 (wm_ws0 t) (wc_R t mc ms) (va_Pc av (fun U => U.heap.size = sz ∧ va_P X.2.1 classes w0 U.heap ∧ wc_K X U ∧ va_D (fun _ => True) w0)) (wc_Q X post (va_A w0 sz)) mc ms (va_A w0 sz)
theorem wc_P_r {D : va_G} {w1 w2 : va_W} {H : Heap} (h : va_P D classes (w1 ++ w2) H) : va_P D classes w2 H := fun k q hk => h (w1.length + k) q (by rw [List.getElem?_append_right (Nat.le_add_right _ _), Nat.add_sub_cancel_left]; exact hk)
theorem wc_P_l {D : va_G} {w1 w2 : va_W} {H : Heap} (h : va_P D classes (w1 ++ w2) H) : va_P D classes w1 H := fun k q hk => h k q (by rw [List.getElem?_append_left (List.getElem?_eq_some_iff.mp hk).1]; exact hk)
theorem wc_D_r {A : Nat → Prop} {w1 w2 : va_W} (h : va_D A (w1 ++ w2)) : va_D A w2 := by
  have sh : ∀ (k : Nat) (q : Nat × va_E), w2[k]? = some q → (w1 ++ w2)[w1.length + k]? = some q := fun k q hk => by rw [List.getElem?_append_right (Nat.le_add_right _ _), Nat.add_sub_cancel_left]; exact hk
  exact ⟨fun i j x y hx hy hxy => by have := h.1 _ _ x y (sh i x hx) (sh j y hy) hxy; omega, fun k q hk => h.2 _ q (sh k q hk)⟩
theorem wc_D_l {A : Nat → Prop} {w1 w2 : va_W} (h : va_D A (w1 ++ w2)) : va_D A w1 := by
  have sh : ∀ (k : Nat) (q : Nat × va_E), w1[k]? = some q → (w1 ++ w2)[k]? = some q := fun k q hk => by rw [List.getElem?_append_left (List.getElem?_eq_some_iff.mp hk).1]; exact hk
  exact ⟨fun i j x y hx hy hxy => h.1 _ _ x y (sh i x hx) (sh j y hy) hxy, fun k q hk => h.2 _ q (sh k q hk)⟩
/-- behind a call on the last cells -/
theorem wc_join {A0 : Nat → Prop} {D : va_G} {wr wc w1 : va_W} {H H1 : Heap} (hP : va_P D classes (wr ++ wc) H) (hD : va_D A0 (wr ++ wc)) (hk : ∀ q : Nat, q < H.size → ¬ va_A wc H.size q → H1[q]? = H[q]?) (hF : ∀ q, va_A wc H.size q → A0 q) (hP1 : va_P D classes w1 H1) (hD1 : va_D (va_A wc H.size) w1) : va_P D classes (wr ++ w1) H1 ∧ va_D A0 (wr ++ w1) := by
  have apart : ∀ (k : Nat) (q : Nat × va_E), wr[k]? = some q → q.1 < H.size ∧ ¬ va_A wc H.size q.1 := by
    intro k q hq
    have hlk := (List.getElem?_eq_some_iff.mp hq).1
    have hl := (wc_P_l hP k q hq).lt
    refine ⟨hl, fun h => ?_⟩
    rcases h with ⟨k2, e, h⟩ | h
    · have := hD.1 k (wr.length + k2) q (q.1, e) (by rw [List.getElem?_append_left hlk]; exact hq) (by rw [List.getElem?_append_right (Nat.le_add_right _ _), Nat.add_sub_cancel_left]; exact h) rfl
      omega
    · omega
  refine ⟨va_P.app (fun k q hq => (wc_P_l hP k q hq).kept (hk q.1 (apart k q hq).1 (apart k q hq).2)) hP1, va_D.app (wc_D_l hD) (hD1.weaken (fun k q _ h => hF q.1 h)) (fun i j x y hx hy hxy => (apart i x hx).2 (by rw [hxy]; exact hD1.2 j y hy))⟩
theorem wc_met {X : wc_X} {t : wm_T} {mc ms : Nat} {av : List Value} {w0 : va_W} {post : va_W → Prop} (hy : plainName t.1.cls = true) (hn : (lg_sl av).length ≤ t.2.2.1) (hr : t.2.2.2.1 = none) (h : ∀ A : Nat → Prop, WC X t mc ms A post 0 (lv_args 0 av) [] w0 0 0) : MC X t mc ms av w0 post := by
  intro sz
  refine Met.ofW (cc := t.2.1) (maxL := t.2.2.1) (ret := t.2.2.2.1) hy rfl ?_
  intro p e s m args below meth c s₁ B hml hv
  obtain ⟨rfl, rfl, hP, hK, hD⟩ := hv
  have hts := atoms_spec (ws := wm_ws0 t) B.pre
  have hl := lv_entry av hn
  rw [lg_entry_eq]
  exact h _ p e s m _ below meth c ⟨B.exec, B.bytes, B.returns.trans hr, hml, findClass_of_methodNamed B.named, fun w hw => hts w (List.mem_cons_of_mem _ hw), B.notSynchronized, hK, fun q hq => Or.inr hq, (name_of_methodNamed B.named B.method).1⟩ s.heap [] _ hP hD.self va_S.rf hl
theorem MC.mono {X : wc_X} {t : wm_T} {mc ms : Nat} {av : List Value} {w0 : va_W} {post post' : va_W → Prop} (h : MC X t mc ms av w0 post') (hp : ∀ w, post' w → post w) : MC X t mc ms av w0 post := by
  intro sz p e ha hc hk s m args below hf hpre hP hq
  obtain ⟨k, o, h1, h2, h3, ⟨⟨u, e1, e2, e3⟩, e4⟩, h5⟩ := h sz p e ha hc hk s m args below hf hpre hP hq
  exact ⟨k, o, h1, h2, h3, ⟨⟨u, e1, hp u e2, e3⟩, e4⟩, h5⟩
theorem ra_uniq {U : State} {a b : ClassId} {ty : FieldType} (h1 : va_RA U a ty) (h2 : va_RA U b ty) : a = b := by
  cases ty with
  | object C =>
    obtain ⟨_, _, _, _, _, e1⟩ := h1
    obtain ⟨_, _, _, _, _, e2⟩ := h2
    exact Option.some.inj (e1.symm.trans e2)
  | _ => exact Option.some.inj (Eq.trans (Eq.symm h1) h2)
def wc_pf (t : wm_T) (pc ci j : Nat) (ty : FieldType) : Prop := ∃ (C : String) (T : u_T) (N index : Nat), classes[ci]? = some (C, T, N) ∧ j < N ∧ Cond.fieldLink t.1.cls index (T j).1 (T j).2.1 (T j).2.2.1 ∈ lw_gd ∧ decode t.2.1 pc = .ok (.putfield index, 3) ∧ parseFieldDescriptor (T j).2.2.1 = some ty ∧ (T j).1 = t.1.cls
def wc_nw (t : wm_T) (pc ci N : Nat) (fs : List Value) : Prop := ∃ (C : String) (T : u_T) (index : Nat) (ty0 : Nat → FieldType), classes[ci]? = some (C, T, N) ∧ Cond.classLink t.1.cls index C ∈ lw_gd ∧ Cond.instantiable C N ∈ lw_gd ∧ Cond.initialized C ∈ lw_gd ∧ (∀ k, k < N → parseFieldDescriptor (T k).2.2.1 = some (ty0 k)) ∧ (∀ j, j < N → defaultValue (ty0 j) = vp_V fs j) ∧ decode t.2.1 pc = .ok (.new index, 3)
def wc_calI (t : wm_T) (n : Nat) : Prop := wm_cal t n ∧ Cond.instanceMethod t.1 ∈ lw_gd ∧ t.1.name = "<init>" ∧ t.2.2.2.1 = none
def wc_ii (t t' : wm_T) (pc : Nat) : Prop := ∃ index, Cond.methodLink t.1.cls index t'.1 ∈ lw_gd ∧ decode t.2.1 pc = .ok (.invokespecial index, 3)
def wc_in (t t' : wm_T) (pc : Nat) : Prop := ∃ index, (t.1.cls, index, t'.1) ∈ wc_nest ∧ decode t.2.1 pc = .ok (.invokespecial index, 3)
def wc_ob (t : wm_T) (pc : Nat) : Prop := ∃ index, Cond.methodLink t.1.cls index objectInit ∈ lw_gd ∧ decode t.2.1 pc = .ok (.invokespecial index, 3)
theorem wc_obw : Cond.instanceMethod objectInit ∈ lw_gd ∧ Cond.code objectInit ⟨#[0xb1]⟩ 1 none ∈ lw_gd := by decide +kernel
section WCR
variable {X : wc_X} {t : wm_T} {mc ms : Nat} {A : Nat → Prop} {post : va_W → Prop} {pc : Nat} {ls : List (Nat × Value)} {st : List Value} {ws : va_W} {kc ks : Nat}
theorem wc_w {ws' : va_W} (h : ws = ws') (k : WC X t mc ms A post pc ls st ws' kc ks) : WC X t mc ms A post pc ls st ws kc ks := h ▸ k
theorem wc_n {kc' ks' : Nat} (h : kc = kc') (h2 : ks = ks') (k : WC X t mc ms A post pc ls st ws kc' ks') : WC X t mc ms A post pc ls st ws kc ks := h ▸ h2 ▸ k
theorem wc_dup {v : Value} (d : decode t.2.1 pc = .ok (.dup, 1)) (h : v.category = 1) (k : WC X t mc ms A post (pc + 1) ls (v :: v :: st) ws kc ks) : WC X t mc ms A post pc ls (v :: st) ws kc ks :=
  fun p e s m args below meth c C H locs la hP hD hS hl => lv_dup C.1 C.2.1 d h (k p e s m args below meth c C H locs la hP hD hS hl)
theorem wc_iconst {n : Int} (v : Int32) (d : decode t.2.1 pc = .ok (.iconst n, 1)) (h : Int32.ofInt n = v) (k : WC X t mc ms A post (pc + 1) ls (.int v :: st) ws kc ks) : WC X t mc ms A post pc ls st ws kc ks :=
  fun p e s m args below meth c C H locs la hP hD hS hl => lv_iconst C.1 C.2.1 d h (k p e s m args below meth c C H locs la hP hD hS hl)
theorem wc_bipush {n : Int} (v : Int32) (d : decode t.2.1 pc = .ok (.bipush n, 2)) (h : (Int8.ofInt n).toInt32 = v) (k : WC X t mc ms A post (pc + 2) ls (.int v :: st) ws kc ks) : WC X t mc ms A post pc ls st ws kc ks :=
  fun p e s m args below meth c C H locs la hP hD hS hl => lv_bipush C.1 C.2.1 d h (k p e s m args below meth c C H locs la hP hD hS hl)
theorem wc_sipush {n : Int} (v : Int32) (d : decode t.2.1 pc = .ok (.sipush n, 3)) (h : (Int16.ofInt n).toInt32 = v) (k : WC X t mc ms A post (pc + 3) ls (.int v :: st) ws kc ks) : WC X t mc ms A post pc ls st ws kc ks :=
  fun p e s m args below meth c C H locs la hP hD hS hl => lv_sipush C.1 C.2.1 d h (k p e s m args below meth c C H locs la hP hD hS hl)
theorem wc_lconst {n : Fin 2} (v : Int64) (d : decode t.2.1 pc = .ok (.lconst n, 1)) (h : Int64.ofNat (n : Nat) = v) (k : WC X t mc ms A post (pc + 1) ls (.long v :: st) ws kc ks) : WC X t mc ms A post pc ls st ws kc ks :=
  fun p e s m args below meth c C H locs la hP hD hS hl => lv_lconst C.1 C.2.1 d h (k p e s m args below meth c C H locs la hP hD hS hl)
theorem wc_ldc {index : Nat} (v : Int32) (d : decode t.2.1 pc = .ok (.ldc index, 2)) (hc : Cond.constant t.1.cls index v ∈ lw_gd) (k : WC X t mc ms A post (pc + 2) ls (.int v :: st) ws kc ks) : WC X t mc ms A post pc ls st ws kc ks :=
  fun p e s m args below meth c C H locs la hP hD hS hl => lv_ldc C.1 C.2.1 C.2.2.2.2.1 (C.2.2.2.2.2.1 _ hc) d (k p e s m args below meth c C H locs la hP hD hS hl)
theorem wc_iload_n {x : Int32} {kk : Fin 4} {i : Nat} (d : decode t.2.1 pc = .ok (.iload_n kk, 1)) (hi : (kk : Nat) = i) (q : Nat) (h : ls[q]? = some (i, .int x)) (k : WC X t mc ms A post (pc + 1) ls (.int x :: st) ws kc ks) : WC X t mc ms A post pc ls st ws kc ks :=
  fun p e s m args below meth c C H locs la hP hD hS hl => lv_iload_n C.1 C.2.1 d hi (lv_at hl q h) (k p e s m args below meth c C H locs la hP hD hS hl)
theorem wc_aload_n {x : Nat} {kk : Fin 4} {i : Nat} (d : decode t.2.1 pc = .ok (.aload_n kk, 1)) (hi : (kk : Nat) = i) (q : Nat) (h : ls[q]? = some (i, .ref x)) (k : WC X t mc ms A post (pc + 1) ls (.ref x :: st) ws kc ks) : WC X t mc ms A post pc ls st ws kc ks :=
  fun p e s m args below meth c C H locs la hP hD hS hl => lv_aload_n C.1 C.2.1 d hi (lv_at hl q h) (k p e s m args below meth c C H locs la hP hD hS hl)
theorem wc_istore_n {x : Int32} {kk : Fin 4} {i : Nat} (ls' : List (Nat × Value)) (d : decode t.2.1 pc = .ok (.istore_n kk, 1)) (hi : (kk : Nat) = i) (hn : i < t.2.2.1) (h : (i, Value.int x) :: ls.filter (fun q => !(q.1 == i) && !(q.1 + 1 == i && q.2.category == 2)) = ls') (k : WC X t mc ms A post (pc + 1) ls' st ws kc ks) : WC X t mc ms A post pc ls (.int x :: st) ws kc ks :=
  fun p e s m args below meth c C H locs la hP hD hS hl => lv_istore_n C.1 C.2.1 d hi hl hn h (fun la hl => k p e s m args below meth c C H locs la hP hD hS hl)
theorem wc_iinc {i : Nat} {n : Int} {x : Int32} (v : Int32) (ls' : List (Nat × Value)) (d : decode t.2.1 pc = .ok (.iinc i n, 3)) (q : Nat) (hq : ls[q]? = some (i, .int x)) (hv : x + Int32.ofInt n = v) (hn : i < t.2.2.1) (h : (i, Value.int v) :: ls.filter (fun q => !(q.1 == i) && !(q.1 + 1 == i && q.2.category == 2)) = ls') (k : WC X t mc ms A post (pc + 3) ls' st ws kc ks) : WC X t mc ms A post pc ls st ws kc ks :=
  fun p e s m args below meth c C H locs la hP hD hS hl => lv_iinc C.1 C.2.1 d hl hq hv hn h (fun la hl => k p e s m args below meth c C H locs la hP hD hS hl)
theorem wc_goto {off : Int} (tgt : Nat) (d : decode t.2.1 pc = .ok (.goto off, 3)) (ht : (pc : Int) + off = (tgt : Int)) (k : WC X t mc ms A post tgt ls st ws kc ks) : WC X t mc ms A post pc ls st ws kc ks :=
  fun p e s m args below meth c C H locs la hP hD hS hl => lv_goto C.1 C.2.1 d ht (k p e s m args below meth c C H locs la hP hD hS hl)
theorem wc_icmp_ge {x y : Int32} {off : Int} (tgt : Nat) (d : decode t.2.1 pc = .ok (.if_icmp .ge off, 3)) (ht : (pc : Int) + off = (tgt : Int)) (kt : y ≤ x → WC X t mc ms A post tgt ls st ws kc ks) (kf : ¬ y ≤ x → WC X t mc ms A post (pc + 3) ls st ws kc ks) : WC X t mc ms A post pc ls (.int y :: .int x :: st) ws kc ks :=
  fun p e s m args below meth c C H locs la hP hD hS hl => lv_icmp_ge C.1 C.2.1 d ht (fun q => kt q p e s m args below meth c C H locs la hP hD hS hl) (fun q => kf q p e s m args below meth c C H locs la hP hD hS hl)
theorem wc_icmp_gt {x y : Int32} {off : Int} (tgt : Nat) (d : decode t.2.1 pc = .ok (.if_icmp .gt off, 3)) (ht : (pc : Int) + off = (tgt : Int)) (kt : y < x → WC X t mc ms A post tgt ls st ws kc ks) (kf : ¬ y < x → WC X t mc ms A post (pc + 3) ls st ws kc ks) : WC X t mc ms A post pc ls (.int y :: .int x :: st) ws kc ks :=
  fun p e s m args below meth c C H locs la hP hD hS hl => lv_icmp_gt C.1 C.2.1 d ht (fun q => kt q p e s m args below meth c C H locs la hP hD hS hl) (fun q => kf q p e s m args below meth c C H locs la hP hD hS hl)
theorem wc_get {h0 ci j : Nat} {fs : List Value} {v : Value} (q0 : Nat) (hi : wm_gf t pc ci j) (he : ws[q0]? = some (h0, .inr (ci, fs))) (hv : fs[j]? = some v) (k : WC X t mc ms A post (pc + 3) ls (v :: st) ws kc ks) : WC X t mc ms A post pc ls (.ref h0 :: st) ws kc ks := by
  obtain ⟨C, T, N, index, hc, hj, hlink, hd⟩ := hi
  intro p e s m args below meth c Cx H locs la hP hD hS hl
  have hts := Cx.2.2.2.2.2.1
  exact va_get (D := X.2.1) (cl := classes) (tys := wc_tys X.2.2) (ws := ws) (ci := ci) (fs := fs) Cx.1 Cx.2.1 hts (wm_cls hc).1 Cx.2.2.2.2.1 Cx.2.2.2.2.2.2.2.1.1 hP q0 he hc j hj (hts _ hlink) (fun _ h9 => h9) hv hd (k p e s m args below meth c Cx H locs la hP hD hS hl)
theorem wc_put {h0 ci j : Nat} {ty : FieldType} {fs : List Value} {v : Value} {ws' : va_W} (q0 : Nat) (hi : wc_pf t pc ci j ty) (hini : t.1.name = "<init>") (he : ws[q0]? = some (h0, .inr (ci, fs))) (hn : narrow ty v = v) (hfit : fits ty v = true) (hl0 : j < fs.length) (hw' : ws.set q0 (h0, .inr (ci, fs.set j v)) = ws') (k : WC X t mc ms A post (pc + 3) ls st ws' kc ks) : WC X t mc ms A post pc ls (v :: .ref h0 :: st) ws kc ks := by
  obtain ⟨C, T, N, index, hc, hj, hlink, hd, hty, hdecl⟩ := hi
  subst hw'
  intro p e s m args below meth c Cx H locs la hP hD hS hl
  obtain ⟨hw, hnm, ty0, hty0⟩ := wm_cls hc
  have hts := Cx.2.2.2.2.2.1
  have hK := Cx.2.2.2.2.2.2.2.1.1
  cases hf : (T j).2.2.2 with
  | false => exact va_put (D := X.2.1) (cl := classes) (tys := wc_tys X.2.2) (ws := ws) (ci := ci) (fs := fs) Cx.1 Cx.2.1 hts hw ty0 hty0 hnm Cx.2.2.2.2.1 hK hP hD hS q0 he hc j hj (hts _ hlink) (fun _ h9 => h9) hf hty hn hfit hl0 hd (fun H1 locs1 hP1 hD1 hS1 => k p e s m args below meth c Cx H1 locs1 la hP1 hD1 hS1 hl)
  | true => exact va_putF (D := X.2.1) (cl := classes) (tys := wc_tys X.2.2) (ws := ws) (ci := ci) (fs := fs) Cx.1 Cx.2.1 hts hw ty0 hty0 hnm Cx.2.2.2.2.1 hK hP hD hS q0 he hc j hj (hts _ hlink) (fun _ h9 => h9) hf (Cx.2.2.2.2.2.2.2.2.2.trans hini) hdecl hty hn hfit hl0 hd (fun H1 locs1 hP1 hD1 hS1 => k p e s m args below meth c Cx H1 locs1 la hP1 hD1 hS1 hl)
theorem wc_new {ci N : Nat} {fs : List Value} (hi : wc_nw t pc ci N fs) (hc : kc + 1 ≤ mc) (hs : ks + N ≤ ms) (k : ∀ q : Nat, WC X t mc ms A post (pc + 3) ls (.ref q :: st) (ws ++ [(q, .inr (ci, fs))]) (kc + 1) (ks + N)) : WC X t mc ms A post pc ls st ws kc ks := by
  obtain ⟨C, T, index, ty0, hcl, h1, h2, h3, hty, hfs, hd⟩ := hi
  intro p e s m args below meth c Cx H locs la hP hD hS hl
  have hts := Cx.2.2.2.2.2.1
  exact va_new (D := X.2.1) (cl := classes) (tys := wc_tys X.2.2) (ci := ci) (fs := fs) Cx.1 Cx.2.1 hts (wm_cls hcl).1 ty0 hty Cx.2.2.2.2.1 (hts _ h1) (hts _ h2) (hts _ h3) Cx.2.2.2.2.2.2.2.1.1 hP hD hS Cx.2.2.2.2.2.2.2.2.1 hcl hfs hc hs hd (fun q H1 hP1 hD1 hS1 => k q p e s m args below meth c Cx H1 locs la hP1 hD1 hS1 hl)
theorem wc_newa (k0 : Nat) {atype : ArrayType} {ty : FieldType} {n : Int32} {N' : Nat} {a0 : vp_A} {cA0 : ClassId} (hty : newarray.typeOf atype = ty) (hw : Cond.arrayClass (newarray.typeOf atype) ∈ lw_gd) (ht : (wc_tys X.2.2)[k0]? = some (cA0, ty)) (ha : ∀ cA : ClassId, vp_cell cA a0 = arrV cA N' (fun _ => defaultValue ty)) (hn : ¬ n < 0) (hN : n.toNatClampNeg = N') (hbytes : N' * componentBytes ty ≤ 536870912) (hc : kc + 1 ≤ mc) (hs : ks + N' ≤ ms) (d : decode t.2.1 pc = .ok (.newarray atype, 2))
    (k : ∀ q : Nat, WC X t mc ms A post (pc + 2) ls (.ref q :: st) (ws ++ [(q, .inl (cA0, a0))]) (kc + 1) (ks + N')) : WC X t mc ms A post pc ls (.int n :: st) ws kc ks := by
  intro p e s m args below meth c Cx H locs la hP hD hS hl
  have hK := Cx.2.2.2.2.2.2.2.1.1
  refine va_newa (D := X.2.1) (cl := classes) (tys := wc_tys X.2.2) Cx.1 Cx.2.1 (Cx.2.2.2.2.2.1 _ hw) hty hK hP hD hS Cx.2.2.2.2.2.2.2.2.1 ha hn hN hbytes hc hs d (fun q cA H1 hK1 hP1 hD1 hS1 => ?_)
  have e1 : cA = cA0 := ra_uniq (hK1.2 6 (cA, ty) rfl).2 (hK.2 k0 _ ht).2
  subst e1
  exact k q p e s m args below meth c Cx H1 locs la hP1 hD1 hS1 hl
theorem wc_newq {index : Nat} {n : Int32} {N' : Nat} (hw : Cond.classLink t.1.cls index "TurnedStones$StateSet" ∈ lw_gd) (hn : ¬ n < 0) (hN : n.toNatClampNeg = N') (hbytes : N' * 4 ≤ 536870912) (hc : kc + 1 ≤ mc) (hs : ks + N' ≤ ms) (d : decode t.2.1 pc = .ok (.anewarray index, 3))
    (k : ∀ q : Nat, WC X t mc ms A post (pc + 3) ls (.ref q :: st) (ws ++ [(q, .inl (X.2.2 5, N', .inr (.inr (.inr (.inr (fun _ => none))))))]) (kc + 1) (ks + N')) : WC X t mc ms A post pc ls (.int n :: st) ws kc ks := by
  intro p e s m args below meth c Cx H locs la hP hD hS hl
  have hK := Cx.2.2.2.2.2.2.2.1.1
  refine va_newq (D := X.2.1) (cl := classes) (tys := wc_tys X.2.2) Cx.1 Cx.2.1 Cx.2.2.2.2.1 (Cx.2.2.2.2.2.1 _ hw) Cx.2.2.2.2.2.2.2.1.2.1 hK hP hD hS Cx.2.2.2.2.2.2.2.2.1 hn hN hbytes hc hs d (fun q cA H1 hK1 hP1 hD1 hS1 => ?_)
  have e1 : cA = X.2.2 5 := ra_uniq (hK1.2 6 (cA, .object "TurnedStones$StateSet") rfl).2 (hK.2 5 _ rfl).2
  subst e1
  exact k q p e s m args below meth c Cx H1 locs la hP1 hD1 hS1 hl
theorem wc_astq {i : Int32} {n a v ci : Nat} {vs : List Value} {f : Nat → Option Nat} {ws' : va_W} (q0 qk : Nat) (ha : ws[q0]? = some (a, .inl (X.2.2 5, n, .inr (.inr (.inr (.inr f)))))) (hv : ws[qk]? = some (v, .inr (3, vs))) (hin : vp_in i n) (hw' : ws.set q0 (a, .inl (X.2.2 5, n, .inr (.inr (.inr (.inr (va_up f i.toNatClampNeg (some v))))))) = ws') (d : decode t.2.1 pc = .ok (.aastore, 1)) (k : WC X t mc ms A post (pc + 1) ls st ws' kc ks) : WC X t mc ms A post pc ls (.ref v :: .int i :: .ref a :: st) ws kc ks := by
  subst hw'
  intro p e s m args below meth c Cx H locs la hP hD hS hl
  exact va_astq (D := X.2.1) (cl := classes) (tys := wc_tys X.2.2) (r := (RX3, TX3, 1)) Cx.1 Cx.2.1 Cx.2.2.2.2.2.2.2.1.1 hP hD hS q0 5 qk 3 ha rfl hv rfl hin d (fun H1 locs1 hP1 hD1 hS1 => k p e s m args below meth c Cx H1 locs1 la hP1 hD1 hS1 hl)
theorem wc_iast {i x : Int32} {n a : Nat} {f : Nat → Int32} {ws' : va_W} (q0 : Nat) (ha : ws[q0]? = some (a, .inl (X.2.2 0, n, .inl f))) (hin : vp_in i n) (hw' : ws.set q0 (a, .inl (X.2.2 0, n, .inl (upd f i.toNatClampNeg x))) = ws') (d : decode t.2.1 pc = .ok (.iastore, 1)) (k : WC X t mc ms A post (pc + 1) ls st ws' kc ks) : WC X t mc ms A post pc ls (.int x :: .int i :: .ref a :: st) ws kc ks := by
  subst hw'
  intro p e s m args below meth c Cx H locs la hP hD hS hl
  exact va_iast (D := X.2.1) (cl := classes) (tys := wc_tys X.2.2) Cx.1 Cx.2.1 Cx.2.2.2.2.2.2.2.1.1 hP hD hS q0 0 ha rfl hin d (fun H1 locs1 hP1 hD1 hS1 => k p e s m args below meth c Cx H1 locs1 la hP1 hD1 hS1 hl)
theorem wc_alen {n a : Nat} {f : Nat → Int32} {v : Int32} (q0 : Nat) (ha : ws[q0]? = some (a, .inl (X.2.2 0, n, .inl f))) (hv : Int32.ofNat n = v) (d : decode t.2.1 pc = .ok (.arraylength, 1)) (k : WC X t mc ms A post (pc + 1) ls (.int v :: st) ws kc ks) : WC X t mc ms A post pc ls (.ref a :: st) ws kc ks :=
  fun p e s m args below meth c Cx H locs la hP hD hS hl => va_alen (D := X.2.1) (cl := classes) (tys := wc_tys X.2.2) Cx.1 Cx.2.1 Cx.2.2.2.2.2.2.2.1.1 hP q0 0 ha rfl hv d (k p e s m args below meth c Cx H locs la hP hD hS hl)
theorem wc_obj {a : Nat} (hi : wc_ob t pc) (hf : 1 ≤ t.2.2.2.2.1) (hlo : (st.map fun v => v.category).sum + 12 ≤ t.2.2.2.2.2) (k : WC X t mc ms A post (pc + 3) ls st ws kc ks) : WC X t mc ms A post pc ls (.ref a :: st) ws kc ks := by
  obtain ⟨index, hlink, hd⟩ := hi
  intro p e s m args below meth c Cx H locs la hP hD hS hl
  have hts := Cx.2.2.2.2.2.1
  refine W.objInit Cx.1 Cx.2.1 Cx.2.2.2.2.1 (hts _ hlink) (hts _ wc_obw.1) (hts _ wc_obw.2) rfl (by rw [Cx.2.2.2.1]; exact hl.1) rfl hd hf ?_ (k p e s m args below meth c Cx H locs la hP hD hS hl)
  show 2 * 0 + _ + 12 ≤ _
  rw [Nat.mul_zero, Nat.zero_add]
  exact hlo
theorem wc_ret (d : decode t.2.1 pc = .ok (.return_, 1)) (hc : kc = mc) (hs : ks = ms) (hp : post ws) : WC X t mc ms A post pc ls [] ws kc ks := by
  subst hc
  subst hs
  intro p e s m args below meth c Cx H locs la hP hD hS hl
  exact W.vret Cx.1 Cx.2.1 Cx.2.2.1 (fun tt ht hW => ⟨⟨ws, rfl, hp, by rw [ht]; exact hP, hD⟩, hS.F ht⟩) hS.2.2 d Cx.2.2.2.2.2.2.1
end WCR
