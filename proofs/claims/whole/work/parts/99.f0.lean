/-! ===== multianewarray: an array of rows of ints; written from the instruction's own meaning ===== -/
def ma_f (h i : Nat) : Nat → Value := fun j => if j < i then Value.ref (h + 1 + j) else Value.null
theorem ma_f_0 (h : Nat) : ma_f h 0 = fun _ => Value.null := by
  funext j; exact if_neg (Nat.not_lt_zero _)
theorem ma_f_up (h i : Nat) : updV (ma_f h i) i (.ref (h + 1 + i)) = ma_f h (i + 1) := by
  funext j
  unfold updV ma_f
  by_cases hj : j = i
  · subst hj; rw [if_pos rfl, if_pos (Nat.lt_succ_self _)]
  · rw [if_neg hj]
    by_cases h2 : j < i
    · rw [if_pos h2, if_pos (by omega)]
    · rw [if_neg h2, if_neg (by omega)]
/-- behind i rows: the heap -/
def ma_I (H0 : Heap) (cA cI : ClassId) (N M i : Nat) (H : Heap) : Prop :=
  H.size = H0.size + 1 + i ∧ (∀ q : Nat, q < H0.size → H[q]? = H0[q]?) ∧ (∀ j : Nat, j < i → H[H0.size + 1 + j]? = some (arrV cI M (fun _ => .int 0))) ∧ H[H0.size]? = some (arrV cA N (ma_f H0.size i))
theorem ma_I_up {H0 H : Heap} {cA cI : ClassId} {N M i : Nat} (h : ma_I H0 cA cI N M i H) : ma_I H0 cA cI N M (i + 1) ((H.push (arrV cI M (fun _ => .int 0))).setIfInBounds H0.size (arrV cA N (ma_f H0.size (i + 1)))) := by
  obtain ⟨h1, h2, h3, h4⟩ := h
  refine ⟨?_, fun q hq => ?_, fun j hj => ?_, ?_⟩
  · rw [Array.size_setIfInBounds, Array.size_push, h1]; omega
  · rw [Array.getElem?_setIfInBounds, if_neg (by omega), Array.getElem?_push, if_neg (by omega)]
    exact h2 q hq
  · rw [Array.getElem?_setIfInBounds, if_neg (by omega), Array.getElem?_push]
    by_cases hz : j = i
    · subst hz; rw [if_pos (by omega)]
    · rw [if_neg (by omega)]; exact h3 j (by omega)
  · rw [Array.getElem?_setIfInBounds, if_pos rfl, if_pos (by rw [Array.size_push]; omega)]
section MAN
variable {p : Program} {l : Launch} {e : Env} {R : Room} {s : State} {m : MethodId} {args : Array Value} {below : List Frame} {meth : Method} {c : Code} {locs : List Loc} {cells slots : Nat}
theorem ma_array {E : CtlPost} {d : Bool} {acts : List Action} {S : State} {cN comp : ClassId} {kN : Class} {ty : FieldType} {len : Nat} {v : Value} {Q : Addr → Pre} (hk : S.vm.classes[cN]? = some kN) (hkind : kN.kind = .array comp ty) (hb : componentBytes ty = 4) (hfit : fits ty v = true) (hlim : len ≤ e.platform.arrayLengthLimit) (hheap : len * 4 ≤ e.platform.maxHeapBytes) (h1 : S.heap.size < e.platform.maxCells) (h2 : S.slotsUsed + len ≤ e.platform.maxSlots)
    (hQ : ∀ acts' : List Action, Q S.heap.size d acts' (S.pushCell (arrV cN len (fun _ => v)))) : wp (Jvm.newArray cN len v) Q E e d acts S := by
  have a1 : ¬ len > e.platform.arrayLengthLimit := by omega
  have a2 : ¬ len * componentBytes ty > e.platform.maxHeapBytes := by rw [hb]; omega
  have a3 : ¬ len > e.platform.maxSlots := by omega
  have hf : ∀ (i : Nat) (w : Value), (Array.replicate len v)[i]? = some w → S.fitsSlot cN .none i w = true := by
    intro i w hw
    simp only [Array.getElem?_replicate] at hw
    split at hw
    · cases hw; simp [State.fitsSlot, State.slotType?, hk, hkind, hfit]
    · cases hw
  have hq := hQ (allocActs (Array.replicate len v) S.heap.size acts)
  rw [← arrV_new] at hq
  simp only [Jvm.newArray, Jvm.arrayFits, wp_bind', _root_.Jvm.W.ask, _root_.Jvm.W.ite, _root_.Jvm.W.theClass, wp_pure', a1, a2, a3, if_false, hk, hkind, Option.some.injEq, exists_eq_left', _root_.Jvm.W.alloc, _root_.Jvm.W.stop, Array.size_replicate]
  exact ⟨h1, h2, hf, hq⟩
theorem ma_row {E : CtlPost} {d : Bool} {acts : List Action} {S : State} {cI ccI : ClassId} {kI : Class} {k : Int32} {M : Nat} {Q : Addr → Pre} (hk : S.vm.classes[cI]? = some kI) (hkind : kI.kind = .array ccI .int) (hk0 : ¬ k < 0) (hM : k.toNatClampNeg = M) (hlim : M ≤ e.platform.arrayLengthLimit) (hheap : M * 4 ≤ e.platform.maxHeapBytes) (h1 : S.heap.size < e.platform.maxCells) (h2 : S.slotsUsed + M ≤ e.platform.maxSlots)
    (hQ : ∀ acts' : List Action, Q S.heap.size d acts' (S.pushCell (arrV cI M (fun _ => .int 0)))) : wp (multianewarray.make cI [k]) Q E e d acts S := by
  subst hM
  unfold multianewarray.make
  simp only [wp_bind', _root_.Jvm.W.ite, hk0, if_false, wp_pure', _root_.Jvm.W.theClass, hk, Option.some.injEq, exists_eq_left', hkind]
  exact ma_array hk hkind rfl rfl hlim hheap h1 h2 hQ
theorem ma_loop {cA cI ccI : ClassId} {kA kI : Class} {k : Int32} {N M : Nat} {g : JFrame} {H0 : Heap} (hkA : s.vm.classes[cA]? = some kA) (hkindA : kA.kind = .array cI (.array .int)) (hkI : s.vm.classes[cI]? = some kI) (hkindI : kI.kind = .array ccI .int) (hk0 : ¬ k < 0) (hM : k.toNatClampNeg = M) (hM2 : M * 4 ≤ 536870912) (hs0 : s.heap.size ≤ H0.size) (hc : cells + (1 + N) ≤ R.cells) (hsl : slots + (N + N * M) ≤ R.slots) :
    ∀ (n i : Nat), i + n = N → ∀ T : State, ma_I H0 cA cI N M i T.heap → Stand p l e R s m args below meth c T locs (cells + (1 + i)) (slots + (N + i * M)) →
      ∃ T' : State, ma_I H0 cA cI N M N T'.heap ∧ Stand p l e R s m args below meth c T' locs (cells + (1 + N)) (slots + (N + N * M)) ∧
        ∀ (E : CtlPost) (f : Nat → PUnit → Sem (ForInStep PUnit)), (∀ (j : Nat) (u : PUnit) (Q : ForInStep PUnit → Pre) (d : Bool) (acts : List Action) (S : State), wp (f j u) Q E e d acts S = wp (multianewarray.make cI [k]) (fun a => wp (Jvm.writeLoc H0.size j (.ref a)) (fun _ => Q (ForInStep.yield PUnit.unit)) E e) E e d acts S) →
          ∀ (d : Bool) (acts : List Action) (Q : PUnit → Pre), (∀ (d' : Bool) (acts' : List Action), Q PUnit.unit d' acts' (T'.setTop g)) → wp (forIn (List.range' i n 1) PUnit.unit f) Q E e d acts (T.setTop g) := by
  intro n
  induction n with
  | zero =>
    intro i hi T hI X
    have hi : i = N := hi
    subst hi
    exact ⟨T, hI, X, fun E f hf d acts Q hQ => by
      show wp (forIn ([] : List Nat) PUnit.unit f) Q E e d acts (T.setTop g)
      rw [List.forIn_nil, wp_pure']
      exact hQ d acts⟩
  | succ n ih =>
    intro i hi T hI X
    have hal := X.warmed.alike
    obtain ⟨kA', hkA', heA⟩ := hal.2.2 _ _ hkA
    obtain ⟨kI', hkI', heI⟩ := hal.2.2 _ _ hkI
    have hkindA' : kA'.kind = .array cI (.array .int) := by rw [heA]; exact hkindA
    have hkindI' : kI'.kind = .array ccI .int := by rw [heI]; exact hkindI
    have hz := hI.1
    have hm : (i + 1) * M ≤ N * M := Nat.mul_le_mul_right M (by omega)
    have hm1 : (i + 1) * M = i * M + M := Nat.succ_mul i M
    obtain ⟨q1, q2⟩ := X.roomAbove (a := 1) (b := M) (by omega) (by omega)
    have hlim : M ≤ e.platform.arrayLengthLimit := by rw [Launch.admits_arrayLengthLimit X.admits]; omega
    have hheap : M * 4 ≤ e.platform.maxHeapBytes := by rw [Launch.admits_maxHeapBytes X.admits]; omega
    have X1 := X.pushed (arrV cI M (fun _ => .int 0))
    rw [arrV_size] at X1
    have hoc : (T.pushCell (arrV cI M (fun _ => .int 0))).heap[H0.size]? = some (arrV cA N (ma_f H0.size i)) := by
      show (T.heap.push _)[H0.size]? = _
      rw [Array.getElem?_push, if_neg (by omega)]
      exact hI.2.2.2
    have X2 := X1.stored hoc i (.ref T.heap.size)
    have X3 := Stand.forget (extra := [⟨H0.size, i⟩]) X2 (fun y hy => by
      rcases List.mem_cons.mp hy with rfl | h
      · exact hs0
      · cases h)
    rw [arrV_store, hz, ma_f_up, show slots + (N + i * M) + M = slots + (N + (i + 1) * M) by omega] at X3
    obtain ⟨T', a1, a2, a3⟩ := ih (i + 1) (by omega) ((T.pushCell (arrV cI M (fun _ => .int 0))).setCell H0.size (arrV cA N (ma_f H0.size (i + 1)))) (ma_I_up hI) X3
    refine ⟨T', a1, a2, fun E f hf d acts Q hQ => ?_⟩
    rw [List.range'_succ, List.forIn_cons, wp_bind', hf]
    refine ma_row (S := T.setTop g) (kI := kI') hkI' hkindI' hk0 hM hlim hheap (by show T.heap.size < _; omega) (by show T.slotsUsed + M ≤ _; exact q2) (fun acts' => ?_)
    rw [_root_.Jvm.W.writeLoc]
    refine ⟨_, hoc, (fun q => by cases q), by rw [arrV_size]; omega, ?_, ?_⟩
    · show State.fitsSlot T cA .none i (.ref T.heap.size) = true
      simp [State.fitsSlot, State.slotType?, hkA', hkindA']
      rfl
    · rw [arrV_store, show (T.setTop g).heap.size = H0.size + 1 + i from hz, ma_f_up]
      exact a3 E f hf true _ Q hQ
theorem ma_cold {Q : Unit → Pre} {E : CtlPost} {d : Bool} {acts : List Action} {S : State} {f : JFrame} {index dims : Nat} {cA : ClassId} {vm' : Vm} (hs : S.topJava?.isSome) (hg : (Jvm.resolveClass f.method.cls index).Gives e.toSetting S.vm (.ok cA) vm') (hr : vm'.classReady f.method.cls index cA)
    (hsz : vm'.classes.size ≤ S.vm.classes.size) : wp (multianewarray.sem index dims) Q E e d acts (S.setTop f) ↔ wp (multianewarray.sem index dims) Q E e d acts ((S.setVm vm').setTop f) := by
  simp only [multianewarray.sem, wp_bind']
  exact _root_.Jvm.W.resolveClassAt_transfer (s := S.setTop f) (State.method?_setTop f hs) hg hr hsz
theorem ma_sem {T : State} (X : Stand p l e R s m args below meth c T locs cells slots) {g : JFrame} {index : Nat} {n k : Int32} {rest : List Value} (hstack : g.stack = .int k :: .int n :: rest) {cA cI ccI : ClassId} {kA kI : Class} {N M : Nat} (hr : T.vm.classReady g.method.cls index cA) (hkA : s.vm.classes[cA]? = some kA) (hkindA : kA.kind = .array cI (.array .int)) (hkI : s.vm.classes[cI]? = some kI) (hkindI : kI.kind = .array ccI .int)
    (hn0 : ¬ n < 0) (hn1 : (n == 0) = false) (hN : n.toNatClampNeg = N) (hN2 : N * 4 ≤ 536870912) (hk0 : ¬ k < 0) (hM : k.toNatClampNeg = M) (hM2 : M * 4 ≤ 536870912) (hc : cells + (1 + N) ≤ R.cells) (hsl : slots + (N + N * M) ≤ R.slots) :
    ∃ T' : State, ma_I T.heap cA cI N M N T'.heap ∧ Stand p l e R s m args below meth c T' locs (cells + (1 + N)) (slots + (N + N * M)) ∧
      ∀ (E : CtlPost) (d : Bool) (acts : List Action) (Q : Unit → Pre), (∀ (d' : Bool) (acts' : List Action), Q () d' acts' (T'.setTop { g with stack := .ref T.heap.size :: rest })) → wp (multianewarray.sem index 2) Q E e d acts (T.setTop g) := by
  have hs := X.here.top
  have hal := X.warmed.alike
  obtain ⟨kA', hkA', heA⟩ := hal.2.2 _ _ hkA
  have hkindA' : kA'.kind = .array cI (.array .int) := by rw [heA]; exact hkindA
  obtain ⟨q1, q2⟩ := X.roomAbove (a := 1) (b := N) (by omega) (by omega)
  have hlim : N ≤ e.platform.arrayLengthLimit := by rw [Launch.admits_arrayLengthLimit X.admits]; omega
  have hheap : N * 4 ≤ e.platform.maxHeapBytes := by rw [Launch.admits_maxHeapBytes X.admits]; omega
  have X1 := X.pushed (arrV cA N (fun _ => .null))
  rw [arrV_size, show slots + N = slots + (N + 0 * M) by omega] at X1
  have hI0 : ma_I T.heap cA cI N M 0 (T.pushCell (arrV cA N (fun _ => .null))).heap := by
    refine ⟨Array.size_push _, fun q hq => ?_, fun j hj => absurd hj (Nat.not_lt_zero _), ?_⟩
    · show (T.heap.push _)[q]? = _
      rw [Array.getElem?_push, if_neg (by omega)]
    · show (T.heap.push _)[T.heap.size]? = _
      rw [Array.getElem?_push, if_pos rfl, ma_f_0]
  obtain ⟨T', a1, a2, a3⟩ := ma_loop (g := { g with stack := rest }) hkA hkindA hkI hkindI hk0 hM hM2 X.heapGrown hc hsl N 0 (Nat.zero_add N) _ hI0 X1
  refine ⟨T', a1, a2, fun E d acts Q hQ => ?_⟩
  subst hN
  simp only [multianewarray.sem, wp_bind', _root_.Jvm.W.resolveClassAt_ready (State.method?_setTop g hs) hr]
  refine (popN_top (args := [.int n, .int k]) (rest := rest) hs hstack).mpr ?_
  simp only [List.mapM_cons, List.mapM_nil, wp_bind', wp_pure']
  unfold multianewarray.make
  simp only [wp_bind', _root_.Jvm.W.ite, hn0, if_false, wp_pure', _root_.Jvm.W.theClass, State.vm_setTop, hkA', Option.some.injEq, exists_eq_left', hkindA']
  refine ma_array (S := T.setTop { g with stack := rest }) (ty := .array .int) hkA' hkindA' rfl rfl hlim hheap (by show T.heap.size < _; omega) (by show T.slotsUsed + _ ≤ _; exact q2) (fun acts' => ?_)
  simp only [hn1, Bool.false_eq_true, if_false, wp_bind', _root_.Jvm.W.ite, wp_pure', Std.Legacy.Range.forIn_eq_forIn_range', Std.Legacy.Range.size, Nat.sub_zero, Nat.add_sub_cancel, Nat.div_one]
  refine a3 E _ (fun j u Q d acts S => ?_) _ _ _ (fun d' acts'' => ?_)
  · simp only [wp_bind', wp_pure']
    rfl
  · refine ⟨_, State.topJava?_setTop' _ a2.here.top, ?_⟩
    rw [State.setTop_setTop]
    exact hQ _ _
theorem ma_W {Q : State → Prop} {H : Heap} {cc : ByteArray} (hexec : p.tables.exec = Jvm.exec) (hb : c.code = cc) {own : String} {index : Nat} (hown : s.vm.findClass own = some m.cls) (hclink : (Cond.classLink own index "[[I").before args s = true) {cA cI ccI : ClassId} {kA kI : Class} (hfA : s.vm.findClass "[[I" = some cA) (hkA : s.vm.classes[cA]? = some kA) (hkindA : kA.kind = .array cI (.array .int)) (hkI : s.vm.classes[cI]? = some kI) (hkindI : kI.kind = .array ccI .int)
    {n k : Int32} {N M : Nat} (hn0 : ¬ n < 0) (hn1 : (n == 0) = false) (hN : n.toNatClampNeg = N) (hN2 : N * 4 ≤ 536870912) (hk0 : ¬ k < 0) (hM : k.toNatClampNeg = M) (hM2 : M * 4 ≤ 536870912) (hc : cells + (1 + N) ≤ R.cells) (hsl : slots + (N + N * M) ≤ R.slots) {pc : Nat} {ls : Array Slot} {rest : List Value} (hdg : decode cc pc = .ok (.multianewarray index 2, 4))
    (kk : ∀ H' : Heap, ma_I H cA cI N M N H' → W p l e R s m args below meth c H' locs (cells + (1 + N)) (slots + (N + N * M)) Q (F0 m (pc + 4) ls (.ref H.size :: rest))) : W p l e R s m args below meth c H locs cells slots Q (F0 m pc ls (.int k :: .int n :: rest)) := by
  intro T hT X
  subst hT
  subst hb
  have hpl : e.platform.magicAccessors = ({} : Platform).magicAccessors := by rw [X.admits.platform]
  obtain ⟨cc', hfcc, hcl⟩ := Cond.classLink_spec hown hclink e.platform hpl
  have hce : cc' = cA := Option.some.inj (hfcc.symm.trans hfA)
  subst hce
  obtain ⟨hg₁, hwarm₁, hready₁⟩ := State.classEntry (e := e) X.warmed hcl
  have hsz : (T.vm.noted m.cls index (.cls cc')).classes.size ≤ T.vm.classes.size := by rw [Vm.size_noted]; exact Nat.le_refl _
  generalize T.vm.noted m.cls index (.cls cc') = vm₁ at hg₁ hwarm₁ hready₁ hsz
  obtain ⟨T', a1, a2, a3⟩ := ma_sem (X.noted hwarm₁) (g := F0 m pc ls (.int k :: .int n :: rest)) (index := index) (n := n) (k := k) (rest := rest) rfl hready₁ hkA hkindA hkI hkindI hn0 hn1 hN hN2 hk0 hM hM2 hc hsl
  obtain ⟨t, b1, b2⟩ := kk T'.heap a1 T' rfl a2
  refine ⟨t, ?_, b2⟩
  refine Steps.instr (c := c) (f := F0 m pc ls (.int k :: .int n :: rest)) (by simpa using X.here) ?_
  rw [show decode c.code (F0 m pc ls (.int k :: .int n :: rest)).pc = .ok (.multianewarray index 2, 4) from hdg]
  show wpRun (p.tables.exec (.multianewarray index 2)) _ _ e _
  rw [hexec]
  show wp (multianewarray.sem index 2) _ _ e false [] _
  refine (ma_cold (S := T) (f := F0 m pc ls (.int k :: .int n :: rest)) X.here.top hg₁ hready₁ hsz).mpr (a3 _ _ _ _ (fun d' acts' => ?_))
  intro acts
  simpa [jvm, a2.here.top] using b1
end MAN
