theorem wm_cls {ci : Nat} {C : String} {T : u_T} {N : Nat} (h : classes[ci]? = some (C, T, N)) : (∀ w ∈ u_ws C T N, w ∈ lw_gd) ∧ (∀ a, a < N → ∀ b, b < N → a ≠ b → (T a).2.1 ≠ (T b).2.1) ∧ ∃ ty0 : Nat → FieldType, ∀ k, k < N → parseFieldDescriptor (T k).2.2.1 = some (ty0 k) := by
  match ci, h with
  | 0, h => cases h; exact ⟨iX0, nmX0, tyX0, tyX0_ok⟩
  | 1, h => cases h; exact ⟨iX1, nmX1, tyX1, tyX1_ok⟩
  | 2, h => cases h; exact ⟨iX2, nmX2, tyX2, tyX2_ok⟩
  | 3, h => cases h; exact ⟨iX3, nmX3, tyX3, tyX3_ok⟩
  | 4, h => cases h; exact ⟨iX4, nmX4, tyX4, tyX4_ok⟩
  | 5, h => cases h; exact ⟨iX5, nmX5, tyX5, tyX5_ok⟩
  | 6, h => cases h; exact ⟨iX6, nmX6, tyX6, tyX6_ok⟩
  | 7, h => cases h; exact ⟨iX7, nmX7, tyX7, tyX7_ok⟩
  | 8, h => cases h; exact ⟨iX8, nmX8, tyX8, tyX8_ok⟩
  | 9, h => cases h; exact ⟨iX9, nmX9, tyX9, tyX9_ok⟩
  | 10, h => cases h; exact ⟨iX10, nmX10, tyX10, tyX10_ok⟩
  | k + 11, h => simp [classes] at h
/-- a getfield at pc of method t that asks field j of an object of class ci -/
def wm_gf (t : wm_T) (pc ci j : Nat) : Prop := ∃ (C : String) (T : u_T) (N index : Nat), classes[ci]? = some (C, T, N) ∧ j < N ∧ Cond.fieldLink t.1.cls index (T j).1 (T j).2.1 (T j).2.2.1 ∈ lw_gd ∧ decode t.2.1 pc = .ok (.getfield index, 3)
def wm_pf (t : wm_T) (pc ci j : Nat) (ty : FieldType) : Prop := ∃ (C : String) (T : u_T) (N index : Nat), classes[ci]? = some (C, T, N) ∧ j < N ∧ Cond.fieldLink t.1.cls index (T j).1 (T j).2.1 (T j).2.2.1 ∈ lw_gd ∧ decode t.2.1 pc = .ok (.putfield index, 3) ∧ (T j).2.2.2 = false ∧ parseFieldDescriptor (T j).2.2.1 = some ty
section WMH
variable {G : wm_G} {t : wm_T} {post : Option Value → wm_M → Prop} {pc : Nat} {ls : List (Nat × Value)} {st : List Value} {M : wm_M}
theorem wa_getv {k ci j : Nat} {fts : List (Nat × Nat)} {ft : Nat × Nat} (hi : wm_gf t pc ci j) (hs : wm_sh k = .inl (ci, fts)) (hf : fts[j]? = some ft) (kk : WA G t post (pc + 3) ls (wm_fv G M k j ft :: st) M) : WA G t post pc ls (wm_r G k :: st) M := by
  obtain ⟨C, T, N, index, hc, hj, hlink, hd⟩ := hi
  intro p e s m args below meth c Cx H locs la hP hS hl
  have hw := (wm_cls hc).1
  have hts := Cx.2.2.2.2.2.1
  exact va_get (D := G.2.1) (cl := classes) (tys := wm_tys G) (ws := wm_ws G M) (ci := ci) (fs := wm_fs G M k 0 fts) Cx.1 Cx.2.1 hts hw Cx.2.2.2.2.1 Cx.2.2.2.2.2.2.2.1 hP k (by rw [wm_at (wm_ltO hs hf), wm_obj hs]) hc j hj (hts _ hlink) (fun _ h9 => h9) (v := wm_fv G M k j ft) (by rw [wm_fs_get, hf, Nat.zero_add]; rfl) hd (kk p e s m args below meth c Cx H locs la hP hS hl)
theorem wa_geti {k ci j z : Nat} {fts : List (Nat × Nat)} (hi : wm_gf t pc ci j) (hs : wm_sh k = .inl (ci, fts)) (hf : fts[j]? = some (0, z)) (kk : WA G t post (pc + 3) ls (.int (M.1 k j) :: st) M) : WA G t post pc ls (wm_r G k :: st) M := wa_getv hi hs hf kk
theorem wa_getl {k ci j z : Nat} {fts : List (Nat × Nat)} (hi : wm_gf t pc ci j) (hs : wm_sh k = .inl (ci, fts)) (hf : fts[j]? = some (1, z)) (kk : WA G t post (pc + 3) ls (.long (M.2.1 k j) :: st) M) : WA G t post pc ls (wm_r G k :: st) M := wa_getv hi hs hf kk
theorem wa_getr {k ci j k2 : Nat} {fts : List (Nat × Nat)} (hi : wm_gf t pc ci j) (hs : wm_sh k = .inl (ci, fts)) (hf : fts[j]? = some (2, k2)) (kk : WA G t post (pc + 3) ls (wm_r G k2 :: st) M) : WA G t post pc ls (wm_r G k :: st) M := wa_getv hi hs hf kk
theorem wa_getd {k ci j d : Nat} {fts : List (Nat × Nat)} (hi : wm_gf t pc ci j) (hs : wm_sh k = .inl (ci, fts)) (hf : fts[j]? = some (3, d)) (kk : WA G t post (pc + 3) ls (wm_r G (wm_dt d (M.2.2 d)) :: st) M) : WA G t post pc ls (wm_r G k :: st) M := wa_getv hi hs hf kk
theorem wa_putv {k ci j : Nat} {fts : List (Nat × Nat)} {ft : Nat × Nat} {ty : FieldType} {v : Value} {M' : wm_M} (hi : wm_pf t pc ci j ty) (hs : wm_sh k = .inl (ci, fts)) (hf : fts[j]? = some ft) (hn : narrow ty v = v) (hfit : fits ty v = true) (hv : wm_fv G M' k j ft = v) (ho : ∀ (i' : Nat) (t' : Nat × Nat), i' ≠ j → fts[i']? = some t' → wm_fv G M' k i' t' = wm_fv G M k i' t') (hc' : ∀ k', k' ≠ k → wm_cell G M' k' = wm_cell G M k') (kk : WA G t post (pc + 3) ls st M') : WA G t post pc ls (v :: wm_r G k :: st) M := by
  obtain ⟨C, T, N, index, hc, hj, hlink, hd, hfin, hty⟩ := hi
  intro p e s m args below meth c Cx H locs la hP hS hl
  obtain ⟨hw, hnm, ty0, hty0⟩ := wm_cls hc
  have hts := Cx.2.2.2.2.2.1
  have hF := Cx.2.2.2.2.2.2.2
  have hlt := wm_ltO hs hf
  refine va_put (D := G.2.1) (cl := classes) (tys := wm_tys G) (ws := wm_ws G M) (ci := ci) (fs := wm_fs G M k 0 fts) Cx.1 Cx.2.1 hts hw ty0 hty0 hnm Cx.2.2.2.2.1 hF.1 hP (wm_D hF M) hS k (by rw [wm_at hlt, wm_obj hs]) hc j hj (hts _ hlink) (fun _ h9 => h9) hfin hty hn hfit (by rw [wm_fs_len]; exact (List.getElem?_eq_some_iff.mp hf).1) hd (fun H1 locs1 hP1 hD1 hS1 => ?_)
  refine kk p e s m args below meth c Cx H1 locs1 la ?_ hS1 hl
  rw [← wm_set hlt (e := .inr (ci, (wm_fs G M k 0 fts).set j v)) (by rw [wm_obj hs, wm_fs_set hf hv ho]) hc']
  exact hP1
theorem wm_fv_Ij {k j j' : Nat} {x : Int32} {t' : Nat × Nat} (h : j' ≠ j) : wm_fv G (wI M k j x) k j' t' = wm_fv G M k j' t' := by
  unfold wm_fv wI; split <;> simp [wIa_s, wIa_2, upd, h]
theorem wm_fv_Jj {k j j' : Nat} {x : Int64} {t' : Nat × Nat} (h : j' ≠ j) : wm_fv G (wJ M k j x) k j' t' = wm_fv G M k j' t' := by
  unfold wm_fv wJ; split <;> simp [wJa_s, wJa_1, wJa_22, vp_updL, h]
theorem wa_puti {k ci j z : Nat} {fts : List (Nat × Nat)} {x : Int32} (hi : wm_pf t pc ci j .int) (hs : wm_sh k = .inl (ci, fts)) (hf : fts[j]? = some (0, z)) (kk : WA G t post (pc + 3) ls st (wI M k j x)) : WA G t post pc ls (.int x :: wm_r G k :: st) M :=
  wa_putv hi hs hf rfl rfl (by show Value.int ((wI M k j x).1 k j) = _; simp [wI, wIa_s, upd]) (fun i' t' h _ => wm_fv_Ij h) (fun k' h => wm_cell_I h) kk
theorem wa_putl {k ci j z : Nat} {fts : List (Nat × Nat)} {x : Int64} (hi : wm_pf t pc ci j .long) (hs : wm_sh k = .inl (ci, fts)) (hf : fts[j]? = some (1, z)) (kk : WA G t post (pc + 3) ls st (wJ M k j x)) : WA G t post pc ls (.long x :: wm_r G k :: st) M :=
  wa_putv hi hs hf rfl rfl (by show Value.long ((wJ M k j x).2.1 k j) = _; simp [wJ, wJa_s, vp_updL]) (fun i' t' h _ => wm_fv_Jj h) (fun k' h => wm_cell_J h) kk
theorem wm_fv_D {k j d : Nat} {b : Bool} {t' : Nat × Nat} (h : ¬ (t'.1 ≥ 3 ∧ t'.2 = d)) : wm_fv G (wD M d b) k j t' = wm_fv G M k j t' := by
  obtain ⟨a, q⟩ := t'
  unfold wm_fv wD
  match a with
  | 0 => rfl
  | 1 => rfl
  | 2 => rfl
  | a + 3 =>
    have : ¬ q = d := fun e => h ⟨Nat.le_add_left 3 a, e⟩
    simp [this]
theorem wm_t3 {k ci i : Nat} {fts : List (Nat × Nat)} {t' : Nat × Nat} (hs : wm_sh k = .inl (ci, fts)) (ht : fts[i]? = some t') (h : t'.1 ≥ 3) : t'.1 = 3 := by
  have h1 := wm_len_all k (wm_ltO hs ht)
  rw [hs] at h1
  simp only [Bool.and_eq_true, List.all_eq_true, decide_eq_true_eq] at h1
  have := h1.2 t' (List.mem_of_getElem? ht)
  omega
theorem wm_dl_inj {d d' : Nat} (h : d < 4) (h' : d' < 4) (e : wm_dl d = wm_dl d') : d = d' := by
  have : ∀ a, a < 4 → ∀ b, b < 4 → wm_dl a = wm_dl b → a = b := by decide +kernel
  exact this d h d' h' e
theorem wa_putd {k ci j d : Nat} {fts : List (Nat × Nat)} {ty : FieldType} (b : Bool) {k2 : Nat} (hi : wm_pf t pc ci j ty) (hs : wm_sh k = .inl (ci, fts)) (hf : fts[j]? = some (3, d)) (hk : k2 = wm_dt d b) (hty : ∃ q, ty = .array q) (kk : WA G t post (pc + 3) ls st (wD M d b)) : WA G t post pc ls (wm_r G k2 :: wm_r G k :: st) M := by
  subst hk
  obtain ⟨q, rfl⟩ := hty
  have h0 := wm_dyn hs hf
  refine wa_putv hi hs hf rfl rfl (by simp [wm_fv, wD]) (fun i' t' h ht' => ?_) (fun k' h => ?_) kk
  · refine wm_fv_D (fun hh => ?_)
    have h3 := wm_t3 hs ht' hh.1
    have h1 := wm_dyn hs (d := t'.2) (by rw [ht', ← h3])
    have := h1.2.trans (by rw [hh.2, ← h0.2] : wm_dl t'.2 = (k, j))
    cases this; exact h rfl
  · unfold wm_cell
    cases hq : wm_sh k' with
    | inr a => simp only; unfold wm_ar; split <;> rfl
    | inl o =>
      obtain ⟨ci', fts'⟩ := o
      simp only
      refine congrArg (fun z => (Sum.inr (ci', z) : va_E)) ?_
      apply List.ext_getElem?
      intro i
      rw [wm_fs_get, wm_fs_get]
      cases ht : fts'[i]? with
      | none => rfl
      | some t' =>
        simp only [Option.map_some]
        refine congrArg some (wm_fv_D (fun hh => ?_))
        have h3 := wm_t3 hq ht hh.1
        have h1 := wm_dyn hq (d := t'.2) (j := i) (by rw [ht, ← h3])
        have := h1.2.trans (by rw [hh.2, ← h0.2] : wm_dl t'.2 = (k, j))
        cases this; exact h rfl

theorem wa_iald {k n : Nat} {i : Int32} (d : decode t.2.1 pc = .ok (.iaload, 1)) (hs : wm_sh k = .inr (0, n, 0, 0)) (hin : vp_in i n) (kk : WA G t post (pc + 1) ls (.int (M.1 k i.toNatClampNeg) :: st) M) : WA G t post pc ls (.int i :: wm_r G k :: st) M := by
  intro p e s m args below meth c Cx H locs la hP hS hl
  exact va_iald (D := G.2.1) (cl := classes) (tys := wm_tys G) (ws := wm_ws G M) Cx.1 Cx.2.1 Cx.2.2.2.2.2.2.2.1 hP k 0 (by rw [wm_at (wm_ltA hs), wm_arr hs]; rfl) rfl hin d (kk p e s m args below meth c Cx H locs la hP hS hl)
theorem wa_bald {k n : Nat} {i : Int32} (d : decode t.2.1 pc = .ok (.baload, 1)) (hs : wm_sh k = .inr (2, n, 0, 0)) (hin : vp_in i n) (kk : WA G t post (pc + 1) ls (.int (M.1 k i.toNatClampNeg) :: st) M) : WA G t post pc ls (.int i :: wm_r G k :: st) M := by
  intro p e s m args below meth c Cx H locs la hP hS hl
  exact va_bald (D := G.2.1) (cl := classes) (tys := wm_tys G) (ws := wm_ws G M) Cx.1 Cx.2.1 Cx.2.2.2.2.2.2.2.1 hP k 2 (by rw [wm_at (wm_ltA hs), wm_arr hs]; rfl) rfl hin d (kk p e s m args below meth c Cx H locs la hP hS hl)
theorem wa_zald {k n : Nat} {i : Int32} (d : decode t.2.1 pc = .ok (.baload, 1)) (hs : wm_sh k = .inr (3, n, 0, 0)) (hin : vp_in i n) (kk : WA G t post (pc + 1) ls (.int (M.1 k i.toNatClampNeg) :: st) M) : WA G t post pc ls (.int i :: wm_r G k :: st) M := by
  intro p e s m args below meth c Cx H locs la hP hS hl
  exact va_zald (D := G.2.1) (cl := classes) (tys := wm_tys G) (ws := wm_ws G M) Cx.1 Cx.2.1 Cx.2.2.2.2.2.2.2.1 hP k 3 (by rw [wm_at (wm_ltA hs), wm_arr hs]; rfl) rfl hin d (kk p e s m args below meth c Cx H locs la hP hS hl)
theorem wa_lald {k n : Nat} {i : Int32} (d : decode t.2.1 pc = .ok (.laload, 1)) (hs : wm_sh k = .inr (1, n, 0, 0)) (hin : vp_in i n) (kk : WA G t post (pc + 1) ls (.long (M.2.1 k i.toNatClampNeg) :: st) M) : WA G t post pc ls (.int i :: wm_r G k :: st) M := by
  intro p e s m args below meth c Cx H locs la hP hS hl
  exact va_lald (D := G.2.1) (cl := classes) (tys := wm_tys G) (ws := wm_ws G M) Cx.1 Cx.2.1 Cx.2.2.2.2.2.2.2.1 hP k 1 (by rw [wm_at (wm_ltA hs), wm_arr hs]; rfl) rfl hin d (kk p e s m args below meth c Cx H locs la hP hS hl)
theorem wa_aald {k n b z kd : Nat} {i : Int32} (hkd : kd = 4 ∨ kd = 5) (d : decode t.2.1 pc = .ok (.aaload, 1)) (hs : wm_sh k = .inr (kd, n, b, z)) (hin : vp_in i n) (kk : WA G t post (pc + 1) ls (wm_r G (b + z * i.toNatClampNeg) :: st) M) : WA G t post pc ls (.int i :: wm_r G k :: st) M := by
  intro p e s m args below meth c Cx H locs la hP hS hl
  have hlt : i.toNatClampNeg < n := Nat.not_le.mp fun q => hin (Or.inr q)
  have hK := Cx.2.2.2.2.2.2.2.1
  have kk' := kk p e s m args below meth c Cx H locs la hP hS hl
  have hc : wm_cell G M k = .inl (G.2.2.2.1 kd, n, .inr (.inr (.inr (.inr (fun j => if j < n then some (wm_a G (b + z * j)) else none))))) := by
    rw [wm_arr hs]; rcases hkd with rfl | rfl <;> rfl
  have hat : H[wm_a G k]? = some (arrV (G.2.2.2.1 kd) n (fun j => va_rf (if j < n then some (wm_a G (b + z * j)) else none))) := by
    have h1 := hP k _ (wm_at (wm_ltA hs))
    rw [hc] at h1
    exact h1
  rcases hkd with rfl | rfl
  · exact W.aald (v := wm_r G (b + z * i.toNatClampNeg)) (ty := .array .int) Cx.1 Cx.2.1 hat ((hK.2 4 _ rfl).1 n _) rfl (fun q => by cases q) (by show ¬ (i < 0 ∨ (arrV _ _ _).slots.size ≤ _); rw [arrV_size]; exact hin) (by show (arrV _ _ _).slots[_]? = _; rw [arrV_read _ _ hlt]; simp [hlt, va_rf, wm_r]) rfl rfl d kk'
  · exact W.aald (v := wm_r G (b + z * i.toNatClampNeg)) (ty := .object "TurnedStones$StateSet") Cx.1 Cx.2.1 hat ((hK.2 5 _ rfl).1 n _) rfl (fun q => by cases q) (by show ¬ (i < 0 ∨ (arrV _ _ _).slots.size ≤ _); rw [arrV_size]; exact hin) (by show (arrV _ _ _).slots[_]? = _; rw [arrV_read _ _ hlt]; simp [hlt, va_rf, wm_r]) rfl rfl d kk'
theorem wa_iast {k n : Nat} {i : Int32} {x : Int32} (d : decode t.2.1 pc = .ok (.iastore, 1)) (hs : wm_sh k = .inr (0, n, 0, 0)) (hin : vp_in i n) (kk : WA G t post (pc + 1) ls st (wI M k i.toNatClampNeg x)) : WA G t post pc ls (.int x :: .int i :: wm_r G k :: st) M := by
  intro p e s m args below meth c Cx H locs la hP hS hl
  have hF := Cx.2.2.2.2.2.2.2
  refine va_iast (D := G.2.1) (cl := classes) (tys := wm_tys G) (ws := wm_ws G M) Cx.1 Cx.2.1 hF.1 hP (wm_D hF M) hS k 0 (by rw [wm_at (wm_ltA hs), wm_arr hs]; rfl) rfl hin d (fun H1 locs1 hP1 hD1 hS1 => ?_)
  refine kk p e s m args below meth c Cx H1 locs1 la ?_ hS1 hl
  rw [← wm_set (wm_ltA hs) (M := M) (M' := wI M k i.toNatClampNeg x) (e := _) rfl (fun k' h => wm_cell_I h), wm_arr hs]
  simpa [wm_ar, wI, wJ, wIa_s, wJa_s] using hP1
theorem wa_bast {k n : Nat} {i : Int32} {x : Int32} (d : decode t.2.1 pc = .ok (.bastore, 1)) (hs : wm_sh k = .inr (2, n, 0, 0)) (hin : vp_in i n) (kk : WA G t post (pc + 1) ls st (wI M k i.toNatClampNeg (vp_nar .byte x))) : WA G t post pc ls (.int x :: .int i :: wm_r G k :: st) M := by
  intro p e s m args below meth c Cx H locs la hP hS hl
  have hF := Cx.2.2.2.2.2.2.2
  refine va_bast (D := G.2.1) (cl := classes) (tys := wm_tys G) (ws := wm_ws G M) Cx.1 Cx.2.1 hF.1 hP (wm_D hF M) hS k 2 (by rw [wm_at (wm_ltA hs), wm_arr hs]; rfl) rfl hin d (fun H1 locs1 hP1 hD1 hS1 => ?_)
  refine kk p e s m args below meth c Cx H1 locs1 la ?_ hS1 hl
  rw [← wm_set (wm_ltA hs) (M := M) (M' := wI M k i.toNatClampNeg (vp_nar .byte x)) (e := _) rfl (fun k' h => wm_cell_I h), wm_arr hs]
  simpa [wm_ar, wI, wJ, wIa_s, wJa_s] using hP1
theorem wa_zast {k n : Nat} {i : Int32} {x : Int32} (d : decode t.2.1 pc = .ok (.bastore, 1)) (hs : wm_sh k = .inr (3, n, 0, 0)) (hin : vp_in i n) (kk : WA G t post (pc + 1) ls st (wI M k i.toNatClampNeg (vp_nar .boolean x))) : WA G t post pc ls (.int x :: .int i :: wm_r G k :: st) M := by
  intro p e s m args below meth c Cx H locs la hP hS hl
  have hF := Cx.2.2.2.2.2.2.2
  refine va_zast (D := G.2.1) (cl := classes) (tys := wm_tys G) (ws := wm_ws G M) Cx.1 Cx.2.1 hF.1 hP (wm_D hF M) hS k 3 (by rw [wm_at (wm_ltA hs), wm_arr hs]; rfl) rfl hin d (fun H1 locs1 hP1 hD1 hS1 => ?_)
  refine kk p e s m args below meth c Cx H1 locs1 la ?_ hS1 hl
  rw [← wm_set (wm_ltA hs) (M := M) (M' := wI M k i.toNatClampNeg (vp_nar .boolean x)) (e := _) rfl (fun k' h => wm_cell_I h), wm_arr hs]
  simpa [wm_ar, wI, wJ, wIa_s, wJa_s] using hP1
theorem wa_last {k n : Nat} {i : Int32} {x : Int64} (d : decode t.2.1 pc = .ok (.lastore, 1)) (hs : wm_sh k = .inr (1, n, 0, 0)) (hin : vp_in i n) (kk : WA G t post (pc + 1) ls st (wJ M k i.toNatClampNeg x)) : WA G t post pc ls (.long x :: .int i :: wm_r G k :: st) M := by
  intro p e s m args below meth c Cx H locs la hP hS hl
  have hF := Cx.2.2.2.2.2.2.2
  refine va_last (D := G.2.1) (cl := classes) (tys := wm_tys G) (ws := wm_ws G M) Cx.1 Cx.2.1 hF.1 hP (wm_D hF M) hS k 1 (by rw [wm_at (wm_ltA hs), wm_arr hs]; rfl) rfl hin d (fun H1 locs1 hP1 hD1 hS1 => ?_)
  refine kk p e s m args below meth c Cx H1 locs1 la ?_ hS1 hl
  rw [← wm_set (wm_ltA hs) (M := M) (M' := wJ M k i.toNatClampNeg x) (e := _) rfl (fun k' h => wm_cell_J h), wm_arr hs]
  simpa [wm_ar, wI, wJ, wIa_s, wJa_s] using hP1
theorem wa_alen {k kd n b z : Nat} (v : Int32) (d : decode t.2.1 pc = .ok (.arraylength, 1)) (hs : wm_sh k = .inr (kd, n, b, z)) (hkd : kd < 6) (hv : Int32.ofNat n = v) (kk : WA G t post (pc + 1) ls (.int v :: st) M) : WA G t post pc ls (wm_r G k :: st) M := by
  intro p e s m args below meth c Cx H locs la hP hS hl
  have kk' := kk p e s m args below meth c Cx H locs la hP hS hl
  have hK := Cx.2.2.2.2.2.2.2.1
  have ht : ∃ ty, (wm_tys G)[kd]? = some (G.2.2.2.1 kd, ty) := by
    match kd, hkd with
    | 0, _ => exact ⟨_, rfl⟩
    | 1, _ => exact ⟨_, rfl⟩
    | 2, _ => exact ⟨_, rfl⟩
    | 3, _ => exact ⟨_, rfl⟩
    | 4, _ => exact ⟨_, rfl⟩
    | 5, _ => exact ⟨_, rfl⟩
  obtain ⟨ty, ht⟩ := ht
  exact va_alen (D := G.2.1) (cl := classes) (tys := wm_tys G) (ws := wm_ws G M) (x := wm_ar G M k (kd, n, b, z)) Cx.1 Cx.2.1 hK hP k kd (by rw [wm_at (wm_ltA hs), wm_arr hs]) ht hv d kk'
/-- the static array -/
def wm_gs (t : wm_T) (pc : Nat) : Prop := ∃ index, Cond.fieldLink t.1.cls index RX3 "FIRST" "[J" ∈ lw_gd ∧ decode t.2.1 pc = .ok (.getstatic index, 3)
theorem wa_gets (hi : wm_gs t pc) (kk : WA G t post (pc + 3) ls (.ref G.2.2.2.2.2 :: st) M) : WA G t post pc ls st M := by
  obtain ⟨index, hlink, hd⟩ := hi
  intro p e s m args below meth c Cx H locs la hP hS hl
  have hF := Cx.2.2.2.2.2.2.2
  exact va_gets (C := RX3) (ref := RX3) Cx.1 Cx.2.1 hF.2.1 hS Cx.2.2.2.2.1 (Cx.2.2.2.2.2.1 _ hlink) (fun _ h => h) hd (kk p e s m args below meth c Cx H locs la hP hS hl)
theorem wa_firstld {i : Int32} (d : decode t.2.1 pc = .ok (.laload, 1)) (hin : vp_in i 3) (kk : WA G t post (pc + 1) ls (.long (wm_first i.toNatClampNeg) :: st) M) : WA G t post pc ls (.int i :: .ref G.2.2.2.2.2 :: st) M := by
  intro p e s m args below meth c Cx H locs la hP hS hl
  obtain ⟨cell, h1, h2, h3, h4, -, h6, h7⟩ := Cx.2.2.2.2.2.2.2.2.2.1
  have hlt : i.toNatClampNeg < 3 := Nat.not_le.mp fun q => hin (Or.inr q)
  exact W.lald (v := .long (wm_first i.toNatClampNeg)) Cx.1 Cx.2.1 (by rw [hS.2.1 _ (Array.getElem?_eq_some_iff.mp h1).1 h7]; exact h1) h2 h3 (fun q => hin (q.elim Or.inl (fun z => Or.inr (Nat.le_trans h4 z)))) (h6 _ hlt) rfl rfl d (kk p e s m args below meth c Cx H locs la hP hS hl)

theorem wa_ldc2 {index : Nat} (v : Int64) (d : decode t.2.1 pc = .ok (.ldc2_w index, 3)) (hc : Cond.constantLong t.1.cls index v ∈ lw_gd) (kk : WA G t post (pc + 3) ls (.long v :: st) M) : WA G t post pc ls st M :=
  fun p e s m args below meth c C H locs la hP hS hl => lv_ldc2 C.1 C.2.1 C.2.2.2.2.1 (C.2.2.2.2.2.1 _ hc) d (kk p e s m args below meth c C H locs la hP hS hl)
theorem wa_ldcw {index : Nat} (v : Int32) (d : decode t.2.1 pc = .ok (.ldc_w index, 3)) (hc : Cond.constant t.1.cls index v ∈ lw_gd) (kk : WA G t post (pc + 3) ls (.int v :: st) M) : WA G t post pc ls st M :=
  fun p e s m args below meth c C H locs la hP hS hl => lv_ldcw C.1 C.2.1 C.2.2.2.2.1 (C.2.2.2.2.2.1 _ hc) d (kk p e s m args below meth c C H locs la hP hS hl)
theorem wa_lookup {dflt : Int} {ps : Array (Int × Int)} {len : Nat} {x : Int32} {off : Int} (tgt : Nat) (d : decode t.2.1 pc = .ok (.lookupswitch dflt ps, len)) (hp : (ps.toList.zip (ps.toList.drop 1)).all (fun (a, next) => a.1 < next.1) = true) (ho : Op.lookupswitch.offset ps.toList dflt x.toInt = off) (ht : (pc : Int) + off = (tgt : Int)) (kk : WA G t post tgt ls st M) : WA G t post pc ls (.int x :: st) M :=
  fun p e s m args below meth c C H locs la hP hS hl => lv_lookup C.1 C.2.1 d hp ho ht (kk p e s m args below meth c C H locs la hP hS hl)
theorem wa_tableOut {dflt lo hi : Int} {offs : Array Int} {len : Nat} {x : Int32} (tgt : Nat) (d : decode t.2.1 pc = .ok (.tableswitch dflt lo hi offs, len)) (h : x.toInt < lo ∨ hi < x.toInt) (ht : (pc : Int) + dflt = (tgt : Int)) (kk : WA G t post tgt ls st M) : WA G t post pc ls (.int x :: st) M :=
  fun p e s m args below meth c C H locs la hP hS hl => lv_tableOut C.1 C.2.1 d h ht (kk p e s m args below meth c C H locs la hP hS hl)
theorem wa_tableIn {dflt lo hi : Int} {offs : Array Int} {len : Nat} {x : Int32} {off : Int} (tgt : Nat) (d : decode t.2.1 pc = .ok (.tableswitch dflt lo hi offs, len)) (h1 : ¬ x.toInt < lo) (h2 : ¬ hi < x.toInt) (ho : offs[(x.toInt - lo).toNat]? = some off) (ht : (pc : Int) + off = (tgt : Int)) (kk : WA G t post tgt ls st M) : WA G t post pc ls (.int x :: st) M :=
  fun p e s m args below meth c C H locs la hP hS hl => lv_tableIn C.1 C.2.1 d h1 h2 ho ht (kk p e s m args below meth c C H locs la hP hS hl)
/-! ends -/
theorem wm_end {p : Program} {s : State} {m : MethodId} {args : Array Value} {meth : Method} {c : Code} {H : Heap} {locs : List Loc} {v : Option Value} (hP : va_P G.2.1 classes (wm_ws G M) H) (hS : va_S G.2.2.2.2.1 s.heap H locs) (hq : post v M) : ∀ tt : State, tt.heap = H → s.WarmedH tt.vm → wm_Q G post args s (.returned v) tt :=
  fun tt ht hW => ⟨⟨v, M, rfl, hq, by rw [ht]; exact hP⟩, hS.F ht⟩
theorem wa_iret {v : Int32} (d : decode t.2.1 pc = .ok (.ireturn, 1)) (hr : t.2.2.2.1 = some .int) (hq : post (some (.int v)) M) : WA G t post pc ls [.int v] M :=
  fun p e s m args below meth c C H locs la hP hS hl => W.iret C.1 C.2.1 (C.2.2.1.trans hr) (wm_end (p := p) (m := m) (meth := meth) (c := c) hP hS hq) hS.2.2 d C.2.2.2.2.2.2.1
theorem wa_zret {v : Int32} (d : decode t.2.1 pc = .ok (.ireturn, 1)) (hr : t.2.2.2.1 = some .boolean) (hn : narrow .boolean (.int v) = .int v) (hq : post (some (.int v)) M) : WA G t post pc ls [.int v] M :=
  fun p e s m args below meth c C H locs la hP hS hl => W.zret C.1 C.2.1 (C.2.2.1.trans hr) hn (wm_end (p := p) (m := m) (meth := meth) (c := c) hP hS hq) hS.2.2 d C.2.2.2.2.2.2.1
theorem wa_lret {v : Int64} (d : decode t.2.1 pc = .ok (.lreturn, 1)) (hr : t.2.2.2.1 = some .long) (hq : post (some (.long v)) M) : WA G t post pc ls [.long v] M :=
  fun p e s m args below meth c C H locs la hP hS hl => W.lret C.1 C.2.1 (C.2.2.1.trans hr) (wm_end (p := p) (m := m) (meth := meth) (c := c) hP hS hq) hS.2.2 d C.2.2.2.2.2.2.1
theorem wa_vret (d : decode t.2.1 pc = .ok (.return_, 1)) (hr : t.2.2.2.1 = none) (hq : post none M) : WA G t post pc ls [] M :=
  fun p e s m args below meth c C H locs la hP hS hl => W.vret C.1 C.2.1 (C.2.2.1.trans hr) (wm_end (p := p) (m := m) (meth := meth) (c := c) hP hS hq) hS.2.2 d C.2.2.2.2.2.2.1
theorem wa_aret {k : Nat} {C0 : String} (d : decode t.2.1 pc = .ok (.areturn, 1)) (hr : t.2.2.2.1 = some (.object C0)) (hq : post (some (wm_r G k)) M) : WA G t post pc ls [wm_r G k] M :=
  fun p e s m args below meth c C H locs la hP hS hl => W.aret C.1 C.2.1 (C.2.2.1.trans hr) (Or.inl ⟨_, rfl⟩) (Or.inr ⟨_, rfl⟩) (wm_end (p := p) (m := m) (meth := meth) (c := c) hP hS hq) hS.2.2 d C.2.2.2.2.2.2.1
/-! calls -/
def wm_cal (t : wm_T) (n : Nat) : Prop := Cond.code t.1 t.2.1 t.2.2.1 t.2.2.2.1 ∈ lw_gd ∧ Cond.initialized t.1.cls ∈ lw_gd ∧ t.1.cls ≠ "java/lang/invoke/MethodHandle" ∧ t.1.cls ≠ "java/lang/invoke/VarHandle" ∧ (parseMethodDescriptor t.1.desc).map (fun d => d.parameters.length) = some n
def wm_calV (t : wm_T) (n : Nat) : Prop := wm_cal t n ∧ Cond.instanceMethod t.1 ∈ lw_gd ∧ Cond.selects t.1.cls t.1 t.1 ∈ lw_gd
def wm_calS (t : wm_T) (n : Nat) : Prop := wm_cal t n ∧ Cond.static t.1 ∈ lw_gd
def wm_iv (t t' : wm_T) (pc : Nat) : Prop := ∃ index, Cond.methodLink t.1.cls index t'.1 ∈ lw_gd ∧ decode t.2.1 pc = .ok (.invokevirtual index, 3)
def wm_is (t t' : wm_T) (pc : Nat) : Prop := ∃ index, Cond.methodLink t.1.cls index t'.1 ∈ lw_gd ∧ decode t.2.1 pc = .ok (.invokestatic index, 3)
theorem wm_blind (av : List Value) : FrameBlind (va_Pc av (fun U => va_P G.2.1 classes (wm_ws G M) U.heap ∧ wm_F G U)) := by
  intro a U g mk q
  obtain ⟨q0, q1, q2⟩ := q
  exact ⟨q0, q1, wm_F.moved (u := U) (U := U.calling g mk a) (Vm.Alike.refl U.vm) (fun _ _ _ => rfl) q2⟩
theorem wm_pre {s U : State} {H : Heap} {locs : List Loc} (hF : wm_F G s) (hP : va_P G.2.1 classes (wm_ws G M) H) (hS : va_S G.2.2.2.2.1 s.heap H locs) (hU : U.heap = H) (hW : s.WarmedH U.vm) : va_P G.2.1 classes (wm_ws G M) U.heap ∧ wm_F G U :=
  ⟨by rw [hU]; exact hP, wm_F.moved hW.alike (fun a h1 h2 => by rw [hU]; exact hS.2.1 a h1 h2) hF⟩
theorem wm_callx {p : Program} {e : Env} {R : Room} {s : State} {m : MethodId} {args : Array Value} {below : List Frame} {meth : Method} {c : Code} {H : Heap} {locs : List Loc} {Q : State → Prop} {la : Array Slot} {rest st0 : List Value} {a : Array Value} {post' : Option Value → wm_M → Prop}
    (hr : va_Run p G.1 e R s m args below meth c H locs 0 0 0 0 (F0 m pc la st0) rest (wm_Q G post' a) G.2.2.2.2.1) (hS : va_S G.2.2.2.2.1 s.heap H locs)
    (kk : ∀ (v : Option Value) (N : wm_M) (H1 : Heap) (locs1 : List Loc), post' v N → va_P G.2.1 classes (wm_ws G N) H1 → va_S G.2.2.2.2.1 s.heap H1 locs1 → W p G.1 e R s m args below meth c H1 locs1 0 0 Q (F0 m (pc + 3) la (v.toList ++ rest))) : W p G.1 e R s m args below meth c H locs 0 0 Q (F0 m pc la st0) := by
  intro T hT X
  obtain ⟨v, st₀, tt, T', L, h0, X', hL, e1, e2, ⟨⟨v', N, hv, hp, hb⟩, hz, hk⟩, stp⟩ := hr T hT X
  cases hv
  rw [h0] at hz hk
  obtain ⟨t2, a1, b1⟩ := kk v N T'.heap (locs ++ L) hp (by rw [e1]; exact hb)
    ⟨Nat.le_trans hS.1 (by rw [e1]; exact hz), fun q h1 h2 => by rw [e1, hk q (Nat.lt_of_lt_of_le h1 hS.1) h2]; exact hS.2.1 q h1 h2, fun q hq => by
      rcases List.mem_append.mp hq with h | h
      · exact hS.2.2 q h
      · exact hL q h⟩ T' rfl X'
  exact ⟨t2, stp t2 a1, b1⟩
theorem wa_callV {t' : wm_T} {As : List Value} {st0 : List Value} {k ci n : Nat} {fts : List (Nat × Nat)} {ft : Nat × Nat} {post' : Option Value → wm_M → Prop} (hM : MA G t' (wm_r G k :: As) M post') (hc : wm_calV t' n) (hi : wm_iv t t' pc) (hs : wm_sh k = .inl (ci, ft :: fts)) (hcl : (classes[ci]?).map (fun q => q.1) = some t'.1.cls)
    (hn : As.length = n) (hst : st0 = As.reverse ++ wm_r G k :: st) (hw : (st.map fun v => v.category).sum ≤ 8) (hR : t'.2.2.2.2.1 + 1 ≤ t.2.2.2.2.1 ∧ 8 + (t'.2.2.1 + 11) + t'.2.2.2.2.2 ≤ t.2.2.2.2.2)
    (kk : ∀ (v : Option Value) (N : wm_M), post' v N → WA G t post (pc + 3) ls (v.toList ++ st) N) : WA G t post pc ls st0 M := by
  subst hst
  obtain ⟨index, hlink, hd⟩ := hi
  obtain ⟨⟨h1, h2, h3, h4, h5⟩, h6, h7⟩ := hc
  intro p e s m args below meth c Cx H locs la hP hS hl
  have hF := Cx.2.2.2.2.2.2.2
  have hts := Cx.2.2.2.2.2.1
  obtain ⟨q, hq, hqc⟩ : ∃ q, classes[ci]? = some q ∧ q.1 = t'.1.cls := by
    cases h : classes[ci]? with
    | none => rw [h] at hcl; cases hcl
    | some q => rw [h] at hcl; exact ⟨q, rfl, Option.some.inj hcl⟩
  have hG : GoodIn lw_gd (wsV t.1.cls index t'.1.cls t'.1 (wm_ws0 t')) := by
    intro w hw
    have : w ∈ lw_gd := by
      simp only [wsV, wm_ws0, List.mem_append, List.mem_cons, List.not_mem_nil, or_false] at hw
      rcases hw with (rfl | rfl | rfl | rfl) | rfl | hw
      · exact hlink
      · exact h6
      · exact h7
      · exact h2
      · exact h1
      · exact hw
    exact ⟨this, lw_gd_good this⟩
  have hrec := va_recv (q0 := k) (a := wm_a G k) (fs := wm_fs G M k 0 (ft :: fts)) hF.1 hP hq (by rw [wm_at (wm_lt (fun q => by rw [hs] at q; cases q)), wm_obj hs])
  rw [hqc] at hrec
  refine wm_callx (va_runV (cc := t.2.1) (nL := t.2.2.1) (Ts := lw_gd) (own := t.1.cls) (C := t'.1.cls) (b := wm_a G k) (As := As) (rest := st) ⟨Cx.1, Cx.2.1, Cx.2.2.2.1, Cx.2.2.2.2.1, hts⟩ hM (cwV n hts hG rfl rfl rfl ⟨rfl, h3, h4, h5⟩ hR) ⟨wm_blind _, hrec, fun U hU hW => ⟨rfl, wm_pre hF hP hS hU hW⟩⟩ rfl hn hl.1 rfl (lv_room hw) hd ⟨Nat.le_refl _, Nat.le_refl _⟩) hS (fun v N H1 locs1 hp hP1 hS1 => ?_)
  exact kk v N hp p e s m args below meth c Cx H1 locs1 la hP1 hS1 hl
theorem wa_callS {t' : wm_T} {As : List Value} {st0 : List Value} {n : Nat} {post' : Option Value → wm_M → Prop} (hM : MA G t' As M post') (hc : wm_calS t' n) (hi : wm_is t t' pc)
    (hn : As.length = n) (hst : st0 = As.reverse ++ st) (hw : (st.map fun v => v.category).sum ≤ 8) (hR : t'.2.2.2.2.1 + 1 ≤ t.2.2.2.2.1 ∧ 8 + (t'.2.2.1 + 11) + t'.2.2.2.2.2 ≤ t.2.2.2.2.2)
    (kk : ∀ (v : Option Value) (N : wm_M), post' v N → WA G t post (pc + 3) ls (v.toList ++ st) N) : WA G t post pc ls st0 M := by
  subst hst
  obtain ⟨index, hlink, hd⟩ := hi
  obtain ⟨⟨h1, h2, h3, h4, h5⟩, h6⟩ := hc
  intro p e s m args below meth c Cx H locs la hP hS hl
  have hF := Cx.2.2.2.2.2.2.2
  have hts := Cx.2.2.2.2.2.1
  have hG : GoodIn lw_gd (va_wsS t.1.cls index t'.1 (wm_ws0 t')) := by
    intro w hw
    have : w ∈ lw_gd := by
      simp only [va_wsS, wm_ws0, List.mem_append, List.mem_cons, List.not_mem_nil, or_false] at hw
      rcases hw with (rfl | rfl | rfl) | rfl | hw
      · exact hlink
      · exact h6
      · exact h2
      · exact h1
      · exact hw
    exact ⟨this, lw_gd_good this⟩
  refine wm_callx (va_runS (cc := t.2.1) (nL := t.2.2.1) (Ts := lw_gd) (own := t.1.cls) (As := As) (rest := st) ⟨Cx.1, Cx.2.1, Cx.2.2.2.1, Cx.2.2.2.2.1, hts⟩ hM (va_cwS n hts hG rfl rfl rfl ⟨h3, h4, h5⟩ hR) ⟨wm_blind _, fun U hU hW => ⟨rfl, wm_pre hF hP hS hU hW⟩⟩ rfl hn hl.1 rfl (lv_room hw) hd ⟨Nat.le_refl _, Nat.le_refl _⟩) hS (fun v N H1 locs1 hp hP1 hS1 => ?_)
  exact kk v N hp p e s m args below meth c Cx H1 locs1 la hP1 hS1 hl
/-- a contract with one end -/
def MD (G : wm_G) (t : wm_T) (av : List Value) (M : wm_M) (r : Option Value) (N : wm_M) : Prop := MA G t av M (fun v N' => v = r ∧ N' = N)
theorem wa_cV {t' : wm_T} {As : List Value} {st0 : List Value} {k ci n : Nat} {fts : List (Nat × Nat)} {ft : Nat × Nat} {r : Option Value} {N : wm_M} (hM : MD G t' (wm_r G k :: As) M r N) (hc : wm_calV t' n) (hi : wm_iv t t' pc) (hs : wm_sh k = .inl (ci, ft :: fts)) (hcl : (classes[ci]?).map (fun q => q.1) = some t'.1.cls)
    (hn : As.length = n) (hst : st0 = As.reverse ++ wm_r G k :: st) (hw : (st.map fun v => v.category).sum ≤ 8) (hR : t'.2.2.2.2.1 + 1 ≤ t.2.2.2.2.1 ∧ 8 + (t'.2.2.1 + 11) + t'.2.2.2.2.2 ≤ t.2.2.2.2.2)
    (kk : WA G t post (pc + 3) ls (r.toList ++ st) N) : WA G t post pc ls st0 M :=
  wa_callV hM hc hi hs hcl hn hst hw hR (fun v N' h => by obtain ⟨rfl, rfl⟩ := h; exact kk)
theorem wa_cS {t' : wm_T} {As : List Value} {st0 : List Value} {n : Nat} {r : Option Value} {N : wm_M} (hM : MD G t' As M r N) (hc : wm_calS t' n) (hi : wm_is t t' pc)
    (hn : As.length = n) (hst : st0 = As.reverse ++ st) (hw : (st.map fun v => v.category).sum ≤ 8) (hR : t'.2.2.2.2.1 + 1 ≤ t.2.2.2.2.1 ∧ 8 + (t'.2.2.1 + 11) + t'.2.2.2.2.2 ≤ t.2.2.2.2.2)
    (kk : WA G t post (pc + 3) ls (r.toList ++ st) N) : WA G t post pc ls st0 M :=
  wa_callS hM hc hi hn hst hw hR (fun v N' h => by obtain ⟨rfl, rfl⟩ := h; exact kk)
/-! the JDK's -/
def wm_ij (t : wm_T) (y : MethodName) (pc : Nat) : Prop := ∃ index, Cond.methodLink t.1.cls index y ∈ lw_gd ∧ decode t.2.1 pc = .ok (.invokestatic index, 3)
theorem wm_mathMax : Cond.static Lib.Math.max.name ∈ lw_gd ∧ Cond.initialized "java/lang/Math" ∈ lw_gd ∧ Cond.code Lib.Math.max.name Lib.Math.max.code 2 (some .int) ∈ lw_gd := by decide +kernel
theorem wm_mathMin : Cond.static Lib.Math.min.name ∈ lw_gd ∧ Cond.initialized "java/lang/Math" ∈ lw_gd ∧ Cond.code Lib.Math.min.name Lib.Math.min.code 2 (some .int) ∈ lw_gd := by decide +kernel
theorem wm_copyW : Cond.native arraycopyName ∈ lw_gd ∧ Cond.static arraycopyName ∈ lw_gd ∧ Cond.initialized "java/lang/System" ∈ lw_gd := by decide +kernel
theorem wa_max {x y : Int32} (hi : wm_ij t Lib.Math.max.name pc) (hR : 1 ≤ t.2.2.2.2.1 ∧ (st.map fun v => v.category).sum + 13 ≤ t.2.2.2.2.2) (kk : WA G t post (pc + 3) ls (.int (if x < y then y else x) :: st) M) : WA G t post pc ls (.int y :: .int x :: st) M := by
  obtain ⟨index, hlink, hd⟩ := hi
  intro p e s m args below meth c Cx H locs la hP hS hl
  have hts := Cx.2.2.2.2.2.1
  exact va_mmax Cx.1 Cx.2.1 (by rw [Cx.2.2.2.1]; exact hl.1.symm) Cx.2.2.2.2.1 (hts _ hlink) (hts _ wm_mathMax.1) (hts _ wm_mathMax.2.1) (hts _ wm_mathMax.2.2) hR.1 hR.2 (Nat.zero_le _) (Nat.zero_le _) hd (kk p e s m args below meth c Cx H locs la hP hS hl)
theorem wa_min {x y : Int32} (hi : wm_ij t Lib.Math.min.name pc) (hR : 1 ≤ t.2.2.2.2.1 ∧ (st.map fun v => v.category).sum + 13 ≤ t.2.2.2.2.2) (kk : WA G t post (pc + 3) ls (.int (if y < x then y else x) :: st) M) : WA G t post pc ls (.int y :: .int x :: st) M := by
  obtain ⟨index, hlink, hd⟩ := hi
  intro p e s m args below meth c Cx H locs la hP hS hl
  have hts := Cx.2.2.2.2.2.1
  exact va_mmin Cx.1 Cx.2.1 (by rw [Cx.2.2.2.1]; exact hl.1.symm) Cx.2.2.2.2.1 (hts _ hlink) (hts _ wm_mathMin.1) (hts _ wm_mathMin.2.1) (hts _ wm_mathMin.2.2) hR.1 hR.2 (Nat.zero_le _) (Nat.zero_le _) hd (kk p e s m args below meth c Cx H locs la hP hS hl)
theorem wa_copyi {k0 k1 n0 n1 : Nat} {sp dp n : Int32} (hi : wm_ij t arraycopyName pc) (h0 : wm_sh k0 = .inr (0, n0, 0, 0)) (h1 : wm_sh k1 = .inr (0, n1, 0, 0)) (p1 : ¬ sp < 0) (p2 : ¬ dp < 0) (p3 : ¬ n < 0) (p4 : sp.toNatClampNeg + n.toNatClampNeg ≤ n0) (p5 : dp.toNatClampNeg + n.toNatClampNeg ≤ n1)
    (hR : 1 ≤ t.2.2.2.2.1 ∧ (st.map fun v => v.category).sum + (nativeFrameWords "java/lang/System" "arraycopy" 5 + 11) ≤ t.2.2.2.2.2) (kk : WA G t post (pc + 3) ls st (wIa M k1 (va_cpy (M.1 k0) (M.1 k1) sp.toNatClampNeg dp.toNatClampNeg n.toNatClampNeg))) : WA G t post pc ls (.int n :: .int dp :: wm_r G k1 :: .int sp :: wm_r G k0 :: st) M := by
  obtain ⟨index, hlink, hd⟩ := hi
  intro p e s m args below meth c Cx H locs la hP hS hl
  have hts := Cx.2.2.2.2.2.1
  have hF := Cx.2.2.2.2.2.2.2
  refine va_copyi (D := G.2.1) (cl := classes) (tys := wm_tys G) (ws := wm_ws G M) (n0 := n0) (n1 := n1) (f := M.1 k0) (g := M.1 k1) (ty := .int) Cx.1 Cx.2.1 (by rw [Cx.2.2.2.1]; exact hl.1.symm) Cx.2.2.2.2.1 (hts _ hlink) (hts _ wm_copyW.1) (hts _ wm_copyW.2.1) (hts _ wm_copyW.2.2) hF.1 hP (wm_D hF M) hS k0 k1 0 0 (by rw [wm_at (wm_ltA h0), wm_arr h0]; rfl) (by rw [wm_at (wm_ltA h1), wm_arr h1]; rfl) rfl rfl rfl p1 p2 p3 p4 p5 (fun _ _ => rfl) hR.1 hR.2 hd (fun H1 locs1 hP1 hD1 hS1 => ?_)
  refine kk p e s m args below meth c Cx H1 locs1 la ?_ hS1 hl
  rw [← wm_set (wm_ltA h1) (M := M) (e := _) rfl (fun k' h => wm_cell_I h), wm_arr h1]
  simpa [wm_ar, wIa_s] using hP1
theorem wa_copyl {k0 k1 n0 n1 : Nat} {sp dp n : Int32} (hi : wm_ij t arraycopyName pc) (h0 : wm_sh k0 = .inr (1, n0, 0, 0)) (h1 : wm_sh k1 = .inr (1, n1, 0, 0)) (p1 : ¬ sp < 0) (p2 : ¬ dp < 0) (p3 : ¬ n < 0) (p4 : sp.toNatClampNeg + n.toNatClampNeg ≤ n0) (p5 : dp.toNatClampNeg + n.toNatClampNeg ≤ n1)
    (hR : 1 ≤ t.2.2.2.2.1 ∧ (st.map fun v => v.category).sum + (nativeFrameWords "java/lang/System" "arraycopy" 5 + 11) ≤ t.2.2.2.2.2) (kk : WA G t post (pc + 3) ls st (wJa M k1 (va_cpy (M.2.1 k0) (M.2.1 k1) sp.toNatClampNeg dp.toNatClampNeg n.toNatClampNeg))) : WA G t post pc ls (.int n :: .int dp :: wm_r G k1 :: .int sp :: wm_r G k0 :: st) M := by
  obtain ⟨index, hlink, hd⟩ := hi
  intro p e s m args below meth c Cx H locs la hP hS hl
  have hts := Cx.2.2.2.2.2.1
  have hF := Cx.2.2.2.2.2.2.2
  refine va_copyl (D := G.2.1) (cl := classes) (tys := wm_tys G) (ws := wm_ws G M) (n0 := n0) (n1 := n1) (f := M.2.1 k0) (g := M.2.1 k1) (ty := .long) Cx.1 Cx.2.1 (by rw [Cx.2.2.2.1]; exact hl.1.symm) Cx.2.2.2.2.1 (hts _ hlink) (hts _ wm_copyW.1) (hts _ wm_copyW.2.1) (hts _ wm_copyW.2.2) hF.1 hP (wm_D hF M) hS k0 k1 1 1 (by rw [wm_at (wm_ltA h0), wm_arr h0]; rfl) (by rw [wm_at (wm_ltA h1), wm_arr h1]; rfl) rfl rfl rfl p1 p2 p3 p4 p5 (fun _ _ => rfl) hR.1 hR.2 hd (fun H1 locs1 hP1 hD1 hS1 => ?_)
  refine kk p e s m args below meth c Cx H1 locs1 la ?_ hS1 hl
  rw [← wm_set (wm_ltA h1) (M := M) (e := _) rfl (fun k' h => wm_cell_J h), wm_arr h1]
  simpa [wm_ar, wJa_s] using hP1
end WMH

