section LAWL
variable {p : Program} {e : Env} {s : State} {m : MethodId} {below : List Frame} {meth : Method} {c : Code} {b L : Nat} {xs : Nat → Int32}
/-- the law's own end, with 1 on the stack, nothing written that was there before, its room as the claim has it -/
theorem lw_ret {p : Program} {l : Launch} {e : Env} {s : State} {m : MethodId} {below : List Frame} {meth : Method} {c : Code} {b : Nat} (hx : p.tables.exec = Jvm.exec) (hb : c.code = code) (hr : meth.sig.returnType = ret) (hlocks : meth.locks = false) {pc : Nat} {H : Heap} {ls : Array Slot} (hdg : decode code pc = .ok (.ireturn, 1)) : W p l e room_1 s m #[Value.ref b] below meth c H [] 600000 7302250 (lw_Z below #[Value.ref b] s) (F0 m pc ls [.int 1]) := by
  intro T hT X
  obtain ⟨fs, hret, hrun, hended, hW, hframe⟩ := X.leave (v := some (.int 1)) (hlocks := hlocks) (fun h => by rw [hr] at h; cases h)
  have hmeth' : T.vm.method? m = some meth := X.method'
  refine ⟨T.setFrames fs, ?_, .returned (some (.int 1)), hrun, hended, rfl, ⟨_, rfl⟩, hW, hframe⟩
  jvm_step X.here [X.here.top, hx, hb, hdg, hmeth', hr, ret, narrow_b1]
  (try refine ⟨rfl, ?_⟩); (try refine ⟨rfl, ?_⟩)
  first | (intro acts; rw [hret _ acts rfl rfl rfl]) | rw [hret _ _ rfl rfl rfl]
  exact Steps.refl _
variable {G : wm_G}
theorem law_loop (C0 : lw_At p s m meth c b L xs) (hF : wm_F G s) (hA : G.2.2.2.2.1 = fun q => s.heap.size ≤ q) (hL : L ≤ 3072) : ∀ (n i : Nat), i ≤ L → L < i + 6 * n → ∀ {M : wm_M} {H : Heap} {locs : List Loc} {la : Array Slot}, RelA M → va_P G.2.1 classes (wm_ws G M) H → va_S G.2.2.2.2.1 s.heap H locs → lv_has la 4 [(3, .int (nI i)), (2, wm_r G 96), (1, wm_r G 0), (0, .ref b)] → W p G.1 e room_1 s m #[Value.ref b] below meth c H locs 600000 7302250 (lw_Z below #[Value.ref b] s) (F0 m 18 la []) := by
  have hx := C0.1
  have hb := C0.2.1
  have hX := C0.2.2.2.2.2.2.1
  have hbl := C0.2.2.2.2.2.2.2.1
  have hbA : ¬ G.2.2.2.2.1 b := by rw [hA]; exact Nat.not_le.mpr hbl
  intro n
  induction n with
  | zero => intro i h1 h2; exact absurd h2 (by omega)
  | succ n ih =>
    intro i hi hin M H locs la hM hP hS hl
    refine lv_iload_n hx hb dL_18 rfl (lv_at hl 0 rfl) ?_
    refine lv_aload_n hx hb dL_19 rfl (lv_at hl 3 rfl) ?_
    refine va_slen hx hb hX hbl hbA hS dL_20 ?_
    refine lv_bipush (v := nI 6) hx hb dL_21 (by decide) ?_
    refine lv_isub hx hb dL_23 ?_
    refine lv_icmp_gt (tgt := 1381) hx hb dL_24 (by decide) (fun c9 => ?_) (fun c9 => ?_)
    · refine lv_iconst (v := 1) hx hb dL_1381 (by decide) ?_
      refine va_forget (fun q hq => by have := hS.2.2 q hq; rw [hA] at this; exact this) ?_
      exact lw_ret hx hb C0.2.2.1 C0.2.2.2.2.2.2.2.2.1 dL_1382
    · have hi6 : i + 6 ≤ L := by
        rcases Nat.lt_or_ge L (i + 6) with q | q
        · exact absurd ((ls_iff (by omega) (by omega) (by omega)).mpr q) c9
        · exact q
      refine lv_aload_n hx hb dL_27 rfl (lv_at hl 3 rfl) ?_
      refine lv_iload_n hx hb dL_28 rfl (lv_at hl 0 rfl) ?_
      refine va_sld hx hb hX hbl hbA hS (vp_in_nI (by omega : i < L) (by omega)) dL_29 ?_
      refine lv_bipush (v := 63) hx hb dL_30 (by decide) ?_
      refine lv_iand hx hb dL_32 ?_
      generalize xs (nI i).toNatClampNeg &&& 63 = x
      have kk : ∀ (O : wm_M) (H1 : Heap) (locs1 : List Loc), RelA O → va_P G.2.1 classes (wm_ws G O) H1 → va_S G.2.2.2.2.1 s.heap H1 locs1 → W p G.1 e room_1 s m #[Value.ref b] below meth c H1 locs1 600000 7302250 (lw_Z below #[Value.ref b] s) (F0 m 1375 la []) := fun O H1 locs1 hO hP1 hS1 => by
        refine lv_iinc (v := nI (i + 6)) (lv' := [(3, .int (nI (i + 6))), (2, wm_r G 96), (1, wm_r G 0), (0, .ref b)]) hx hb dL_1375 hl (k := 0) rfl (by rw [← nI_add]; rfl) (by decide) rfl (fun ls hl2 => ?_)
        refine lv_goto (tgt := 18) hx hb dL_1378 (by decide) ?_
        exact ih (i + 6) hi6 (by omega) hO hP1 hS1 hl2
      by_cases hz : x.toInt < 0 ∨ 41 < x.toInt
      · refine lv_tableOut (tgt := 1375) hx hb dL_33 hz (by decide) ?_
        exact kk M H locs hM hP hS
      · have h1 : ¬ x.toInt < 0 := fun q => hz (Or.inl q)
        have h2 : ¬ 41 < x.toInt := fun q => hz (Or.inr q)
        obtain ⟨k, hk, ek⟩ : ∃ k : Nat, k < 42 ∧ x.toInt = (k : Int) := ⟨x.toInt.toNat, by omega, by omega⟩
        match k, hk, ek with
        | 0, _, ek => exact lv_tableIn (tgt := 216) hx hb dL_33 h1 h2 (by rw [ek]; rfl) (by decide) (lc_0 C0 hF hA hi6 hL hM hP hS hl kk)
        | 1, _, ek => exact lv_tableIn (tgt := 249) hx hb dL_33 h1 h2 (by rw [ek]; rfl) (by decide) (lc_1 C0 hF hA hi6 hL hM hP hS hl kk)
        | 2, _, ek => exact lv_tableIn (tgt := 292) hx hb dL_33 h1 h2 (by rw [ek]; rfl) (by decide) (lc_2 C0 hF hA hi6 hL hM hP hS hl kk)
        | 3, _, ek => exact lv_tableIn (tgt := 325) hx hb dL_33 h1 h2 (by rw [ek]; rfl) (by decide) (lc_3 C0 hF hA hi6 hL hM hP hS hl kk)
        | 4, _, ek => exact lv_tableIn (tgt := 348) hx hb dL_33 h1 h2 (by rw [ek]; rfl) (by decide) (lc_4 C0 hF hA hi6 hL hM hP hS hl kk)
        | 5, _, ek => exact lv_tableIn (tgt := 411) hx hb dL_33 h1 h2 (by rw [ek]; rfl) (by decide) (lc_5 C0 hF hA hi6 hL hM hP hS hl kk)
        | 6, _, ek => exact lv_tableIn (tgt := 434) hx hb dL_33 h1 h2 (by rw [ek]; rfl) (by decide) (lc_6 C0 hF hA hi6 hL hM hP hS hl kk)
        | 7, _, ek => exact lv_tableIn (tgt := 467) hx hb dL_33 h1 h2 (by rw [ek]; rfl) (by decide) (lc_7 C0 hF hA hi6 hL hM hP hS hl kk)
        | 8, _, ek => exact lv_tableIn (tgt := 510) hx hb dL_33 h1 h2 (by rw [ek]; rfl) (by decide) (lc_8 C0 hF hA hi6 hL hM hP hS hl kk)
        | 9, _, ek => exact lv_tableIn (tgt := 533) hx hb dL_33 h1 h2 (by rw [ek]; rfl) (by decide) (lc_9 C0 hF hA hi6 hL hM hP hS hl kk)
        | 10, _, ek => exact lv_tableIn (tgt := 556) hx hb dL_33 h1 h2 (by rw [ek]; rfl) (by decide) (lc_10 C0 hF hA hi6 hL hM hP hS hl kk)
        | 11, _, ek => exact lv_tableIn (tgt := 589) hx hb dL_33 h1 h2 (by rw [ek]; rfl) (by decide) (lc_11 C0 hF hA hi6 hL hM hP hS hl kk)
        | 12, _, ek => exact lv_tableIn (tgt := 622) hx hb dL_33 h1 h2 (by rw [ek]; rfl) (by decide) (lc_12 C0 hF hA hi6 hL hM hP hS hl kk)
        | 13, _, ek => exact lv_tableIn (tgt := 655) hx hb dL_33 h1 h2 (by rw [ek]; rfl) (by decide) (lc_13 C0 hF hA hi6 hL hM hP hS hl kk)
        | 14, _, ek => exact lv_tableIn (tgt := 698) hx hb dL_33 h1 h2 (by rw [ek]; rfl) (by decide) (lc_14 C0 hF hA hi6 hL hM hP hS hl kk)
        | 15, _, ek => exact lv_tableIn (tgt := 721) hx hb dL_33 h1 h2 (by rw [ek]; rfl) (by decide) (lc_15 C0 hF hA hi6 hL hM hP hS hl kk)
        | 16, _, ek => exact lv_tableIn (tgt := 734) hx hb dL_33 h1 h2 (by rw [ek]; rfl) (by decide) (lc_16 C0 hF hA hi6 hL hM hP hS hl kk)
        | 17, _, ek => exact lv_tableIn (tgt := 757) hx hb dL_33 h1 h2 (by rw [ek]; rfl) (by decide) (lc_17 C0 hF hA hi6 hL hM hP hS hl kk)
        | 18, _, ek => exact lv_tableIn (tgt := 790) hx hb dL_33 h1 h2 (by rw [ek]; rfl) (by decide) (lc_18 C0 hF hA hi6 hL hM hP hS hl kk)
        | 19, _, ek => exact lv_tableIn (tgt := 813) hx hb dL_33 h1 h2 (by rw [ek]; rfl) (by decide) (lc_19 C0 hF hA hi6 hL hM hP hS hl kk)
        | 20, _, ek => exact lv_tableIn (tgt := 836) hx hb dL_33 h1 h2 (by rw [ek]; rfl) (by decide) (lc_20 C0 hF hA hi6 hL hM hP hS hl kk)
        | 21, _, ek => exact lv_tableIn (tgt := 849) hx hb dL_33 h1 h2 (by rw [ek]; rfl) (by decide) (lc_21 C0 hF hA hi6 hL hM hP hS hl kk)
        | 22, _, ek => exact lv_tableIn (tgt := 872) hx hb dL_33 h1 h2 (by rw [ek]; rfl) (by decide) (lc_22 C0 hF hA hi6 hL hM hP hS hl kk)
        | 23, _, ek => exact lv_tableIn (tgt := 905) hx hb dL_33 h1 h2 (by rw [ek]; rfl) (by decide) (lc_23 C0 hF hA hi6 hL hM hP hS hl kk)
        | 24, _, ek => exact lv_tableIn (tgt := 928) hx hb dL_33 h1 h2 (by rw [ek]; rfl) (by decide) (lc_24 C0 hF hA hi6 hL hM hP hS hl kk)
        | 25, _, ek => exact lv_tableIn (tgt := 951) hx hb dL_33 h1 h2 (by rw [ek]; rfl) (by decide) (lc_25 C0 hF hA hi6 hL hM hP hS hl kk)
        | 26, _, ek => exact lv_tableIn (tgt := 964) hx hb dL_33 h1 h2 (by rw [ek]; rfl) (by decide) (lc_26 C0 hF hA hi6 hL hM hP hS hl kk)
        | 27, _, ek => exact lv_tableIn (tgt := 987) hx hb dL_33 h1 h2 (by rw [ek]; rfl) (by decide) (lc_27 C0 hF hA hi6 hL hM hP hS hl kk)
        | 28, _, ek => exact lv_tableIn (tgt := 1020) hx hb dL_33 h1 h2 (by rw [ek]; rfl) (by decide) (lc_28 C0 hF hA hi6 hL hM hP hS hl kk)
        | 29, _, ek => exact lv_tableIn (tgt := 1073) hx hb dL_33 h1 h2 (by rw [ek]; rfl) (by decide) (lc_29 C0 hF hA hi6 hL hM hP hS hl kk)
        | 30, _, ek => exact lv_tableIn (tgt := 1096) hx hb dL_33 h1 h2 (by rw [ek]; rfl) (by decide) (lc_30 C0 hF hA hi6 hL hM hP hS hl kk)
        | 31, _, ek => exact lv_tableIn (tgt := 1119) hx hb dL_33 h1 h2 (by rw [ek]; rfl) (by decide) (lc_31 C0 hF hA hi6 hL hM hP hS hl kk)
        | 32, _, ek => exact lv_tableIn (tgt := 1152) hx hb dL_33 h1 h2 (by rw [ek]; rfl) (by decide) (lc_32 C0 hF hA hi6 hL hM hP hS hl kk)
        | 33, _, ek => exact lv_tableIn (tgt := 1185) hx hb dL_33 h1 h2 (by rw [ek]; rfl) (by decide) (lc_33 C0 hF hA hi6 hL hM hP hS hl kk)
        | 34, _, ek => exact lv_tableIn (tgt := 1228) hx hb dL_33 h1 h2 (by rw [ek]; rfl) (by decide) (lc_34 C0 hF hA hi6 hL hM hP hS hl kk)
        | 35, _, ek => exact lv_tableIn (tgt := 1261) hx hb dL_33 h1 h2 (by rw [ek]; rfl) (by decide) (lc_35 C0 hF hA hi6 hL hM hP hS hl kk)
        | 36, _, ek => exact lv_tableIn (tgt := 1274) hx hb dL_33 h1 h2 (by rw [ek]; rfl) (by decide) (lc_36 C0 hF hA hi6 hL hM hP hS hl kk)
        | 37, _, ek => exact lv_tableIn (tgt := 1288) hx hb dL_33 h1 h2 (by rw [ek]; rfl) (by decide) (lc_37 C0 hF hA hi6 hL hM hP hS hl kk)
        | 38, _, ek => exact lv_tableIn (tgt := 1302) hx hb dL_33 h1 h2 (by rw [ek]; rfl) (by decide) (lc_38 C0 hF hA hi6 hL hM hP hS hl kk)
        | 39, _, ek => exact lv_tableIn (tgt := 1325) hx hb dL_33 h1 h2 (by rw [ek]; rfl) (by decide) (lc_39 C0 hF hA hi6 hL hM hP hS hl kk)
        | 40, _, ek => exact lv_tableIn (tgt := 1338) hx hb dL_33 h1 h2 (by rw [ek]; rfl) (by decide) (lc_40 C0 hF hA hi6 hL hM hP hS hl kk)
        | 41, _, ek => exact lv_tableIn (tgt := 1361) hx hb dL_33 h1 h2 (by rw [ek]; rfl) (by decide) (lc_41 C0 hF hA hi6 hL hM hP hS hl kk)
        | k + 42, hk, _ => exact absurd hk (by omega)
end LAWL
