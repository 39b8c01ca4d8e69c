theorem x_readFrom {G : wm_G} {M : wm_M} (C : wm_M) (w h s : Nat) (hQ : XQ C M w h s) (l z : Nat) (hL : LZ C l z) (st e b : Nat) (hst : st < w + h) (he : e < 2) (hb : b + z ≤ sLen w h st) : MD G t_X10_readFrom [wm_r G (96), .int (nI (l)), .int (nI (st)), .int (nI (e)), .int (nI (b))] (M) (some (.int (nI (levAt w h (C.1 18) (C.1 19) (C.1 20) (C.1 21) (C.1 (31 + l)) z s st e b)))) (M) := by
  obtain ⟨hW, hX, hXL, hCL, hCS, hLd⟩ := id hQ
  obtain ⟨x10, x11, x12, x103, x104, x105, x106⟩ := id hX
  have hn6 := TW_n hW
  have hw3 := hW.2.2.1
  have hh2 := hW.2.2.2
  have hz3 := hL.2.2.2
  have hl4 := hL.1
  have hlz : M.1 109 l = nI z := (hXL.1 l hl4).trans hL.2.1
  have hlw : ∀ i, i < z → M.1 110 (3 * l + i) = C.1 (31 + l) i := fun i hi => hXL.2 l hl4 z hz3 hL.2.1 i hi
  have hwd : ∀ i, i < z → ∃ x, x < 8 ∧ C.1 (31 + l) i = nI x := by
    rcases hCL l hl4 with q | ⟨z2, q, q2⟩
    · exact absurd (hL.2.1.symm.trans q) (nI_nem1 (by omega))
    · have e : z2 = z := (nI_eq (by have := q.2.2.2; omega) (by omega)).mp (q.2.1.symm.trans hL.2.1)
      subst e; exact q2
  have hlen : sLen w h st ≤ 3 := by unfold sLen; split <;> omega
  refine wm_met (by decide) (Nat.le_of_ble_eq_true rfl) ?_
  show WA G t_X10_readFrom (fun v_ N_ => v_ = some (.int (nI (levAt w h (C.1 18) (C.1 19) (C.1 20) (C.1 21) (C.1 (31 + l)) z s st e b))) ∧ N_ = M) 0 [(0, wm_r G (96)), (1, .int (nI (l))), (2, .int (nI (st))), (3, .int (nI (e))), (4, .int (nI (b)))] [] (M)
  refine wa_iconst (1) dX10_readFrom_0 (by decide) ?_
  refine wa_eqi (y := (wB (wAll (isR C w h s st e l b) 0))) (rfl) ?_
  refine wa_istore [(5, .int (wB (wAll (isR C w h s st e l b) 0))), (0, wm_r G (96)), (1, .int (nI (l))), (2, .int (nI (st))), (3, .int (nI (e))), (4, .int (nI (b)))] dX10_readFrom_1 (by decide) rfl ?_
  refine wa_iconst (1) dX10_readFrom_3 (by decide) ?_
  refine wa_eqi (y := (wB (wAll (perR C w h s st e l b) 0))) (rfl) ?_
  refine wa_istore [(6, .int (wB (wAll (perR C w h s st e l b) 0))), (5, .int (wB (wAll (isR C w h s st e l b) 0))), (0, wm_r G (96)), (1, .int (nI (l))), (2, .int (nI (st))), (3, .int (nI (e))), (4, .int (nI (b)))] dX10_readFrom_4 (by decide) rfl ?_
  refine wa_iconst (0) dX10_readFrom_6 (by decide) ?_
  refine wa_eqi (y := (wB (wAny (fun i => wornR C w h s st e (b + i)) 0))) (rfl) ?_
  refine wa_istore [(7, .int (wB (wAny (fun i => wornR C w h s st e (b + i)) 0))), (6, .int (wB (wAll (perR C w h s st e l b) 0))), (5, .int (wB (wAll (isR C w h s st e l b) 0))), (0, wm_r G (96)), (1, .int (nI (l))), (2, .int (nI (st))), (3, .int (nI (e))), (4, .int (nI (b)))] dX10_readFrom_7 (by decide) rfl ?_
  refine wa_iconst (0) dX10_readFrom_9 (by decide) ?_
  refine wa_istore [(8, .int (0)), (7, .int (wB (wAny (fun i => wornR C w h s st e (b + i)) 0))), (6, .int (wB (wAll (perR C w h s st e l b) 0))), (5, .int (wB (wAll (isR C w h s st e l b) 0))), (0, wm_r G (96)), (1, .int (nI (l))), (2, .int (nI (st))), (3, .int (nI (e))), (4, .int (nI (b)))] dX10_readFrom_10 (by decide) rfl ?_
  have L_12 : ∀ (n_ : Nat) (i : Nat), (z - i) < n_ → (i ≤ z) → WA G t_X10_readFrom (fun v_ N_ => v_ = some (.int (nI (levAt w h (C.1 18) (C.1 19) (C.1 20) (C.1 21) (C.1 (31 + l)) z s st e b))) ∧ N_ = M) 12 [(8, .int (nI (i))), (7, .int (wB (wAny (fun i => wornR C w h s st e (b + i)) i))), (6, .int (wB (wAll (perR C w h s st e l b) i))), (5, .int (wB (wAll (isR C w h s st e l b) i))), (0, wm_r G (96)), (1, .int (nI (l))), (2, .int (nI (st))), (3, .int (nI (e))), (4, .int (nI (b)))] [] (M) := by
    intro n_
    induction n_ with
    | zero => intro i h_; exact absurd h_ (Nat.not_lt_zero _)
    | succ n_ ih_12 =>
      intro i h_ hi
      refine wa_iload dX10_readFrom_12 0 rfl ?_
      refine wa_aload_n dX10_readFrom_14 rfl 4 rfl ?_
      refine wa_getr gX10_readFrom_15 (rfl) rfl ?_
      refine wa_iload_n dX10_readFrom_18 rfl 5 rfl ?_
      refine wa_ialdN (e := l) dX10_readFrom_19 (rfl) (by omega) (by decide) ?_
      refine wa_eqi (y := (nI (z))) (hlz) ?_
      refine wa_icmp_geN (a := i) (b := z) 164 dX10_readFrom_20 (by decide) (by omega) (by omega) (fun c_20 => ?_) (fun c_20 => ?_)
      · have hiz : i = z := by omega
        subst hiz
        refine wa_iload dX10_readFrom_164 3 rfl ?_
        refine wa_if_eqB 182 dX10_readFrom_166 (by decide) (fun (c_166 : (wAll (isR C w h s st e l b) i) = false) => ?_) (fun (c_166 : (wAll (isR C w h s st e l b) i) = true) => ?_)
        · refine wa_iload dX10_readFrom_182 2 rfl ?_
          refine wa_if_eqB 191 dX10_readFrom_184 (by decide) (fun (c_184 : (wAll (perR C w h s st e l b) i) = false) => ?_) (fun (c_184 : (wAll (perR C w h s st e l b) i) = true) => ?_)
          · refine wa_iconst (0) dX10_readFrom_191 (by decide) ?_
            exact wa_iret dX10_readFrom_192 rfl ⟨congrArg (fun z => some (Value.int z)) (by rw [levAt_m hCS hst hb hwd]; unfold lvF; first | (rw [c_166, c_171]; rfl) | (rw [c_166, c_184]; rfl)), rfl⟩
          · refine wa_iconst (1) dX10_readFrom_187 (by decide) ?_
            refine wa_goto 192 dX10_readFrom_188 (by decide) ?_
            exact wa_iret dX10_readFrom_192 rfl ⟨congrArg (fun z => some (Value.int z)) (by rw [levAt_m hCS hst hb hwd]; unfold lvF; first | (rw [c_166, c_171]; rfl) | (rw [c_166, c_184]; rfl)), rfl⟩
        · refine wa_iload dX10_readFrom_169 1 rfl ?_
          refine wa_if_eqB 178 dX10_readFrom_171 (by decide) (fun (c_171 : (wAny (fun i => wornR C w h s st e (b + i)) i) = false) => ?_) (fun (c_171 : (wAny (fun i => wornR C w h s st e (b + i)) i) = true) => ?_)
          · refine wa_iconst (3) dX10_readFrom_178 (by decide) ?_
            refine wa_goto 192 dX10_readFrom_179 (by decide) ?_
            exact wa_iret dX10_readFrom_192 rfl ⟨congrArg (fun z => some (Value.int z)) (by rw [levAt_m hCS hst hb hwd]; unfold lvF; first | (rw [c_166, c_171]; rfl) | (rw [c_166, c_184]; rfl)), rfl⟩
          · refine wa_iconst (2) dX10_readFrom_174 (by decide) ?_
            refine wa_goto 192 dX10_readFrom_175 (by decide) ?_
            exact wa_iret dX10_readFrom_192 rfl ⟨congrArg (fun z => some (Value.int z)) (by rw [levAt_m hCS hst hb hwd]; unfold lvF; first | (rw [c_166, c_171]; rfl) | (rw [c_166, c_184]; rfl)), rfl⟩
      · refine wa_aload_n dX10_readFrom_23 rfl 4 rfl ?_
        refine wa_iload_n dX10_readFrom_24 rfl 6 rfl ?_
        refine wa_iload_n dX10_readFrom_25 rfl 7 rfl ?_
        refine wa_iload dX10_readFrom_26 8 rfl ?_
        refine wa_iload dX10_readFrom_28 0 rfl ?_
        refine wa_iaddN (a := b) (b := i) dX10_readFrom_30 ?_
        refine wa_cVi (x_wordAt C w h hX hW st e (b + i) hst he (by omega) s hLd) vX10_wordAt iX10_readFrom_31 (rfl) rfl rfl rfl (Nat.le_of_ble_eq_true rfl) ⟨by decide, by decide⟩ ?_
        refine wa_istore [(9, .int (wordR C w h s st e (b + i))), (8, .int (nI (i))), (7, .int (wB (wAny (fun i => wornR C w h s st e (b + i)) i))), (6, .int (wB (wAll (perR C w h s st e l b) i))), (5, .int (wB (wAll (isR C w h s st e l b) i))), (0, wm_r G (96)), (1, .int (nI (l))), (2, .int (nI (st))), (3, .int (nI (e))), (4, .int (nI (b)))] dX10_readFrom_34 (by decide) rfl ?_
        refine wa_iload dX10_readFrom_36 0 rfl ?_
        refine wa_aload_n dX10_readFrom_38 rfl 5 rfl ?_
        refine wa_getr gX10_readFrom_39 (rfl) rfl ?_
        refine wa_iconst (3) dX10_readFrom_42 (by decide) ?_
        refine wa_iload_n dX10_readFrom_43 rfl 6 rfl ?_
        refine wa_imulN (a := 3) (b := l) dX10_readFrom_44 ?_
        refine wa_iload dX10_readFrom_45 1 rfl ?_
        refine wa_iaddN (a := 3 * l) (b := i) dX10_readFrom_47 ?_
        refine wa_ialdN (e := 3 * l + i) dX10_readFrom_48 (rfl) (by omega) (by decide) ?_
        refine wa_eqi (y := (C.1 (31 + l) i)) (hlw i (by omega)) ?_
        refine wa_icmp_ne 56 dX10_readFrom_49 (by decide) (fun c_49 => ?_) (fun c_49 => ?_)
        · refine wa_iconst (0) dX10_readFrom_56 (by decide) ?_
          refine wa_eqi (y := (wB (isR C w h s st e l b i))) (by unfold isR; first | (rw [decide_eq_true c_49]; rfl) | (rw [decide_eq_false c_49]; rfl)) ?_
          refine wa_istore [(10, .int (wB (isR C w h s st e l b i))), (9, .int (wordR C w h s st e (b + i))), (8, .int (nI (i))), (7, .int (wB (wAny (fun i => wornR C w h s st e (b + i)) i))), (6, .int (wB (wAll (perR C w h s st e l b) i))), (5, .int (wB (wAll (isR C w h s st e l b) i))), (0, wm_r G (96)), (1, .int (nI (l))), (2, .int (nI (st))), (3, .int (nI (e))), (4, .int (nI (b)))] dX10_readFrom_57 (by decide) rfl ?_
          have L_59 : WA G t_X10_readFrom (fun v_ N_ => v_ = some (.int (nI (levAt w h (C.1 18) (C.1 19) (C.1 20) (C.1 21) (C.1 (31 + l)) z s st e b))) ∧ N_ = M) 59 [(10, .int (wB (isR C w h s st e l b i))), (8, .int (nI (i))), (7, .int (wB (wAny (fun i => wornR C w h s st e (b + i)) i))), (6, .int (wB (wAll (perR C w h s st e l b) i))), (5, .int (wB (wAll (isR C w h s st e l b) i))), (0, wm_r G (96)), (1, .int (nI (l))), (2, .int (nI (st))), (3, .int (nI (e))), (4, .int (nI (b)))] [] (M) := by
            refine wa_aload_n dX10_readFrom_59 rfl 5 rfl ?_
            refine wa_iload_n dX10_readFrom_60 rfl 7 rfl ?_
            refine wa_iload_n dX10_readFrom_61 rfl 8 rfl ?_
            refine wa_iload dX10_readFrom_62 9 rfl ?_
            refine wa_iload dX10_readFrom_64 1 rfl ?_
            refine wa_iaddN (a := b) (b := i) dX10_readFrom_66 ?_
            refine wa_cVi (x_isWornAt C w h hX hW st e (b + i) hst he (by omega) s hLd) vX10_isWornAt iX10_readFrom_67 (rfl) rfl rfl rfl (Nat.le_of_ble_eq_true rfl) ⟨by decide, by decide⟩ ?_
            refine wa_istore [(11, .int (wB (wornR C w h s st e (b + i)))), (10, .int (wB (isR C w h s st e l b i))), (8, .int (nI (i))), (7, .int (wB (wAny (fun i => wornR C w h s st e (b + i)) i))), (6, .int (wB (wAll (perR C w h s st e l b) i))), (5, .int (wB (wAll (isR C w h s st e l b) i))), (0, wm_r G (96)), (1, .int (nI (l))), (2, .int (nI (st))), (3, .int (nI (e))), (4, .int (nI (b)))] dX10_readFrom_70 (by decide) rfl ?_
            refine wa_iload dX10_readFrom_72 5 rfl ?_
            refine wa_if_eqB 86 dX10_readFrom_74 (by decide) (fun (c_74 : (wAll (isR C w h s st e l b) i) = false) => ?_) (fun (c_74 : (wAll (isR C w h s st e l b) i) = true) => ?_)
            · refine wa_iconst (0) dX10_readFrom_86 (by decide) ?_
              refine wa_eqi (y := (wB (wAll (isR C w h s st e l b) (i + 1)))) (by rw [wAll_s]; first | (rw [c_74, c_79]; rfl) | (rw [c_74]; rfl)) ?_
              refine wa_istore [(5, .int (wB (wAll (isR C w h s st e l b) (i + 1)))), (11, .int (wB (wornR C w h s st e (b + i)))), (10, .int (wB (isR C w h s st e l b i))), (8, .int (nI (i))), (7, .int (wB (wAny (fun i => wornR C w h s st e (b + i)) i))), (6, .int (wB (wAll (perR C w h s st e l b) i))), (0, wm_r G (96)), (1, .int (nI (l))), (2, .int (nI (st))), (3, .int (nI (e))), (4, .int (nI (b)))] dX10_readFrom_87 (by decide) rfl ?_
              have L_89 : WA G t_X10_readFrom (fun v_ N_ => v_ = some (.int (nI (levAt w h (C.1 18) (C.1 19) (C.1 20) (C.1 21) (C.1 (31 + l)) z s st e b))) ∧ N_ = M) 89 [(5, .int (wB (wAll (isR C w h s st e l b) (i + 1)))), (11, .int (wB (wornR C w h s st e (b + i)))), (10, .int (wB (isR C w h s st e l b i))), (8, .int (nI (i))), (7, .int (wB (wAny (fun i => wornR C w h s st e (b + i)) i))), (6, .int (wB (wAll (perR C w h s st e l b) i))), (0, wm_r G (96)), (1, .int (nI (l))), (2, .int (nI (st))), (3, .int (nI (e))), (4, .int (nI (b)))] [] (M) := by
                refine wa_iload dX10_readFrom_89 5 rfl ?_
                refine wa_if_eqB 138 dX10_readFrom_91 (by decide) (fun (c_91 : (wAll (perR C w h s st e l b) i) = false) => ?_) (fun (c_91 : (wAll (perR C w h s st e l b) i) = true) => ?_)
                · refine wa_iconst (0) dX10_readFrom_138 (by decide) ?_
                  refine wa_eqi (y := (wB (wAll (perR C w h s st e l b) (i + 1)))) (by rw [wAll_s]; unfold perR; first | (rw [c_91]; rfl) | (rw [show wAll (fun j => isR C w h s st e l b j || (wornR C w h s st e (b + j) && decide (C.1 21 (sAt w h st e (b + j)) = C.1 (31 + l) j))) i = true from c_91]; first | (rw [c_96]; rfl) | (rw [c_96, c_101]; rfl) | (rw [c_96, c_101, decide_eq_true c_131]; rfl) | (rw [c_96, c_101, decide_eq_false c_131]; rfl)) | (rw [show wAll (fun j => isR C w h s st e l b j || (wornR C w h s st e (b + j) && decide (C.1 21 (sAt w h st e (b + j)) = C.1 (31 + l) j))) i = false from c_91]; rfl)) ?_
                  refine wa_istore [(6, .int (wB (wAll (perR C w h s st e l b) (i + 1)))), (5, .int (wB (wAll (isR C w h s st e l b) (i + 1)))), (11, .int (wB (wornR C w h s st e (b + i)))), (10, .int (wB (isR C w h s st e l b i))), (8, .int (nI (i))), (7, .int (wB (wAny (fun i => wornR C w h s st e (b + i)) i))), (0, wm_r G (96)), (1, .int (nI (l))), (2, .int (nI (st))), (3, .int (nI (e))), (4, .int (nI (b)))] dX10_readFrom_139 (by decide) rfl ?_
                  have L_141 : WA G t_X10_readFrom (fun v_ N_ => v_ = some (.int (nI (levAt w h (C.1 18) (C.1 19) (C.1 20) (C.1 21) (C.1 (31 + l)) z s st e b))) ∧ N_ = M) 141 [(6, .int (wB (wAll (perR C w h s st e l b) (i + 1)))), (5, .int (wB (wAll (isR C w h s st e l b) (i + 1)))), (11, .int (wB (wornR C w h s st e (b + i)))), (8, .int (nI (i))), (7, .int (wB (wAny (fun i => wornR C w h s st e (b + i)) i))), (0, wm_r G (96)), (1, .int (nI (l))), (2, .int (nI (st))), (3, .int (nI (e))), (4, .int (nI (b)))] [] (M) := by
                    refine wa_iload dX10_readFrom_141 4 rfl ?_
                    refine wa_if_neB 151 dX10_readFrom_143 (by decide) (fun (c_143 : (wAny (fun i => wornR C w h s st e (b + i)) i) = true) => ?_) (fun (c_143 : (wAny (fun i => wornR C w h s st e (b + i)) i) = false) => ?_)
                    · refine wa_iconst (1) dX10_readFrom_151 (by decide) ?_
                      refine wa_goto 156 dX10_readFrom_152 (by decide) ?_
                      refine wa_eqi (y := (wB (wAny (fun i => wornR C w h s st e (b + i)) (i + 1)))) (by rw [wAny_s]; first | (rw [c_143]; rfl) | (rw [c_143, show wornR C w h s st e (b + i) = _ from c_148]; rfl)) ?_
                      refine wa_istore [(7, .int (wB (wAny (fun i => wornR C w h s st e (b + i)) (i + 1)))), (6, .int (wB (wAll (perR C w h s st e l b) (i + 1)))), (5, .int (wB (wAll (isR C w h s st e l b) (i + 1)))), (11, .int (wB (wornR C w h s st e (b + i)))), (8, .int (nI (i))), (0, wm_r G (96)), (1, .int (nI (l))), (2, .int (nI (st))), (3, .int (nI (e))), (4, .int (nI (b)))] dX10_readFrom_156 (by decide) rfl ?_
                      refine wa_iinc ((nI (i + 1))) [(8, .int (nI (i + 1))), (7, .int (wB (wAny (fun i => wornR C w h s st e (b + i)) (i + 1)))), (6, .int (wB (wAll (perR C w h s st e l b) (i + 1)))), (5, .int (wB (wAll (isR C w h s st e l b) (i + 1)))), (11, .int (wB (wornR C w h s st e (b + i)))), (0, wm_r G (96)), (1, .int (nI (l))), (2, .int (nI (st))), (3, .int (nI (e))), (4, .int (nI (b)))] dX10_readFrom_158 4 rfl (nI_inc _) (by decide) rfl ?_
                      refine wa_goto 12 dX10_readFrom_161 (by decide) ?_
                      refine wa_sub [0, 1, 2, 3, 5, 6, 7, 8, 9] rfl ?_
                      exact ih_12 (i + 1) (by omega) (by omega)
                    · refine wa_iload dX10_readFrom_146 2 rfl ?_
                      refine wa_if_eqB 155 dX10_readFrom_148 (by decide) (fun (c_148 : (wornR C w h s st e (b + i)) = false) => ?_) (fun (c_148 : (wornR C w h s st e (b + i)) = true) => ?_)
                      · refine wa_iconst (0) dX10_readFrom_155 (by decide) ?_
                        refine wa_eqi (y := (wB (wAny (fun i => wornR C w h s st e (b + i)) (i + 1)))) (by rw [wAny_s]; first | (rw [c_143]; rfl) | (rw [c_143, show wornR C w h s st e (b + i) = _ from c_148]; rfl)) ?_
                        refine wa_istore [(7, .int (wB (wAny (fun i => wornR C w h s st e (b + i)) (i + 1)))), (6, .int (wB (wAll (perR C w h s st e l b) (i + 1)))), (5, .int (wB (wAll (isR C w h s st e l b) (i + 1)))), (11, .int (wB (wornR C w h s st e (b + i)))), (8, .int (nI (i))), (0, wm_r G (96)), (1, .int (nI (l))), (2, .int (nI (st))), (3, .int (nI (e))), (4, .int (nI (b)))] dX10_readFrom_156 (by decide) rfl ?_
                        refine wa_iinc ((nI (i + 1))) [(8, .int (nI (i + 1))), (7, .int (wB (wAny (fun i => wornR C w h s st e (b + i)) (i + 1)))), (6, .int (wB (wAll (perR C w h s st e l b) (i + 1)))), (5, .int (wB (wAll (isR C w h s st e l b) (i + 1)))), (11, .int (wB (wornR C w h s st e (b + i)))), (0, wm_r G (96)), (1, .int (nI (l))), (2, .int (nI (st))), (3, .int (nI (e))), (4, .int (nI (b)))] dX10_readFrom_158 4 rfl (nI_inc _) (by decide) rfl ?_
                        refine wa_goto 12 dX10_readFrom_161 (by decide) ?_
                        refine wa_sub [0, 1, 2, 3, 5, 6, 7, 8, 9] rfl ?_
                        exact ih_12 (i + 1) (by omega) (by omega)
                      · refine wa_iconst (1) dX10_readFrom_151 (by decide) ?_
                        refine wa_goto 156 dX10_readFrom_152 (by decide) ?_
                        refine wa_eqi (y := (wB (wAny (fun i => wornR C w h s st e (b + i)) (i + 1)))) (by rw [wAny_s]; first | (rw [c_143]; rfl) | (rw [c_143, show wornR C w h s st e (b + i) = _ from c_148]; rfl)) ?_
                        refine wa_istore [(7, .int (wB (wAny (fun i => wornR C w h s st e (b + i)) (i + 1)))), (6, .int (wB (wAll (perR C w h s st e l b) (i + 1)))), (5, .int (wB (wAll (isR C w h s st e l b) (i + 1)))), (11, .int (wB (wornR C w h s st e (b + i)))), (8, .int (nI (i))), (0, wm_r G (96)), (1, .int (nI (l))), (2, .int (nI (st))), (3, .int (nI (e))), (4, .int (nI (b)))] dX10_readFrom_156 (by decide) rfl ?_
                        refine wa_iinc ((nI (i + 1))) [(8, .int (nI (i + 1))), (7, .int (wB (wAny (fun i => wornR C w h s st e (b + i)) (i + 1)))), (6, .int (wB (wAll (perR C w h s st e l b) (i + 1)))), (5, .int (wB (wAll (isR C w h s st e l b) (i + 1)))), (11, .int (wB (wornR C w h s st e (b + i)))), (0, wm_r G (96)), (1, .int (nI (l))), (2, .int (nI (st))), (3, .int (nI (e))), (4, .int (nI (b)))] dX10_readFrom_158 4 rfl (nI_inc _) (by decide) rfl ?_
                        refine wa_goto 12 dX10_readFrom_161 (by decide) ?_
                        refine wa_sub [0, 1, 2, 3, 5, 6, 7, 8, 9] rfl ?_
                        exact ih_12 (i + 1) (by omega) (by omega)
                  refine wa_sub [0, 1, 2, 4, 5, 6, 7, 8, 9, 10] rfl ?_
                  exact L_141  
                · refine wa_iload dX10_readFrom_94 2 rfl ?_
                  refine wa_if_neB 134 dX10_readFrom_96 (by decide) (fun (c_96 : (isR C w h s st e l b i) = true) => ?_) (fun (c_96 : (isR C w h s st e l b i) = false) => ?_)
                  · refine wa_iconst (1) dX10_readFrom_134 (by decide) ?_
                    refine wa_goto 139 dX10_readFrom_135 (by decide) ?_
                    refine wa_eqi (y := (wB (wAll (perR C w h s st e l b) (i + 1)))) (by rw [wAll_s]; unfold perR; first | (rw [c_91]; rfl) | (rw [show wAll (fun j => isR C w h s st e l b j || (wornR C w h s st e (b + j) && decide (C.1 21 (sAt w h st e (b + j)) = C.1 (31 + l) j))) i = true from c_91]; first | (rw [c_96]; rfl) | (rw [c_96, c_101]; rfl) | (rw [c_96, c_101, decide_eq_true c_131]; rfl) | (rw [c_96, c_101, decide_eq_false c_131]; rfl)) | (rw [show wAll (fun j => isR C w h s st e l b j || (wornR C w h s st e (b + j) && decide (C.1 21 (sAt w h st e (b + j)) = C.1 (31 + l) j))) i = false from c_91]; rfl)) ?_
                    refine wa_istore [(6, .int (wB (wAll (perR C w h s st e l b) (i + 1)))), (5, .int (wB (wAll (isR C w h s st e l b) (i + 1)))), (11, .int (wB (wornR C w h s st e (b + i)))), (10, .int (wB (isR C w h s st e l b i))), (8, .int (nI (i))), (7, .int (wB (wAny (fun i => wornR C w h s st e (b + i)) i))), (0, wm_r G (96)), (1, .int (nI (l))), (2, .int (nI (st))), (3, .int (nI (e))), (4, .int (nI (b)))] dX10_readFrom_139 (by decide) rfl ?_
                    have L_141 : WA G t_X10_readFrom (fun v_ N_ => v_ = some (.int (nI (levAt w h (C.1 18) (C.1 19) (C.1 20) (C.1 21) (C.1 (31 + l)) z s st e b))) ∧ N_ = M) 141 [(6, .int (wB (wAll (perR C w h s st e l b) (i + 1)))), (5, .int (wB (wAll (isR C w h s st e l b) (i + 1)))), (11, .int (wB (wornR C w h s st e (b + i)))), (8, .int (nI (i))), (7, .int (wB (wAny (fun i => wornR C w h s st e (b + i)) i))), (0, wm_r G (96)), (1, .int (nI (l))), (2, .int (nI (st))), (3, .int (nI (e))), (4, .int (nI (b)))] [] (M) := by
                      refine wa_iload dX10_readFrom_141 4 rfl ?_
                      refine wa_if_neB 151 dX10_readFrom_143 (by decide) (fun (c_143 : (wAny (fun i => wornR C w h s st e (b + i)) i) = true) => ?_) (fun (c_143 : (wAny (fun i => wornR C w h s st e (b + i)) i) = false) => ?_)
                      · refine wa_iconst (1) dX10_readFrom_151 (by decide) ?_
                        refine wa_goto 156 dX10_readFrom_152 (by decide) ?_
                        refine wa_eqi (y := (wB (wAny (fun i => wornR C w h s st e (b + i)) (i + 1)))) (by rw [wAny_s]; first | (rw [c_143]; rfl) | (rw [c_143, show wornR C w h s st e (b + i) = _ from c_148]; rfl)) ?_
                        refine wa_istore [(7, .int (wB (wAny (fun i => wornR C w h s st e (b + i)) (i + 1)))), (6, .int (wB (wAll (perR C w h s st e l b) (i + 1)))), (5, .int (wB (wAll (isR C w h s st e l b) (i + 1)))), (11, .int (wB (wornR C w h s st e (b + i)))), (8, .int (nI (i))), (0, wm_r G (96)), (1, .int (nI (l))), (2, .int (nI (st))), (3, .int (nI (e))), (4, .int (nI (b)))] dX10_readFrom_156 (by decide) rfl ?_
                        refine wa_iinc ((nI (i + 1))) [(8, .int (nI (i + 1))), (7, .int (wB (wAny (fun i => wornR C w h s st e (b + i)) (i + 1)))), (6, .int (wB (wAll (perR C w h s st e l b) (i + 1)))), (5, .int (wB (wAll (isR C w h s st e l b) (i + 1)))), (11, .int (wB (wornR C w h s st e (b + i)))), (0, wm_r G (96)), (1, .int (nI (l))), (2, .int (nI (st))), (3, .int (nI (e))), (4, .int (nI (b)))] dX10_readFrom_158 4 rfl (nI_inc _) (by decide) rfl ?_
                        refine wa_goto 12 dX10_readFrom_161 (by decide) ?_
                        refine wa_sub [0, 1, 2, 3, 5, 6, 7, 8, 9] rfl ?_
                        exact ih_12 (i + 1) (by omega) (by omega)
                      · refine wa_iload dX10_readFrom_146 2 rfl ?_
                        refine wa_if_eqB 155 dX10_readFrom_148 (by decide) (fun (c_148 : (wornR C w h s st e (b + i)) = false) => ?_) (fun (c_148 : (wornR C w h s st e (b + i)) = true) => ?_)
                        · refine wa_iconst (0) dX10_readFrom_155 (by decide) ?_
                          refine wa_eqi (y := (wB (wAny (fun i => wornR C w h s st e (b + i)) (i + 1)))) (by rw [wAny_s]; first | (rw [c_143]; rfl) | (rw [c_143, show wornR C w h s st e (b + i) = _ from c_148]; rfl)) ?_
                          refine wa_istore [(7, .int (wB (wAny (fun i => wornR C w h s st e (b + i)) (i + 1)))), (6, .int (wB (wAll (perR C w h s st e l b) (i + 1)))), (5, .int (wB (wAll (isR C w h s st e l b) (i + 1)))), (11, .int (wB (wornR C w h s st e (b + i)))), (8, .int (nI (i))), (0, wm_r G (96)), (1, .int (nI (l))), (2, .int (nI (st))), (3, .int (nI (e))), (4, .int (nI (b)))] dX10_readFrom_156 (by decide) rfl ?_
                          refine wa_iinc ((nI (i + 1))) [(8, .int (nI (i + 1))), (7, .int (wB (wAny (fun i => wornR C w h s st e (b + i)) (i + 1)))), (6, .int (wB (wAll (perR C w h s st e l b) (i + 1)))), (5, .int (wB (wAll (isR C w h s st e l b) (i + 1)))), (11, .int (wB (wornR C w h s st e (b + i)))), (0, wm_r G (96)), (1, .int (nI (l))), (2, .int (nI (st))), (3, .int (nI (e))), (4, .int (nI (b)))] dX10_readFrom_158 4 rfl (nI_inc _) (by decide) rfl ?_
                          refine wa_goto 12 dX10_readFrom_161 (by decide) ?_
                          refine wa_sub [0, 1, 2, 3, 5, 6, 7, 8, 9] rfl ?_
                          exact ih_12 (i + 1) (by omega) (by omega)
                        · refine wa_iconst (1) dX10_readFrom_151 (by decide) ?_
                          refine wa_goto 156 dX10_readFrom_152 (by decide) ?_
                          refine wa_eqi (y := (wB (wAny (fun i => wornR C w h s st e (b + i)) (i + 1)))) (by rw [wAny_s]; first | (rw [c_143]; rfl) | (rw [c_143, show wornR C w h s st e (b + i) = _ from c_148]; rfl)) ?_
                          refine wa_istore [(7, .int (wB (wAny (fun i => wornR C w h s st e (b + i)) (i + 1)))), (6, .int (wB (wAll (perR C w h s st e l b) (i + 1)))), (5, .int (wB (wAll (isR C w h s st e l b) (i + 1)))), (11, .int (wB (wornR C w h s st e (b + i)))), (8, .int (nI (i))), (0, wm_r G (96)), (1, .int (nI (l))), (2, .int (nI (st))), (3, .int (nI (e))), (4, .int (nI (b)))] dX10_readFrom_156 (by decide) rfl ?_
                          refine wa_iinc ((nI (i + 1))) [(8, .int (nI (i + 1))), (7, .int (wB (wAny (fun i => wornR C w h s st e (b + i)) (i + 1)))), (6, .int (wB (wAll (perR C w h s st e l b) (i + 1)))), (5, .int (wB (wAll (isR C w h s st e l b) (i + 1)))), (11, .int (wB (wornR C w h s st e (b + i)))), (0, wm_r G (96)), (1, .int (nI (l))), (2, .int (nI (st))), (3, .int (nI (e))), (4, .int (nI (b)))] dX10_readFrom_158 4 rfl (nI_inc _) (by decide) rfl ?_
                          refine wa_goto 12 dX10_readFrom_161 (by decide) ?_
                          refine wa_sub [0, 1, 2, 3, 5, 6, 7, 8, 9] rfl ?_
                          exact ih_12 (i + 1) (by omega) (by omega)
                    refine wa_sub [0, 1, 2, 4, 5, 6, 7, 8, 9, 10] rfl ?_
                    exact L_141  
                  · refine wa_iload dX10_readFrom_99 1 rfl ?_
                    refine wa_if_eqB 138 dX10_readFrom_101 (by decide) (fun (c_101 : (wornR C w h s st e (b + i)) = false) => ?_) (fun (c_101 : (wornR C w h s st e (b + i)) = true) => ?_)
                    · refine wa_iconst (0) dX10_readFrom_138 (by decide) ?_
                      refine wa_eqi (y := (wB (wAll (perR C w h s st e l b) (i + 1)))) (by rw [wAll_s]; unfold perR; first | (rw [c_91]; rfl) | (rw [show wAll (fun j => isR C w h s st e l b j || (wornR C w h s st e (b + j) && decide (C.1 21 (sAt w h st e (b + j)) = C.1 (31 + l) j))) i = true from c_91]; first | (rw [c_96]; rfl) | (rw [c_96, c_101]; rfl) | (rw [c_96, c_101, decide_eq_true c_131]; rfl) | (rw [c_96, c_101, decide_eq_false c_131]; rfl)) | (rw [show wAll (fun j => isR C w h s st e l b j || (wornR C w h s st e (b + j) && decide (C.1 21 (sAt w h st e (b + j)) = C.1 (31 + l) j))) i = false from c_91]; rfl)) ?_
                      refine wa_istore [(6, .int (wB (wAll (perR C w h s st e l b) (i + 1)))), (5, .int (wB (wAll (isR C w h s st e l b) (i + 1)))), (11, .int (wB (wornR C w h s st e (b + i)))), (10, .int (wB (isR C w h s st e l b i))), (8, .int (nI (i))), (7, .int (wB (wAny (fun i => wornR C w h s st e (b + i)) i))), (0, wm_r G (96)), (1, .int (nI (l))), (2, .int (nI (st))), (3, .int (nI (e))), (4, .int (nI (b)))] dX10_readFrom_139 (by decide) rfl ?_
                      have L_141 : WA G t_X10_readFrom (fun v_ N_ => v_ = some (.int (nI (levAt w h (C.1 18) (C.1 19) (C.1 20) (C.1 21) (C.1 (31 + l)) z s st e b))) ∧ N_ = M) 141 [(6, .int (wB (wAll (perR C w h s st e l b) (i + 1)))), (5, .int (wB (wAll (isR C w h s st e l b) (i + 1)))), (11, .int (wB (wornR C w h s st e (b + i)))), (8, .int (nI (i))), (7, .int (wB (wAny (fun i => wornR C w h s st e (b + i)) i))), (0, wm_r G (96)), (1, .int (nI (l))), (2, .int (nI (st))), (3, .int (nI (e))), (4, .int (nI (b)))] [] (M) := by
                        refine wa_iload dX10_readFrom_141 4 rfl ?_
                        refine wa_if_neB 151 dX10_readFrom_143 (by decide) (fun (c_143 : (wAny (fun i => wornR C w h s st e (b + i)) i) = true) => ?_) (fun (c_143 : (wAny (fun i => wornR C w h s st e (b + i)) i) = false) => ?_)
                        · refine wa_iconst (1) dX10_readFrom_151 (by decide) ?_
                          refine wa_goto 156 dX10_readFrom_152 (by decide) ?_
                          refine wa_eqi (y := (wB (wAny (fun i => wornR C w h s st e (b + i)) (i + 1)))) (by rw [wAny_s]; first | (rw [c_143]; rfl) | (rw [c_143, show wornR C w h s st e (b + i) = _ from c_148]; rfl)) ?_
                          refine wa_istore [(7, .int (wB (wAny (fun i => wornR C w h s st e (b + i)) (i + 1)))), (6, .int (wB (wAll (perR C w h s st e l b) (i + 1)))), (5, .int (wB (wAll (isR C w h s st e l b) (i + 1)))), (11, .int (wB (wornR C w h s st e (b + i)))), (8, .int (nI (i))), (0, wm_r G (96)), (1, .int (nI (l))), (2, .int (nI (st))), (3, .int (nI (e))), (4, .int (nI (b)))] dX10_readFrom_156 (by decide) rfl ?_
                          refine wa_iinc ((nI (i + 1))) [(8, .int (nI (i + 1))), (7, .int (wB (wAny (fun i => wornR C w h s st e (b + i)) (i + 1)))), (6, .int (wB (wAll (perR C w h s st e l b) (i + 1)))), (5, .int (wB (wAll (isR C w h s st e l b) (i + 1)))), (11, .int (wB (wornR C w h s st e (b + i)))), (0, wm_r G (96)), (1, .int (nI (l))), (2, .int (nI (st))), (3, .int (nI (e))), (4, .int (nI (b)))] dX10_readFrom_158 4 rfl (nI_inc _) (by decide) rfl ?_
                          refine wa_goto 12 dX10_readFrom_161 (by decide) ?_
                          refine wa_sub [0, 1, 2, 3, 5, 6, 7, 8, 9] rfl ?_
                          exact ih_12 (i + 1) (by omega) (by omega)
                        · refine wa_iload dX10_readFrom_146 2 rfl ?_
                          refine wa_if_eqB 155 dX10_readFrom_148 (by decide) (fun (c_148 : (wornR C w h s st e (b + i)) = false) => ?_) (fun (c_148 : (wornR C w h s st e (b + i)) = true) => ?_)
                          · refine wa_iconst (0) dX10_readFrom_155 (by decide) ?_
                            refine wa_eqi (y := (wB (wAny (fun i => wornR C w h s st e (b + i)) (i + 1)))) (by rw [wAny_s]; first | (rw [c_143]; rfl) | (rw [c_143, show wornR C w h s st e (b + i) = _ from c_148]; rfl)) ?_
                            refine wa_istore [(7, .int (wB (wAny (fun i => wornR C w h s st e (b + i)) (i + 1)))), (6, .int (wB (wAll (perR C w h s st e l b) (i + 1)))), (5, .int (wB (wAll (isR C w h s st e l b) (i + 1)))), (11, .int (wB (wornR C w h s st e (b + i)))), (8, .int (nI (i))), (0, wm_r G (96)), (1, .int (nI (l))), (2, .int (nI (st))), (3, .int (nI (e))), (4, .int (nI (b)))] dX10_readFrom_156 (by decide) rfl ?_
                            refine wa_iinc ((nI (i + 1))) [(8, .int (nI (i + 1))), (7, .int (wB (wAny (fun i => wornR C w h s st e (b + i)) (i + 1)))), (6, .int (wB (wAll (perR C w h s st e l b) (i + 1)))), (5, .int (wB (wAll (isR C w h s st e l b) (i + 1)))), (11, .int (wB (wornR C w h s st e (b + i)))), (0, wm_r G (96)), (1, .int (nI (l))), (2, .int (nI (st))), (3, .int (nI (e))), (4, .int (nI (b)))] dX10_readFrom_158 4 rfl (nI_inc _) (by decide) rfl ?_
                            refine wa_goto 12 dX10_readFrom_161 (by decide) ?_
                            refine wa_sub [0, 1, 2, 3, 5, 6, 7, 8, 9] rfl ?_
                            exact ih_12 (i + 1) (by omega) (by omega)
                          · refine wa_iconst (1) dX10_readFrom_151 (by decide) ?_
                            refine wa_goto 156 dX10_readFrom_152 (by decide) ?_
                            refine wa_eqi (y := (wB (wAny (fun i => wornR C w h s st e (b + i)) (i + 1)))) (by rw [wAny_s]; first | (rw [c_143]; rfl) | (rw [c_143, show wornR C w h s st e (b + i) = _ from c_148]; rfl)) ?_
                            refine wa_istore [(7, .int (wB (wAny (fun i => wornR C w h s st e (b + i)) (i + 1)))), (6, .int (wB (wAll (perR C w h s st e l b) (i + 1)))), (5, .int (wB (wAll (isR C w h s st e l b) (i + 1)))), (11, .int (wB (wornR C w h s st e (b + i)))), (8, .int (nI (i))), (0, wm_r G (96)), (1, .int (nI (l))), (2, .int (nI (st))), (3, .int (nI (e))), (4, .int (nI (b)))] dX10_readFrom_156 (by decide) rfl ?_
                            refine wa_iinc ((nI (i + 1))) [(8, .int (nI (i + 1))), (7, .int (wB (wAny (fun i => wornR C w h s st e (b + i)) (i + 1)))), (6, .int (wB (wAll (perR C w h s st e l b) (i + 1)))), (5, .int (wB (wAll (isR C w h s st e l b) (i + 1)))), (11, .int (wB (wornR C w h s st e (b + i)))), (0, wm_r G (96)), (1, .int (nI (l))), (2, .int (nI (st))), (3, .int (nI (e))), (4, .int (nI (b)))] dX10_readFrom_158 4 rfl (nI_inc _) (by decide) rfl ?_
                            refine wa_goto 12 dX10_readFrom_161 (by decide) ?_
                            refine wa_sub [0, 1, 2, 3, 5, 6, 7, 8, 9] rfl ?_
                            exact ih_12 (i + 1) (by omega) (by omega)
                      refine wa_sub [0, 1, 2, 4, 5, 6, 7, 8, 9, 10] rfl ?_
                      exact L_141  
                    · refine wa_aload_n dX10_readFrom_104 rfl 6 rfl ?_
                      refine wa_getr gX10_readFrom_105 (rfl) rfl ?_
                      refine wa_aload_n dX10_readFrom_108 rfl 6 rfl ?_
                      refine wa_iload_n dX10_readFrom_109 rfl 8 rfl ?_
                      refine wa_iload_n dX10_readFrom_110 rfl 9 rfl ?_
                      refine wa_iload dX10_readFrom_111 10 rfl ?_
                      refine wa_iload dX10_readFrom_113 3 rfl ?_
                      refine wa_iaddN (a := b) (b := i) dX10_readFrom_115 ?_
                      refine wa_cVi (x_stoneAt C w h hX hW st e (b + i) hst he (by omega)) vX10_stoneAt iX10_readFrom_116 (rfl) rfl rfl rfl (Nat.le_of_ble_eq_true rfl) ⟨by decide, by decide⟩ ?_
                      have hat := sAt_lt (e := e) hst (show b + i < sLen w h st by omega)
                      refine wa_ialdN (e := sAt w h st e (b + i)) dX10_readFrom_119 (rfl) (by omega) (by decide) ?_
                      refine wa_eqi (y := (C.1 21 (sAt w h st e (b + i)))) (x106 _ hat (by have q := c_101; unfold wornR at q; rw [Bool.and_eq_true] at q; exact of_decide_eq_true q.1)) ?_
                      refine wa_aload_n dX10_readFrom_120 rfl 6 rfl ?_
                      refine wa_getr gX10_readFrom_121 (rfl) rfl ?_
                      refine wa_iconst (3) dX10_readFrom_124 (by decide) ?_
                      refine wa_iload_n dX10_readFrom_125 rfl 7 rfl ?_
                      refine wa_imulN (a := 3) (b := l) dX10_readFrom_126 ?_
                      refine wa_iload dX10_readFrom_127 3 rfl ?_
                      refine wa_iaddN (a := 3 * l) (b := i) dX10_readFrom_129 ?_
                      refine wa_ialdN (e := 3 * l + i) dX10_readFrom_130 (rfl) (by omega) (by decide) ?_
                      refine wa_eqi (y := (C.1 (31 + l) i)) (hlw i (by omega)) ?_
                      refine wa_icmp_ne 138 dX10_readFrom_131 (by decide) (fun c_131 => ?_) (fun c_131 => ?_)
                      · refine wa_iconst (0) dX10_readFrom_138 (by decide) ?_
                        refine wa_eqi (y := (wB (wAll (perR C w h s st e l b) (i + 1)))) (by rw [wAll_s]; unfold perR; first | (rw [c_91]; rfl) | (rw [show wAll (fun j => isR C w h s st e l b j || (wornR C w h s st e (b + j) && decide (C.1 21 (sAt w h st e (b + j)) = C.1 (31 + l) j))) i = true from c_91]; first | (rw [c_96]; rfl) | (rw [c_96, c_101]; rfl) | (rw [c_96, c_101, decide_eq_true c_131]; rfl) | (rw [c_96, c_101, decide_eq_false c_131]; rfl)) | (rw [show wAll (fun j => isR C w h s st e l b j || (wornR C w h s st e (b + j) && decide (C.1 21 (sAt w h st e (b + j)) = C.1 (31 + l) j))) i = false from c_91]; rfl)) ?_
                        refine wa_istore [(6, .int (wB (wAll (perR C w h s st e l b) (i + 1)))), (5, .int (wB (wAll (isR C w h s st e l b) (i + 1)))), (11, .int (wB (wornR C w h s st e (b + i)))), (10, .int (wB (isR C w h s st e l b i))), (8, .int (nI (i))), (7, .int (wB (wAny (fun i => wornR C w h s st e (b + i)) i))), (0, wm_r G (96)), (1, .int (nI (l))), (2, .int (nI (st))), (3, .int (nI (e))), (4, .int (nI (b)))] dX10_readFrom_139 (by decide) rfl ?_
                        have L_141 : WA G t_X10_readFrom (fun v_ N_ => v_ = some (.int (nI (levAt w h (C.1 18) (C.1 19) (C.1 20) (C.1 21) (C.1 (31 + l)) z s st e b))) ∧ N_ = M) 141 [(6, .int (wB (wAll (perR C w h s st e l b) (i + 1)))), (5, .int (wB (wAll (isR C w h s st e l b) (i + 1)))), (11, .int (wB (wornR C w h s st e (b + i)))), (8, .int (nI (i))), (7, .int (wB (wAny (fun i => wornR C w h s st e (b + i)) i))), (0, wm_r G (96)), (1, .int (nI (l))), (2, .int (nI (st))), (3, .int (nI (e))), (4, .int (nI (b)))] [] (M) := by
                          refine wa_iload dX10_readFrom_141 4 rfl ?_
                          refine wa_if_neB 151 dX10_readFrom_143 (by decide) (fun (c_143 : (wAny (fun i => wornR C w h s st e (b + i)) i) = true) => ?_) (fun (c_143 : (wAny (fun i => wornR C w h s st e (b + i)) i) = false) => ?_)
                          · refine wa_iconst (1) dX10_readFrom_151 (by decide) ?_
                            refine wa_goto 156 dX10_readFrom_152 (by decide) ?_
                            refine wa_eqi (y := (wB (wAny (fun i => wornR C w h s st e (b + i)) (i + 1)))) (by rw [wAny_s]; first | (rw [c_143]; rfl) | (rw [c_143, show wornR C w h s st e (b + i) = _ from c_148]; rfl)) ?_
                            refine wa_istore [(7, .int (wB (wAny (fun i => wornR C w h s st e (b + i)) (i + 1)))), (6, .int (wB (wAll (perR C w h s st e l b) (i + 1)))), (5, .int (wB (wAll (isR C w h s st e l b) (i + 1)))), (11, .int (wB (wornR C w h s st e (b + i)))), (8, .int (nI (i))), (0, wm_r G (96)), (1, .int (nI (l))), (2, .int (nI (st))), (3, .int (nI (e))), (4, .int (nI (b)))] dX10_readFrom_156 (by decide) rfl ?_
                            refine wa_iinc ((nI (i + 1))) [(8, .int (nI (i + 1))), (7, .int (wB (wAny (fun i => wornR C w h s st e (b + i)) (i + 1)))), (6, .int (wB (wAll (perR C w h s st e l b) (i + 1)))), (5, .int (wB (wAll (isR C w h s st e l b) (i + 1)))), (11, .int (wB (wornR C w h s st e (b + i)))), (0, wm_r G (96)), (1, .int (nI (l))), (2, .int (nI (st))), (3, .int (nI (e))), (4, .int (nI (b)))] dX10_readFrom_158 4 rfl (nI_inc _) (by decide) rfl ?_
                            refine wa_goto 12 dX10_readFrom_161 (by decide) ?_
                            refine wa_sub [0, 1, 2, 3, 5, 6, 7, 8, 9] rfl ?_
                            exact ih_12 (i + 1) (by omega) (by omega)
                          · refine wa_iload dX10_readFrom_146 2 rfl ?_
                            refine wa_if_eqB 155 dX10_readFrom_148 (by decide) (fun (c_148 : (wornR C w h s st e (b + i)) = false) => ?_) (fun (c_148 : (wornR C w h s st e (b + i)) = true) => ?_)
                            · refine wa_iconst (0) dX10_readFrom_155 (by decide) ?_
                              refine wa_eqi (y := (wB (wAny (fun i => wornR C w h s st e (b + i)) (i + 1)))) (by rw [wAny_s]; first | (rw [c_143]; rfl) | (rw [c_143, show wornR C w h s st e (b + i) = _ from c_148]; rfl)) ?_
                              refine wa_istore [(7, .int (wB (wAny (fun i => wornR C w h s st e (b + i)) (i + 1)))), (6, .int (wB (wAll (perR C w h s st e l b) (i + 1)))), (5, .int (wB (wAll (isR C w h s st e l b) (i + 1)))), (11, .int (wB (wornR C w h s st e (b + i)))), (8, .int (nI (i))), (0, wm_r G (96)), (1, .int (nI (l))), (2, .int (nI (st))), (3, .int (nI (e))), (4, .int (nI (b)))] dX10_readFrom_156 (by decide) rfl ?_
                              refine wa_iinc ((nI (i + 1))) [(8, .int (nI (i + 1))), (7, .int (wB (wAny (fun i => wornR C w h s st e (b + i)) (i + 1)))), (6, .int (wB (wAll (perR C w h s st e l b) (i + 1)))), (5, .int (wB (wAll (isR C w h s st e l b) (i + 1)))), (11, .int (wB (wornR C w h s st e (b + i)))), (0, wm_r G (96)), (1, .int (nI (l))), (2, .int (nI (st))), (3, .int (nI (e))), (4, .int (nI (b)))] dX10_readFrom_158 4 rfl (nI_inc _) (by decide) rfl ?_
                              refine wa_goto 12 dX10_readFrom_161 (by decide) ?_
                              refine wa_sub [0, 1, 2, 3, 5, 6, 7, 8, 9] rfl ?_
                              exact ih_12 (i + 1) (by omega) (by omega)
                            · refine wa_iconst (1) dX10_readFrom_151 (by decide) ?_
                              refine wa_goto 156 dX10_readFrom_152 (by decide) ?_
                              refine wa_eqi (y := (wB (wAny (fun i => wornR C w h s st e (b + i)) (i + 1)))) (by rw [wAny_s]; first | (rw [c_143]; rfl) | (rw [c_143, show wornR C w h s st e (b + i) = _ from c_148]; rfl)) ?_
                              refine wa_istore [(7, .int (wB (wAny (fun i => wornR C w h s st e (b + i)) (i + 1)))), (6, .int (wB (wAll (perR C w h s st e l b) (i + 1)))), (5, .int (wB (wAll (isR C w h s st e l b) (i + 1)))), (11, .int (wB (wornR C w h s st e (b + i)))), (8, .int (nI (i))), (0, wm_r G (96)), (1, .int (nI (l))), (2, .int (nI (st))), (3, .int (nI (e))), (4, .int (nI (b)))] dX10_readFrom_156 (by decide) rfl ?_
                              refine wa_iinc ((nI (i + 1))) [(8, .int (nI (i + 1))), (7, .int (wB (wAny (fun i => wornR C w h s st e (b + i)) (i + 1)))), (6, .int (wB (wAll (perR C w h s st e l b) (i + 1)))), (5, .int (wB (wAll (isR C w h s st e l b) (i + 1)))), (11, .int (wB (wornR C w h s st e (b + i)))), (0, wm_r G (96)), (1, .int (nI (l))), (2, .int (nI (st))), (3, .int (nI (e))), (4, .int (nI (b)))] dX10_readFrom_158 4 rfl (nI_inc _) (by decide) rfl ?_
                              refine wa_goto 12 dX10_readFrom_161 (by decide) ?_
                              refine wa_sub [0, 1, 2, 3, 5, 6, 7, 8, 9] rfl ?_
                              exact ih_12 (i + 1) (by omega) (by omega)
                        refine wa_sub [0, 1, 2, 4, 5, 6, 7, 8, 9, 10] rfl ?_
                        exact L_141  
                      · refine wa_iconst (1) dX10_readFrom_134 (by decide) ?_
                        refine wa_goto 139 dX10_readFrom_135 (by decide) ?_
                        refine wa_eqi (y := (wB (wAll (perR C w h s st e l b) (i + 1)))) (by rw [wAll_s]; unfold perR; first | (rw [c_91]; rfl) | (rw [show wAll (fun j => isR C w h s st e l b j || (wornR C w h s st e (b + j) && decide (C.1 21 (sAt w h st e (b + j)) = C.1 (31 + l) j))) i = true from c_91]; first | (rw [c_96]; rfl) | (rw [c_96, c_101]; rfl) | (rw [c_96, c_101, decide_eq_true c_131]; rfl) | (rw [c_96, c_101, decide_eq_false c_131]; rfl)) | (rw [show wAll (fun j => isR C w h s st e l b j || (wornR C w h s st e (b + j) && decide (C.1 21 (sAt w h st e (b + j)) = C.1 (31 + l) j))) i = false from c_91]; rfl)) ?_
                        refine wa_istore [(6, .int (wB (wAll (perR C w h s st e l b) (i + 1)))), (5, .int (wB (wAll (isR C w h s st e l b) (i + 1)))), (11, .int (wB (wornR C w h s st e (b + i)))), (10, .int (wB (isR C w h s st e l b i))), (8, .int (nI (i))), (7, .int (wB (wAny (fun i => wornR C w h s st e (b + i)) i))), (0, wm_r G (96)), (1, .int (nI (l))), (2, .int (nI (st))), (3, .int (nI (e))), (4, .int (nI (b)))] dX10_readFrom_139 (by decide) rfl ?_
                        have L_141 : WA G t_X10_readFrom (fun v_ N_ => v_ = some (.int (nI (levAt w h (C.1 18) (C.1 19) (C.1 20) (C.1 21) (C.1 (31 + l)) z s st e b))) ∧ N_ = M) 141 [(6, .int (wB (wAll (perR C w h s st e l b) (i + 1)))), (5, .int (wB (wAll (isR C w h s st e l b) (i + 1)))), (11, .int (wB (wornR C w h s st e (b + i)))), (8, .int (nI (i))), (7, .int (wB (wAny (fun i => wornR C w h s st e (b + i)) i))), (0, wm_r G (96)), (1, .int (nI (l))), (2, .int (nI (st))), (3, .int (nI (e))), (4, .int (nI (b)))] [] (M) := by
                          refine wa_iload dX10_readFrom_141 4 rfl ?_
                          refine wa_if_neB 151 dX10_readFrom_143 (by decide) (fun (c_143 : (wAny (fun i => wornR C w h s st e (b + i)) i) = true) => ?_) (fun (c_143 : (wAny (fun i => wornR C w h s st e (b + i)) i) = false) => ?_)
                          · refine wa_iconst (1) dX10_readFrom_151 (by decide) ?_
                            refine wa_goto 156 dX10_readFrom_152 (by decide) ?_
                            refine wa_eqi (y := (wB (wAny (fun i => wornR C w h s st e (b + i)) (i + 1)))) (by rw [wAny_s]; first | (rw [c_143]; rfl) | (rw [c_143, show wornR C w h s st e (b + i) = _ from c_148]; rfl)) ?_
                            refine wa_istore [(7, .int (wB (wAny (fun i => wornR C w h s st e (b + i)) (i + 1)))), (6, .int (wB (wAll (perR C w h s st e l b) (i + 1)))), (5, .int (wB (wAll (isR C w h s st e l b) (i + 1)))), (11, .int (wB (wornR C w h s st e (b + i)))), (8, .int (nI (i))), (0, wm_r G (96)), (1, .int (nI (l))), (2, .int (nI (st))), (3, .int (nI (e))), (4, .int (nI (b)))] dX10_readFrom_156 (by decide) rfl ?_
                            refine wa_iinc ((nI (i + 1))) [(8, .int (nI (i + 1))), (7, .int (wB (wAny (fun i => wornR C w h s st e (b + i)) (i + 1)))), (6, .int (wB (wAll (perR C w h s st e l b) (i + 1)))), (5, .int (wB (wAll (isR C w h s st e l b) (i + 1)))), (11, .int (wB (wornR C w h s st e (b + i)))), (0, wm_r G (96)), (1, .int (nI (l))), (2, .int (nI (st))), (3, .int (nI (e))), (4, .int (nI (b)))] dX10_readFrom_158 4 rfl (nI_inc _) (by decide) rfl ?_
                            refine wa_goto 12 dX10_readFrom_161 (by decide) ?_
                            refine wa_sub [0, 1, 2, 3, 5, 6, 7, 8, 9] rfl ?_
                            exact ih_12 (i + 1) (by omega) (by omega)
                          · refine wa_iload dX10_readFrom_146 2 rfl ?_
                            refine wa_if_eqB 155 dX10_readFrom_148 (by decide) (fun (c_148 : (wornR C w h s st e (b + i)) = false) => ?_) (fun (c_148 : (wornR C w h s st e (b + i)) = true) => ?_)
                            · refine wa_iconst (0) dX10_readFrom_155 (by decide) ?_
                              refine wa_eqi (y := (wB (wAny (fun i => wornR C w h s st e (b + i)) (i + 1)))) (by rw [wAny_s]; first | (rw [c_143]; rfl) | (rw [c_143, show wornR C w h s st e (b + i) = _ from c_148]; rfl)) ?_
                              refine wa_istore [(7, .int (wB (wAny (fun i => wornR C w h s st e (b + i)) (i + 1)))), (6, .int (wB (wAll (perR C w h s st e l b) (i + 1)))), (5, .int (wB (wAll (isR C w h s st e l b) (i + 1)))), (11, .int (wB (wornR C w h s st e (b + i)))), (8, .int (nI (i))), (0, wm_r G (96)), (1, .int (nI (l))), (2, .int (nI (st))), (3, .int (nI (e))), (4, .int (nI (b)))] dX10_readFrom_156 (by decide) rfl ?_
                              refine wa_iinc ((nI (i + 1))) [(8, .int (nI (i + 1))), (7, .int (wB (wAny (fun i => wornR C w h s st e (b + i)) (i + 1)))), (6, .int (wB (wAll (perR C w h s st e l b) (i + 1)))), (5, .int (wB (wAll (isR C w h s st e l b) (i + 1)))), (11, .int (wB (wornR C w h s st e (b + i)))), (0, wm_r G (96)), (1, .int (nI (l))), (2, .int (nI (st))), (3, .int (nI (e))), (4, .int (nI (b)))] dX10_readFrom_158 4 rfl (nI_inc _) (by decide) rfl ?_
                              refine wa_goto 12 dX10_readFrom_161 (by decide) ?_
                              refine wa_sub [0, 1, 2, 3, 5, 6, 7, 8, 9] rfl ?_
                              exact ih_12 (i + 1) (by omega) (by omega)
                            · refine wa_iconst (1) dX10_readFrom_151 (by decide) ?_
                              refine wa_goto 156 dX10_readFrom_152 (by decide) ?_
                              refine wa_eqi (y := (wB (wAny (fun i => wornR C w h s st e (b + i)) (i + 1)))) (by rw [wAny_s]; first | (rw [c_143]; rfl) | (rw [c_143, show wornR C w h s st e (b + i) = _ from c_148]; rfl)) ?_
                              refine wa_istore [(7, .int (wB (wAny (fun i => wornR C w h s st e (b + i)) (i + 1)))), (6, .int (wB (wAll (perR C w h s st e l b) (i + 1)))), (5, .int (wB (wAll (isR C w h s st e l b) (i + 1)))), (11, .int (wB (wornR C w h s st e (b + i)))), (8, .int (nI (i))), (0, wm_r G (96)), (1, .int (nI (l))), (2, .int (nI (st))), (3, .int (nI (e))), (4, .int (nI (b)))] dX10_readFrom_156 (by decide) rfl ?_
                              refine wa_iinc ((nI (i + 1))) [(8, .int (nI (i + 1))), (7, .int (wB (wAny (fun i => wornR C w h s st e (b + i)) (i + 1)))), (6, .int (wB (wAll (perR C w h s st e l b) (i + 1)))), (5, .int (wB (wAll (isR C w h s st e l b) (i + 1)))), (11, .int (wB (wornR C w h s st e (b + i)))), (0, wm_r G (96)), (1, .int (nI (l))), (2, .int (nI (st))), (3, .int (nI (e))), (4, .int (nI (b)))] dX10_readFrom_158 4 rfl (nI_inc _) (by decide) rfl ?_
                              refine wa_goto 12 dX10_readFrom_161 (by decide) ?_
                              refine wa_sub [0, 1, 2, 3, 5, 6, 7, 8, 9] rfl ?_
                              exact ih_12 (i + 1) (by omega) (by omega)
                        refine wa_sub [0, 1, 2, 4, 5, 6, 7, 8, 9, 10] rfl ?_
                        exact L_141  
              exact L_89  
            · refine wa_iload dX10_readFrom_77 1 rfl ?_
              refine wa_if_eqB 86 dX10_readFrom_79 (by decide) (fun (c_79 : (isR C w h s st e l b i) = false) => ?_) (fun (c_79 : (isR C w h s st e l b i) = true) => ?_)
              · refine wa_iconst (0) dX10_readFrom_86 (by decide) ?_
                refine wa_eqi (y := (wB (wAll (isR C w h s st e l b) (i + 1)))) (by rw [wAll_s]; first | (rw [c_74, c_79]; rfl) | (rw [c_74]; rfl)) ?_
                refine wa_istore [(5, .int (wB (wAll (isR C w h s st e l b) (i + 1)))), (11, .int (wB (wornR C w h s st e (b + i)))), (10, .int (wB (isR C w h s st e l b i))), (8, .int (nI (i))), (7, .int (wB (wAny (fun i => wornR C w h s st e (b + i)) i))), (6, .int (wB (wAll (perR C w h s st e l b) i))), (0, wm_r G (96)), (1, .int (nI (l))), (2, .int (nI (st))), (3, .int (nI (e))), (4, .int (nI (b)))] dX10_readFrom_87 (by decide) rfl ?_
                have L_89 : WA G t_X10_readFrom (fun v_ N_ => v_ = some (.int (nI (levAt w h (C.1 18) (C.1 19) (C.1 20) (C.1 21) (C.1 (31 + l)) z s st e b))) ∧ N_ = M) 89 [(5, .int (wB (wAll (isR C w h s st e l b) (i + 1)))), (11, .int (wB (wornR C w h s st e (b + i)))), (10, .int (wB (isR C w h s st e l b i))), (8, .int (nI (i))), (7, .int (wB (wAny (fun i => wornR C w h s st e (b + i)) i))), (6, .int (wB (wAll (perR C w h s st e l b) i))), (0, wm_r G (96)), (1, .int (nI (l))), (2, .int (nI (st))), (3, .int (nI (e))), (4, .int (nI (b)))] [] (M) := by
                  refine wa_iload dX10_readFrom_89 5 rfl ?_
                  refine wa_if_eqB 138 dX10_readFrom_91 (by decide) (fun (c_91 : (wAll (perR C w h s st e l b) i) = false) => ?_) (fun (c_91 : (wAll (perR C w h s st e l b) i) = true) => ?_)
                  · refine wa_iconst (0) dX10_readFrom_138 (by decide) ?_
                    refine wa_eqi (y := (wB (wAll (perR C w h s st e l b) (i + 1)))) (by rw [wAll_s]; unfold perR; first | (rw [c_91]; rfl) | (rw [show wAll (fun j => isR C w h s st e l b j || (wornR C w h s st e (b + j) && decide (C.1 21 (sAt w h st e (b + j)) = C.1 (31 + l) j))) i = true from c_91]; first | (rw [c_96]; rfl) | (rw [c_96, c_101]; rfl) | (rw [c_96, c_101, decide_eq_true c_131]; rfl) | (rw [c_96, c_101, decide_eq_false c_131]; rfl)) | (rw [show wAll (fun j => isR C w h s st e l b j || (wornR C w h s st e (b + j) && decide (C.1 21 (sAt w h st e (b + j)) = C.1 (31 + l) j))) i = false from c_91]; rfl)) ?_
                    refine wa_istore [(6, .int (wB (wAll (perR C w h s st e l b) (i + 1)))), (5, .int (wB (wAll (isR C w h s st e l b) (i + 1)))), (11, .int (wB (wornR C w h s st e (b + i)))), (10, .int (wB (isR C w h s st e l b i))), (8, .int (nI (i))), (7, .int (wB (wAny (fun i => wornR C w h s st e (b + i)) i))), (0, wm_r G (96)), (1, .int (nI (l))), (2, .int (nI (st))), (3, .int (nI (e))), (4, .int (nI (b)))] dX10_readFrom_139 (by decide) rfl ?_
                    have L_141 : WA G t_X10_readFrom (fun v_ N_ => v_ = some (.int (nI (levAt w h (C.1 18) (C.1 19) (C.1 20) (C.1 21) (C.1 (31 + l)) z s st e b))) ∧ N_ = M) 141 [(6, .int (wB (wAll (perR C w h s st e l b) (i + 1)))), (5, .int (wB (wAll (isR C w h s st e l b) (i + 1)))), (11, .int (wB (wornR C w h s st e (b + i)))), (8, .int (nI (i))), (7, .int (wB (wAny (fun i => wornR C w h s st e (b + i)) i))), (0, wm_r G (96)), (1, .int (nI (l))), (2, .int (nI (st))), (3, .int (nI (e))), (4, .int (nI (b)))] [] (M) := by
                      refine wa_iload dX10_readFrom_141 4 rfl ?_
                      refine wa_if_neB 151 dX10_readFrom_143 (by decide) (fun (c_143 : (wAny (fun i => wornR C w h s st e (b + i)) i) = true) => ?_) (fun (c_143 : (wAny (fun i => wornR C w h s st e (b + i)) i) = false) => ?_)
                      · refine wa_iconst (1) dX10_readFrom_151 (by decide) ?_
                        refine wa_goto 156 dX10_readFrom_152 (by decide) ?_
                        refine wa_eqi (y := (wB (wAny (fun i => wornR C w h s st e (b + i)) (i + 1)))) (by rw [wAny_s]; first | (rw [c_143]; rfl) | (rw [c_143, show wornR C w h s st e (b + i) = _ from c_148]; rfl)) ?_
                        refine wa_istore [(7, .int (wB (wAny (fun i => wornR C w h s st e (b + i)) (i + 1)))), (6, .int (wB (wAll (perR C w h s st e l b) (i + 1)))), (5, .int (wB (wAll (isR C w h s st e l b) (i + 1)))), (11, .int (wB (wornR C w h s st e (b + i)))), (8, .int (nI (i))), (0, wm_r G (96)), (1, .int (nI (l))), (2, .int (nI (st))), (3, .int (nI (e))), (4, .int (nI (b)))] dX10_readFrom_156 (by decide) rfl ?_
                        refine wa_iinc ((nI (i + 1))) [(8, .int (nI (i + 1))), (7, .int (wB (wAny (fun i => wornR C w h s st e (b + i)) (i + 1)))), (6, .int (wB (wAll (perR C w h s st e l b) (i + 1)))), (5, .int (wB (wAll (isR C w h s st e l b) (i + 1)))), (11, .int (wB (wornR C w h s st e (b + i)))), (0, wm_r G (96)), (1, .int (nI (l))), (2, .int (nI (st))), (3, .int (nI (e))), (4, .int (nI (b)))] dX10_readFrom_158 4 rfl (nI_inc _) (by decide) rfl ?_
                        refine wa_goto 12 dX10_readFrom_161 (by decide) ?_
                        refine wa_sub [0, 1, 2, 3, 5, 6, 7, 8, 9] rfl ?_
                        exact ih_12 (i + 1) (by omega) (by omega)
                      · refine wa_iload dX10_readFrom_146 2 rfl ?_
                        refine wa_if_eqB 155 dX10_readFrom_148 (by decide) (fun (c_148 : (wornR C w h s st e (b + i)) = false) => ?_) (fun (c_148 : (wornR C w h s st e (b + i)) = true) => ?_)
                        · refine wa_iconst (0) dX10_readFrom_155 (by decide) ?_
                          refine wa_eqi (y := (wB (wAny (fun i => wornR C w h s st e (b + i)) (i + 1)))) (by rw [wAny_s]; first | (rw [c_143]; rfl) | (rw [c_143, show wornR C w h s st e (b + i) = _ from c_148]; rfl)) ?_
                          refine wa_istore [(7, .int (wB (wAny (fun i => wornR C w h s st e (b + i)) (i + 1)))), (6, .int (wB (wAll (perR C w h s st e l b) (i + 1)))), (5, .int (wB (wAll (isR C w h s st e l b) (i + 1)))), (11, .int (wB (wornR C w h s st e (b + i)))), (8, .int (nI (i))), (0, wm_r G (96)), (1, .int (nI (l))), (2, .int (nI (st))), (3, .int (nI (e))), (4, .int (nI (b)))] dX10_readFrom_156 (by decide) rfl ?_
                          refine wa_iinc ((nI (i + 1))) [(8, .int (nI (i + 1))), (7, .int (wB (wAny (fun i => wornR C w h s st e (b + i)) (i + 1)))), (6, .int (wB (wAll (perR C w h s st e l b) (i + 1)))), (5, .int (wB (wAll (isR C w h s st e l b) (i + 1)))), (11, .int (wB (wornR C w h s st e (b + i)))), (0, wm_r G (96)), (1, .int (nI (l))), (2, .int (nI (st))), (3, .int (nI (e))), (4, .int (nI (b)))] dX10_readFrom_158 4 rfl (nI_inc _) (by decide) rfl ?_
                          refine wa_goto 12 dX10_readFrom_161 (by decide) ?_
                          refine wa_sub [0, 1, 2, 3, 5, 6, 7, 8, 9] rfl ?_
                          exact ih_12 (i + 1) (by omega) (by omega)
                        · refine wa_iconst (1) dX10_readFrom_151 (by decide) ?_
                          refine wa_goto 156 dX10_readFrom_152 (by decide) ?_
                          refine wa_eqi (y := (wB (wAny (fun i => wornR C w h s st e (b + i)) (i + 1)))) (by rw [wAny_s]; first | (rw [c_143]; rfl) | (rw [c_143, show wornR C w h s st e (b + i) = _ from c_148]; rfl)) ?_
                          refine wa_istore [(7, .int (wB (wAny (fun i => wornR C w h s st e (b + i)) (i + 1)))), (6, .int (wB (wAll (perR C w h s st e l b) (i + 1)))), (5, .int (wB (wAll (isR C w h s st e l b) (i + 1)))), (11, .int (wB (wornR C w h s st e (b + i)))), (8, .int (nI (i))), (0, wm_r G (96)), (1, .int (nI (l))), (2, .int (nI (st))), (3, .int (nI (e))), (4, .int (nI (b)))] dX10_readFrom_156 (by decide) rfl ?_
                          refine wa_iinc ((nI (i + 1))) [(8, .int (nI (i + 1))), (7, .int (wB (wAny (fun i => wornR C w h s st e (b + i)) (i + 1)))), (6, .int (wB (wAll (perR C w h s st e l b) (i + 1)))), (5, .int (wB (wAll (isR C w h s st e l b) (i + 1)))), (11, .int (wB (wornR C w h s st e (b + i)))), (0, wm_r G (96)), (1, .int (nI (l))), (2, .int (nI (st))), (3, .int (nI (e))), (4, .int (nI (b)))] dX10_readFrom_158 4 rfl (nI_inc _) (by decide) rfl ?_
                          refine wa_goto 12 dX10_readFrom_161 (by decide) ?_
                          refine wa_sub [0, 1, 2, 3, 5, 6, 7, 8, 9] rfl ?_
                          exact ih_12 (i + 1) (by omega) (by omega)
                    refine wa_sub [0, 1, 2, 4, 5, 6, 7, 8, 9, 10] rfl ?_
                    exact L_141  
                  · refine wa_iload dX10_readFrom_94 2 rfl ?_
                    refine wa_if_neB 134 dX10_readFrom_96 (by decide) (fun (c_96 : (isR C w h s st e l b i) = true) => ?_) (fun (c_96 : (isR C w h s st e l b i) = false) => ?_)
                    · refine wa_iconst (1) dX10_readFrom_134 (by decide) ?_
                      refine wa_goto 139 dX10_readFrom_135 (by decide) ?_
                      refine wa_eqi (y := (wB (wAll (perR C w h s st e l b) (i + 1)))) (by rw [wAll_s]; unfold perR; first | (rw [c_91]; rfl) | (rw [show wAll (fun j => isR C w h s st e l b j || (wornR C w h s st e (b + j) && decide (C.1 21 (sAt w h st e (b + j)) = C.1 (31 + l) j))) i = true from c_91]; first | (rw [c_96]; rfl) | (rw [c_96, c_101]; rfl) | (rw [c_96, c_101, decide_eq_true c_131]; rfl) | (rw [c_96, c_101, decide_eq_false c_131]; rfl)) | (rw [show wAll (fun j => isR C w h s st e l b j || (wornR C w h s st e (b + j) && decide (C.1 21 (sAt w h st e (b + j)) = C.1 (31 + l) j))) i = false from c_91]; rfl)) ?_
                      refine wa_istore [(6, .int (wB (wAll (perR C w h s st e l b) (i + 1)))), (5, .int (wB (wAll (isR C w h s st e l b) (i + 1)))), (11, .int (wB (wornR C w h s st e (b + i)))), (10, .int (wB (isR C w h s st e l b i))), (8, .int (nI (i))), (7, .int (wB (wAny (fun i => wornR C w h s st e (b + i)) i))), (0, wm_r G (96)), (1, .int (nI (l))), (2, .int (nI (st))), (3, .int (nI (e))), (4, .int (nI (b)))] dX10_readFrom_139 (by decide) rfl ?_
                      have L_141 : WA G t_X10_readFrom (fun v_ N_ => v_ = some (.int (nI (levAt w h (C.1 18) (C.1 19) (C.1 20) (C.1 21) (C.1 (31 + l)) z s st e b))) ∧ N_ = M) 141 [(6, .int (wB (wAll (perR C w h s st e l b) (i + 1)))), (5, .int (wB (wAll (isR C w h s st e l b) (i + 1)))), (11, .int (wB (wornR C w h s st e (b + i)))), (8, .int (nI (i))), (7, .int (wB (wAny (fun i => wornR C w h s st e (b + i)) i))), (0, wm_r G (96)), (1, .int (nI (l))), (2, .int (nI (st))), (3, .int (nI (e))), (4, .int (nI (b)))] [] (M) := by
                        refine wa_iload dX10_readFrom_141 4 rfl ?_
                        refine wa_if_neB 151 dX10_readFrom_143 (by decide) (fun (c_143 : (wAny (fun i => wornR C w h s st e (b + i)) i) = true) => ?_) (fun (c_143 : (wAny (fun i => wornR C w h s st e (b + i)) i) = false) => ?_)
                        · refine wa_iconst (1) dX10_readFrom_151 (by decide) ?_
                          refine wa_goto 156 dX10_readFrom_152 (by decide) ?_
                          refine wa_eqi (y := (wB (wAny (fun i => wornR C w h s st e (b + i)) (i + 1)))) (by rw [wAny_s]; first | (rw [c_143]; rfl) | (rw [c_143, show wornR C w h s st e (b + i) = _ from c_148]; rfl)) ?_
                          refine wa_istore [(7, .int (wB (wAny (fun i => wornR C w h s st e (b + i)) (i + 1)))), (6, .int (wB (wAll (perR C w h s st e l b) (i + 1)))), (5, .int (wB (wAll (isR C w h s st e l b) (i + 1)))), (11, .int (wB (wornR C w h s st e (b + i)))), (8, .int (nI (i))), (0, wm_r G (96)), (1, .int (nI (l))), (2, .int (nI (st))), (3, .int (nI (e))), (4, .int (nI (b)))] dX10_readFrom_156 (by decide) rfl ?_
                          refine wa_iinc ((nI (i + 1))) [(8, .int (nI (i + 1))), (7, .int (wB (wAny (fun i => wornR C w h s st e (b + i)) (i + 1)))), (6, .int (wB (wAll (perR C w h s st e l b) (i + 1)))), (5, .int (wB (wAll (isR C w h s st e l b) (i + 1)))), (11, .int (wB (wornR C w h s st e (b + i)))), (0, wm_r G (96)), (1, .int (nI (l))), (2, .int (nI (st))), (3, .int (nI (e))), (4, .int (nI (b)))] dX10_readFrom_158 4 rfl (nI_inc _) (by decide) rfl ?_
                          refine wa_goto 12 dX10_readFrom_161 (by decide) ?_
                          refine wa_sub [0, 1, 2, 3, 5, 6, 7, 8, 9] rfl ?_
                          exact ih_12 (i + 1) (by omega) (by omega)
                        · refine wa_iload dX10_readFrom_146 2 rfl ?_
                          refine wa_if_eqB 155 dX10_readFrom_148 (by decide) (fun (c_148 : (wornR C w h s st e (b + i)) = false) => ?_) (fun (c_148 : (wornR C w h s st e (b + i)) = true) => ?_)
                          · refine wa_iconst (0) dX10_readFrom_155 (by decide) ?_
                            refine wa_eqi (y := (wB (wAny (fun i => wornR C w h s st e (b + i)) (i + 1)))) (by rw [wAny_s]; first | (rw [c_143]; rfl) | (rw [c_143, show wornR C w h s st e (b + i) = _ from c_148]; rfl)) ?_
                            refine wa_istore [(7, .int (wB (wAny (fun i => wornR C w h s st e (b + i)) (i + 1)))), (6, .int (wB (wAll (perR C w h s st e l b) (i + 1)))), (5, .int (wB (wAll (isR C w h s st e l b) (i + 1)))), (11, .int (wB (wornR C w h s st e (b + i)))), (8, .int (nI (i))), (0, wm_r G (96)), (1, .int (nI (l))), (2, .int (nI (st))), (3, .int (nI (e))), (4, .int (nI (b)))] dX10_readFrom_156 (by decide) rfl ?_
                            refine wa_iinc ((nI (i + 1))) [(8, .int (nI (i + 1))), (7, .int (wB (wAny (fun i => wornR C w h s st e (b + i)) (i + 1)))), (6, .int (wB (wAll (perR C w h s st e l b) (i + 1)))), (5, .int (wB (wAll (isR C w h s st e l b) (i + 1)))), (11, .int (wB (wornR C w h s st e (b + i)))), (0, wm_r G (96)), (1, .int (nI (l))), (2, .int (nI (st))), (3, .int (nI (e))), (4, .int (nI (b)))] dX10_readFrom_158 4 rfl (nI_inc _) (by decide) rfl ?_
                            refine wa_goto 12 dX10_readFrom_161 (by decide) ?_
                            refine wa_sub [0, 1, 2, 3, 5, 6, 7, 8, 9] rfl ?_
                            exact ih_12 (i + 1) (by omega) (by omega)
                          · refine wa_iconst (1) dX10_readFrom_151 (by decide) ?_
                            refine wa_goto 156 dX10_readFrom_152 (by decide) ?_
                            refine wa_eqi (y := (wB (wAny (fun i => wornR C w h s st e (b + i)) (i + 1)))) (by rw [wAny_s]; first | (rw [c_143]; rfl) | (rw [c_143, show wornR C w h s st e (b + i) = _ from c_148]; rfl)) ?_
                            refine wa_istore [(7, .int (wB (wAny (fun i => wornR C w h s st e (b + i)) (i + 1)))), (6, .int (wB (wAll (perR C w h s st e l b) (i + 1)))), (5, .int (wB (wAll (isR C w h s st e l b) (i + 1)))), (11, .int (wB (wornR C w h s st e (b + i)))), (8, .int (nI (i))), (0, wm_r G (96)), (1, .int (nI (l))), (2, .int (nI (st))), (3, .int (nI (e))), (4, .int (nI (b)))] dX10_readFrom_156 (by decide) rfl ?_
                            refine wa_iinc ((nI (i + 1))) [(8, .int (nI (i + 1))), (7, .int (wB (wAny (fun i => wornR C w h s st e (b + i)) (i + 1)))), (6, .int (wB (wAll (perR C w h s st e l b) (i + 1)))), (5, .int (wB (wAll (isR C w h s st e l b) (i + 1)))), (11, .int (wB (wornR C w h s st e (b + i)))), (0, wm_r G (96)), (1, .int (nI (l))), (2, .int (nI (st))), (3, .int (nI (e))), (4, .int (nI (b)))] dX10_readFrom_158 4 rfl (nI_inc _) (by decide) rfl ?_
                            refine wa_goto 12 dX10_readFrom_161 (by decide) ?_
                            refine wa_sub [0, 1, 2, 3, 5, 6, 7, 8, 9] rfl ?_
                            exact ih_12 (i + 1) (by omega) (by omega)
                      refine wa_sub [0, 1, 2, 4, 5, 6, 7, 8, 9, 10] rfl ?_
                      exact L_141  
                    · refine wa_iload dX10_readFrom_99 1 rfl ?_
                      refine wa_if_eqB 138 dX10_readFrom_101 (by decide) (fun (c_101 : (wornR C w h s st e (b + i)) = false) => ?_) (fun (c_101 : (wornR C w h s st e (b + i)) = true) => ?_)
                      · refine wa_iconst (0) dX10_readFrom_138 (by decide) ?_
                        refine wa_eqi (y := (wB (wAll (perR C w h s st e l b) (i + 1)))) (by rw [wAll_s]; unfold perR; first | (rw [c_91]; rfl) | (rw [show wAll (fun j => isR C w h s st e l b j || (wornR C w h s st e (b + j) && decide (C.1 21 (sAt w h st e (b + j)) = C.1 (31 + l) j))) i = true from c_91]; first | (rw [c_96]; rfl) | (rw [c_96, c_101]; rfl) | (rw [c_96, c_101, decide_eq_true c_131]; rfl) | (rw [c_96, c_101, decide_eq_false c_131]; rfl)) | (rw [show wAll (fun j => isR C w h s st e l b j || (wornR C w h s st e (b + j) && decide (C.1 21 (sAt w h st e (b + j)) = C.1 (31 + l) j))) i = false from c_91]; rfl)) ?_
                        refine wa_istore [(6, .int (wB (wAll (perR C w h s st e l b) (i + 1)))), (5, .int (wB (wAll (isR C w h s st e l b) (i + 1)))), (11, .int (wB (wornR C w h s st e (b + i)))), (10, .int (wB (isR C w h s st e l b i))), (8, .int (nI (i))), (7, .int (wB (wAny (fun i => wornR C w h s st e (b + i)) i))), (0, wm_r G (96)), (1, .int (nI (l))), (2, .int (nI (st))), (3, .int (nI (e))), (4, .int (nI (b)))] dX10_readFrom_139 (by decide) rfl ?_
                        have L_141 : WA G t_X10_readFrom (fun v_ N_ => v_ = some (.int (nI (levAt w h (C.1 18) (C.1 19) (C.1 20) (C.1 21) (C.1 (31 + l)) z s st e b))) ∧ N_ = M) 141 [(6, .int (wB (wAll (perR C w h s st e l b) (i + 1)))), (5, .int (wB (wAll (isR C w h s st e l b) (i + 1)))), (11, .int (wB (wornR C w h s st e (b + i)))), (8, .int (nI (i))), (7, .int (wB (wAny (fun i => wornR C w h s st e (b + i)) i))), (0, wm_r G (96)), (1, .int (nI (l))), (2, .int (nI (st))), (3, .int (nI (e))), (4, .int (nI (b)))] [] (M) := by
                          refine wa_iload dX10_readFrom_141 4 rfl ?_
                          refine wa_if_neB 151 dX10_readFrom_143 (by decide) (fun (c_143 : (wAny (fun i => wornR C w h s st e (b + i)) i) = true) => ?_) (fun (c_143 : (wAny (fun i => wornR C w h s st e (b + i)) i) = false) => ?_)
                          · refine wa_iconst (1) dX10_readFrom_151 (by decide) ?_
                            refine wa_goto 156 dX10_readFrom_152 (by decide) ?_
                            refine wa_eqi (y := (wB (wAny (fun i => wornR C w h s st e (b + i)) (i + 1)))) (by rw [wAny_s]; first | (rw [c_143]; rfl) | (rw [c_143, show wornR C w h s st e (b + i) = _ from c_148]; rfl)) ?_
                            refine wa_istore [(7, .int (wB (wAny (fun i => wornR C w h s st e (b + i)) (i + 1)))), (6, .int (wB (wAll (perR C w h s st e l b) (i + 1)))), (5, .int (wB (wAll (isR C w h s st e l b) (i + 1)))), (11, .int (wB (wornR C w h s st e (b + i)))), (8, .int (nI (i))), (0, wm_r G (96)), (1, .int (nI (l))), (2, .int (nI (st))), (3, .int (nI (e))), (4, .int (nI (b)))] dX10_readFrom_156 (by decide) rfl ?_
                            refine wa_iinc ((nI (i + 1))) [(8, .int (nI (i + 1))), (7, .int (wB (wAny (fun i => wornR C w h s st e (b + i)) (i + 1)))), (6, .int (wB (wAll (perR C w h s st e l b) (i + 1)))), (5, .int (wB (wAll (isR C w h s st e l b) (i + 1)))), (11, .int (wB (wornR C w h s st e (b + i)))), (0, wm_r G (96)), (1, .int (nI (l))), (2, .int (nI (st))), (3, .int (nI (e))), (4, .int (nI (b)))] dX10_readFrom_158 4 rfl (nI_inc _) (by decide) rfl ?_
                            refine wa_goto 12 dX10_readFrom_161 (by decide) ?_
                            refine wa_sub [0, 1, 2, 3, 5, 6, 7, 8, 9] rfl ?_
                            exact ih_12 (i + 1) (by omega) (by omega)
                          · refine wa_iload dX10_readFrom_146 2 rfl ?_
                            refine wa_if_eqB 155 dX10_readFrom_148 (by decide) (fun (c_148 : (wornR C w h s st e (b + i)) = false) => ?_) (fun (c_148 : (wornR C w h s st e (b + i)) = true) => ?_)
                            · refine wa_iconst (0) dX10_readFrom_155 (by decide) ?_
                              refine wa_eqi (y := (wB (wAny (fun i => wornR C w h s st e (b + i)) (i + 1)))) (by rw [wAny_s]; first | (rw [c_143]; rfl) | (rw [c_143, show wornR C w h s st e (b + i) = _ from c_148]; rfl)) ?_
                              refine wa_istore [(7, .int (wB (wAny (fun i => wornR C w h s st e (b + i)) (i + 1)))), (6, .int (wB (wAll (perR C w h s st e l b) (i + 1)))), (5, .int (wB (wAll (isR C w h s st e l b) (i + 1)))), (11, .int (wB (wornR C w h s st e (b + i)))), (8, .int (nI (i))), (0, wm_r G (96)), (1, .int (nI (l))), (2, .int (nI (st))), (3, .int (nI (e))), (4, .int (nI (b)))] dX10_readFrom_156 (by decide) rfl ?_
                              refine wa_iinc ((nI (i + 1))) [(8, .int (nI (i + 1))), (7, .int (wB (wAny (fun i => wornR C w h s st e (b + i)) (i + 1)))), (6, .int (wB (wAll (perR C w h s st e l b) (i + 1)))), (5, .int (wB (wAll (isR C w h s st e l b) (i + 1)))), (11, .int (wB (wornR C w h s st e (b + i)))), (0, wm_r G (96)), (1, .int (nI (l))), (2, .int (nI (st))), (3, .int (nI (e))), (4, .int (nI (b)))] dX10_readFrom_158 4 rfl (nI_inc _) (by decide) rfl ?_
                              refine wa_goto 12 dX10_readFrom_161 (by decide) ?_
                              refine wa_sub [0, 1, 2, 3, 5, 6, 7, 8, 9] rfl ?_
                              exact ih_12 (i + 1) (by omega) (by omega)
                            · refine wa_iconst (1) dX10_readFrom_151 (by decide) ?_
                              refine wa_goto 156 dX10_readFrom_152 (by decide) ?_
                              refine wa_eqi (y := (wB (wAny (fun i => wornR C w h s st e (b + i)) (i + 1)))) (by rw [wAny_s]; first | (rw [c_143]; rfl) | (rw [c_143, show wornR C w h s st e (b + i) = _ from c_148]; rfl)) ?_
                              refine wa_istore [(7, .int (wB (wAny (fun i => wornR C w h s st e (b + i)) (i + 1)))), (6, .int (wB (wAll (perR C w h s st e l b) (i + 1)))), (5, .int (wB (wAll (isR C w h s st e l b) (i + 1)))), (11, .int (wB (wornR C w h s st e (b + i)))), (8, .int (nI (i))), (0, wm_r G (96)), (1, .int (nI (l))), (2, .int (nI (st))), (3, .int (nI (e))), (4, .int (nI (b)))] dX10_readFrom_156 (by decide) rfl ?_
                              refine wa_iinc ((nI (i + 1))) [(8, .int (nI (i + 1))), (7, .int (wB (wAny (fun i => wornR C w h s st e (b + i)) (i + 1)))), (6, .int (wB (wAll (perR C w h s st e l b) (i + 1)))), (5, .int (wB (wAll (isR C w h s st e l b) (i + 1)))), (11, .int (wB (wornR C w h s st e (b + i)))), (0, wm_r G (96)), (1, .int (nI (l))), (2, .int (nI (st))), (3, .int (nI (e))), (4, .int (nI (b)))] dX10_readFrom_158 4 rfl (nI_inc _) (by decide) rfl ?_
                              refine wa_goto 12 dX10_readFrom_161 (by decide) ?_
                              refine wa_sub [0, 1, 2, 3, 5, 6, 7, 8, 9] rfl ?_
                              exact ih_12 (i + 1) (by omega) (by omega)
                        refine wa_sub [0, 1, 2, 4, 5, 6, 7, 8, 9, 10] rfl ?_
                        exact L_141  
                      · refine wa_aload_n dX10_readFrom_104 rfl 6 rfl ?_
                        refine wa_getr gX10_readFrom_105 (rfl) rfl ?_
                        refine wa_aload_n dX10_readFrom_108 rfl 6 rfl ?_
                        refine wa_iload_n dX10_readFrom_109 rfl 8 rfl ?_
                        refine wa_iload_n dX10_readFrom_110 rfl 9 rfl ?_
                        refine wa_iload dX10_readFrom_111 10 rfl ?_
                        refine wa_iload dX10_readFrom_113 3 rfl ?_
                        refine wa_iaddN (a := b) (b := i) dX10_readFrom_115 ?_
                        refine wa_cVi (x_stoneAt C w h hX hW st e (b + i) hst he (by omega)) vX10_stoneAt iX10_readFrom_116 (rfl) rfl rfl rfl (Nat.le_of_ble_eq_true rfl) ⟨by decide, by decide⟩ ?_
                        have hat := sAt_lt (e := e) hst (show b + i < sLen w h st by omega)
                        refine wa_ialdN (e := sAt w h st e (b + i)) dX10_readFrom_119 (rfl) (by omega) (by decide) ?_
                        refine wa_eqi (y := (C.1 21 (sAt w h st e (b + i)))) (x106 _ hat (by have q := c_101; unfold wornR at q; rw [Bool.and_eq_true] at q; exact of_decide_eq_true q.1)) ?_
                        refine wa_aload_n dX10_readFrom_120 rfl 6 rfl ?_
                        refine wa_getr gX10_readFrom_121 (rfl) rfl ?_
                        refine wa_iconst (3) dX10_readFrom_124 (by decide) ?_
                        refine wa_iload_n dX10_readFrom_125 rfl 7 rfl ?_
                        refine wa_imulN (a := 3) (b := l) dX10_readFrom_126 ?_
                        refine wa_iload dX10_readFrom_127 3 rfl ?_
                        refine wa_iaddN (a := 3 * l) (b := i) dX10_readFrom_129 ?_
                        refine wa_ialdN (e := 3 * l + i) dX10_readFrom_130 (rfl) (by omega) (by decide) ?_
                        refine wa_eqi (y := (C.1 (31 + l) i)) (hlw i (by omega)) ?_
                        refine wa_icmp_ne 138 dX10_readFrom_131 (by decide) (fun c_131 => ?_) (fun c_131 => ?_)
                        · refine wa_iconst (0) dX10_readFrom_138 (by decide) ?_
                          refine wa_eqi (y := (wB (wAll (perR C w h s st e l b) (i + 1)))) (by rw [wAll_s]; unfold perR; first | (rw [c_91]; rfl) | (rw [show wAll (fun j => isR C w h s st e l b j || (wornR C w h s st e (b + j) && decide (C.1 21 (sAt w h st e (b + j)) = C.1 (31 + l) j))) i = true from c_91]; first | (rw [c_96]; rfl) | (rw [c_96, c_101]; rfl) | (rw [c_96, c_101, decide_eq_true c_131]; rfl) | (rw [c_96, c_101, decide_eq_false c_131]; rfl)) | (rw [show wAll (fun j => isR C w h s st e l b j || (wornR C w h s st e (b + j) && decide (C.1 21 (sAt w h st e (b + j)) = C.1 (31 + l) j))) i = false from c_91]; rfl)) ?_
                          refine wa_istore [(6, .int (wB (wAll (perR C w h s st e l b) (i + 1)))), (5, .int (wB (wAll (isR C w h s st e l b) (i + 1)))), (11, .int (wB (wornR C w h s st e (b + i)))), (10, .int (wB (isR C w h s st e l b i))), (8, .int (nI (i))), (7, .int (wB (wAny (fun i => wornR C w h s st e (b + i)) i))), (0, wm_r G (96)), (1, .int (nI (l))), (2, .int (nI (st))), (3, .int (nI (e))), (4, .int (nI (b)))] dX10_readFrom_139 (by decide) rfl ?_
                          have L_141 : WA G t_X10_readFrom (fun v_ N_ => v_ = some (.int (nI (levAt w h (C.1 18) (C.1 19) (C.1 20) (C.1 21) (C.1 (31 + l)) z s st e b))) ∧ N_ = M) 141 [(6, .int (wB (wAll (perR C w h s st e l b) (i + 1)))), (5, .int (wB (wAll (isR C w h s st e l b) (i + 1)))), (11, .int (wB (wornR C w h s st e (b + i)))), (8, .int (nI (i))), (7, .int (wB (wAny (fun i => wornR C w h s st e (b + i)) i))), (0, wm_r G (96)), (1, .int (nI (l))), (2, .int (nI (st))), (3, .int (nI (e))), (4, .int (nI (b)))] [] (M) := by
                            refine wa_iload dX10_readFrom_141 4 rfl ?_
                            refine wa_if_neB 151 dX10_readFrom_143 (by decide) (fun (c_143 : (wAny (fun i => wornR C w h s st e (b + i)) i) = true) => ?_) (fun (c_143 : (wAny (fun i => wornR C w h s st e (b + i)) i) = false) => ?_)
                            · refine wa_iconst (1) dX10_readFrom_151 (by decide) ?_
                              refine wa_goto 156 dX10_readFrom_152 (by decide) ?_
                              refine wa_eqi (y := (wB (wAny (fun i => wornR C w h s st e (b + i)) (i + 1)))) (by rw [wAny_s]; first | (rw [c_143]; rfl) | (rw [c_143, show wornR C w h s st e (b + i) = _ from c_148]; rfl)) ?_
                              refine wa_istore [(7, .int (wB (wAny (fun i => wornR C w h s st e (b + i)) (i + 1)))), (6, .int (wB (wAll (perR C w h s st e l b) (i + 1)))), (5, .int (wB (wAll (isR C w h s st e l b) (i + 1)))), (11, .int (wB (wornR C w h s st e (b + i)))), (8, .int (nI (i))), (0, wm_r G (96)), (1, .int (nI (l))), (2, .int (nI (st))), (3, .int (nI (e))), (4, .int (nI (b)))] dX10_readFrom_156 (by decide) rfl ?_
                              refine wa_iinc ((nI (i + 1))) [(8, .int (nI (i + 1))), (7, .int (wB (wAny (fun i => wornR C w h s st e (b + i)) (i + 1)))), (6, .int (wB (wAll (perR C w h s st e l b) (i + 1)))), (5, .int (wB (wAll (isR C w h s st e l b) (i + 1)))), (11, .int (wB (wornR C w h s st e (b + i)))), (0, wm_r G (96)), (1, .int (nI (l))), (2, .int (nI (st))), (3, .int (nI (e))), (4, .int (nI (b)))] dX10_readFrom_158 4 rfl (nI_inc _) (by decide) rfl ?_
                              refine wa_goto 12 dX10_readFrom_161 (by decide) ?_
                              refine wa_sub [0, 1, 2, 3, 5, 6, 7, 8, 9] rfl ?_
                              exact ih_12 (i + 1) (by omega) (by omega)
                            · refine wa_iload dX10_readFrom_146 2 rfl ?_
                              refine wa_if_eqB 155 dX10_readFrom_148 (by decide) (fun (c_148 : (wornR C w h s st e (b + i)) = false) => ?_) (fun (c_148 : (wornR C w h s st e (b + i)) = true) => ?_)
                              · refine wa_iconst (0) dX10_readFrom_155 (by decide) ?_
                                refine wa_eqi (y := (wB (wAny (fun i => wornR C w h s st e (b + i)) (i + 1)))) (by rw [wAny_s]; first | (rw [c_143]; rfl) | (rw [c_143, show wornR C w h s st e (b + i) = _ from c_148]; rfl)) ?_
                                refine wa_istore [(7, .int (wB (wAny (fun i => wornR C w h s st e (b + i)) (i + 1)))), (6, .int (wB (wAll (perR C w h s st e l b) (i + 1)))), (5, .int (wB (wAll (isR C w h s st e l b) (i + 1)))), (11, .int (wB (wornR C w h s st e (b + i)))), (8, .int (nI (i))), (0, wm_r G (96)), (1, .int (nI (l))), (2, .int (nI (st))), (3, .int (nI (e))), (4, .int (nI (b)))] dX10_readFrom_156 (by decide) rfl ?_
                                refine wa_iinc ((nI (i + 1))) [(8, .int (nI (i + 1))), (7, .int (wB (wAny (fun i => wornR C w h s st e (b + i)) (i + 1)))), (6, .int (wB (wAll (perR C w h s st e l b) (i + 1)))), (5, .int (wB (wAll (isR C w h s st e l b) (i + 1)))), (11, .int (wB (wornR C w h s st e (b + i)))), (0, wm_r G (96)), (1, .int (nI (l))), (2, .int (nI (st))), (3, .int (nI (e))), (4, .int (nI (b)))] dX10_readFrom_158 4 rfl (nI_inc _) (by decide) rfl ?_
                                refine wa_goto 12 dX10_readFrom_161 (by decide) ?_
                                refine wa_sub [0, 1, 2, 3, 5, 6, 7, 8, 9] rfl ?_
                                exact ih_12 (i + 1) (by omega) (by omega)
                              · refine wa_iconst (1) dX10_readFrom_151 (by decide) ?_
                                refine wa_goto 156 dX10_readFrom_152 (by decide) ?_
                                refine wa_eqi (y := (wB (wAny (fun i => wornR C w h s st e (b + i)) (i + 1)))) (by rw [wAny_s]; first | (rw [c_143]; rfl) | (rw [c_143, show wornR C w h s st e (b + i) = _ from c_148]; rfl)) ?_
                                refine wa_istore [(7, .int (wB (wAny (fun i => wornR C w h s st e (b + i)) (i + 1)))), (6, .int (wB (wAll (perR C w h s st e l b) (i + 1)))), (5, .int (wB (wAll (isR C w h s st e l b) (i + 1)))), (11, .int (wB (wornR C w h s st e (b + i)))), (8, .int (nI (i))), (0, wm_r G (96)), (1, .int (nI (l))), (2, .int (nI (st))), (3, .int (nI (e))), (4, .int (nI (b)))] dX10_readFrom_156 (by decide) rfl ?_
                                refine wa_iinc ((nI (i + 1))) [(8, .int (nI (i + 1))), (7, .int (wB (wAny (fun i => wornR C w h s st e (b + i)) (i + 1)))), (6, .int (wB (wAll (perR C w h s st e l b) (i + 1)))), (5, .int (wB (wAll (isR C w h s st e l b) (i + 1)))), (11, .int (wB (wornR C w h s st e (b + i)))), (0, wm_r G (96)), (1, .int (nI (l))), (2, .int (nI (st))), (3, .int (nI (e))), (4, .int (nI (b)))] dX10_readFrom_158 4 rfl (nI_inc _) (by decide) rfl ?_
                                refine wa_goto 12 dX10_readFrom_161 (by decide) ?_
                                refine wa_sub [0, 1, 2, 3, 5, 6, 7, 8, 9] rfl ?_
                                exact ih_12 (i + 1) (by omega) (by omega)
                          refine wa_sub [0, 1, 2, 4, 5, 6, 7, 8, 9, 10] rfl ?_
                          exact L_141  
                        · refine wa_iconst (1) dX10_readFrom_134 (by decide) ?_
                          refine wa_goto 139 dX10_readFrom_135 (by decide) ?_
                          refine wa_eqi (y := (wB (wAll (perR C w h s st e l b) (i + 1)))) (by rw [wAll_s]; unfold perR; first | (rw [c_91]; rfl) | (rw [show wAll (fun j => isR C w h s st e l b j || (wornR C w h s st e (b + j) && decide (C.1 21 (sAt w h st e (b + j)) = C.1 (31 + l) j))) i = true from c_91]; first | (rw [c_96]; rfl) | (rw [c_96, c_101]; rfl) | (rw [c_96, c_101, decide_eq_true c_131]; rfl) | (rw [c_96, c_101, decide_eq_false c_131]; rfl)) | (rw [show wAll (fun j => isR C w h s st e l b j || (wornR C w h s st e (b + j) && decide (C.1 21 (sAt w h st e (b + j)) = C.1 (31 + l) j))) i = false from c_91]; rfl)) ?_
                          refine wa_istore [(6, .int (wB (wAll (perR C w h s st e l b) (i + 1)))), (5, .int (wB (wAll (isR C w h s st e l b) (i + 1)))), (11, .int (wB (wornR C w h s st e (b + i)))), (10, .int (wB (isR C w h s st e l b i))), (8, .int (nI (i))), (7, .int (wB (wAny (fun i => wornR C w h s st e (b + i)) i))), (0, wm_r G (96)), (1, .int (nI (l))), (2, .int (nI (st))), (3, .int (nI (e))), (4, .int (nI (b)))] dX10_readFrom_139 (by decide) rfl ?_
                          have L_141 : WA G t_X10_readFrom (fun v_ N_ => v_ = some (.int (nI (levAt w h (C.1 18) (C.1 19) (C.1 20) (C.1 21) (C.1 (31 + l)) z s st e b))) ∧ N_ = M) 141 [(6, .int (wB (wAll (perR C w h s st e l b) (i + 1)))), (5, .int (wB (wAll (isR C w h s st e l b) (i + 1)))), (11, .int (wB (wornR C w h s st e (b + i)))), (8, .int (nI (i))), (7, .int (wB (wAny (fun i => wornR C w h s st e (b + i)) i))), (0, wm_r G (96)), (1, .int (nI (l))), (2, .int (nI (st))), (3, .int (nI (e))), (4, .int (nI (b)))] [] (M) := by
                            refine wa_iload dX10_readFrom_141 4 rfl ?_
                            refine wa_if_neB 151 dX10_readFrom_143 (by decide) (fun (c_143 : (wAny (fun i => wornR C w h s st e (b + i)) i) = true) => ?_) (fun (c_143 : (wAny (fun i => wornR C w h s st e (b + i)) i) = false) => ?_)
                            · refine wa_iconst (1) dX10_readFrom_151 (by decide) ?_
                              refine wa_goto 156 dX10_readFrom_152 (by decide) ?_
                              refine wa_eqi (y := (wB (wAny (fun i => wornR C w h s st e (b + i)) (i + 1)))) (by rw [wAny_s]; first | (rw [c_143]; rfl) | (rw [c_143, show wornR C w h s st e (b + i) = _ from c_148]; rfl)) ?_
                              refine wa_istore [(7, .int (wB (wAny (fun i => wornR C w h s st e (b + i)) (i + 1)))), (6, .int (wB (wAll (perR C w h s st e l b) (i + 1)))), (5, .int (wB (wAll (isR C w h s st e l b) (i + 1)))), (11, .int (wB (wornR C w h s st e (b + i)))), (8, .int (nI (i))), (0, wm_r G (96)), (1, .int (nI (l))), (2, .int (nI (st))), (3, .int (nI (e))), (4, .int (nI (b)))] dX10_readFrom_156 (by decide) rfl ?_
                              refine wa_iinc ((nI (i + 1))) [(8, .int (nI (i + 1))), (7, .int (wB (wAny (fun i => wornR C w h s st e (b + i)) (i + 1)))), (6, .int (wB (wAll (perR C w h s st e l b) (i + 1)))), (5, .int (wB (wAll (isR C w h s st e l b) (i + 1)))), (11, .int (wB (wornR C w h s st e (b + i)))), (0, wm_r G (96)), (1, .int (nI (l))), (2, .int (nI (st))), (3, .int (nI (e))), (4, .int (nI (b)))] dX10_readFrom_158 4 rfl (nI_inc _) (by decide) rfl ?_
                              refine wa_goto 12 dX10_readFrom_161 (by decide) ?_
                              refine wa_sub [0, 1, 2, 3, 5, 6, 7, 8, 9] rfl ?_
                              exact ih_12 (i + 1) (by omega) (by omega)
                            · refine wa_iload dX10_readFrom_146 2 rfl ?_
                              refine wa_if_eqB 155 dX10_readFrom_148 (by decide) (fun (c_148 : (wornR C w h s st e (b + i)) = false) => ?_) (fun (c_148 : (wornR C w h s st e (b + i)) = true) => ?_)
                              · refine wa_iconst (0) dX10_readFrom_155 (by decide) ?_
                                refine wa_eqi (y := (wB (wAny (fun i => wornR C w h s st e (b + i)) (i + 1)))) (by rw [wAny_s]; first | (rw [c_143]; rfl) | (rw [c_143, show wornR C w h s st e (b + i) = _ from c_148]; rfl)) ?_
                                refine wa_istore [(7, .int (wB (wAny (fun i => wornR C w h s st e (b + i)) (i + 1)))), (6, .int (wB (wAll (perR C w h s st e l b) (i + 1)))), (5, .int (wB (wAll (isR C w h s st e l b) (i + 1)))), (11, .int (wB (wornR C w h s st e (b + i)))), (8, .int (nI (i))), (0, wm_r G (96)), (1, .int (nI (l))), (2, .int (nI (st))), (3, .int (nI (e))), (4, .int (nI (b)))] dX10_readFrom_156 (by decide) rfl ?_
                                refine wa_iinc ((nI (i + 1))) [(8, .int (nI (i + 1))), (7, .int (wB (wAny (fun i => wornR C w h s st e (b + i)) (i + 1)))), (6, .int (wB (wAll (perR C w h s st e l b) (i + 1)))), (5, .int (wB (wAll (isR C w h s st e l b) (i + 1)))), (11, .int (wB (wornR C w h s st e (b + i)))), (0, wm_r G (96)), (1, .int (nI (l))), (2, .int (nI (st))), (3, .int (nI (e))), (4, .int (nI (b)))] dX10_readFrom_158 4 rfl (nI_inc _) (by decide) rfl ?_
                                refine wa_goto 12 dX10_readFrom_161 (by decide) ?_
                                refine wa_sub [0, 1, 2, 3, 5, 6, 7, 8, 9] rfl ?_
                                exact ih_12 (i + 1) (by omega) (by omega)
                              · refine wa_iconst (1) dX10_readFrom_151 (by decide) ?_
                                refine wa_goto 156 dX10_readFrom_152 (by decide) ?_
                                refine wa_eqi (y := (wB (wAny (fun i => wornR C w h s st e (b + i)) (i + 1)))) (by rw [wAny_s]; first | (rw [c_143]; rfl) | (rw [c_143, show wornR C w h s st e (b + i) = _ from c_148]; rfl)) ?_
                                refine wa_istore [(7, .int (wB (wAny (fun i => wornR C w h s st e (b + i)) (i + 1)))), (6, .int (wB (wAll (perR C w h s st e l b) (i + 1)))), (5, .int (wB (wAll (isR C w h s st e l b) (i + 1)))), (11, .int (wB (wornR C w h s st e (b + i)))), (8, .int (nI (i))), (0, wm_r G (96)), (1, .int (nI (l))), (2, .int (nI (st))), (3, .int (nI (e))), (4, .int (nI (b)))] dX10_readFrom_156 (by decide) rfl ?_
                                refine wa_iinc ((nI (i + 1))) [(8, .int (nI (i + 1))), (7, .int (wB (wAny (fun i => wornR C w h s st e (b + i)) (i + 1)))), (6, .int (wB (wAll (perR C w h s st e l b) (i + 1)))), (5, .int (wB (wAll (isR C w h s st e l b) (i + 1)))), (11, .int (wB (wornR C w h s st e (b + i)))), (0, wm_r G (96)), (1, .int (nI (l))), (2, .int (nI (st))), (3, .int (nI (e))), (4, .int (nI (b)))] dX10_readFrom_158 4 rfl (nI_inc _) (by decide) rfl ?_
                                refine wa_goto 12 dX10_readFrom_161 (by decide) ?_
                                refine wa_sub [0, 1, 2, 3, 5, 6, 7, 8, 9] rfl ?_
                                exact ih_12 (i + 1) (by omega) (by omega)
                          refine wa_sub [0, 1, 2, 4, 5, 6, 7, 8, 9, 10] rfl ?_
                          exact L_141  
                exact L_89  
              · refine wa_iconst (1) dX10_readFrom_82 (by decide) ?_
                refine wa_goto 87 dX10_readFrom_83 (by decide) ?_
                refine wa_eqi (y := (wB (wAll (isR C w h s st e l b) (i + 1)))) (by rw [wAll_s]; first | (rw [c_74, c_79]; rfl) | (rw [c_74]; rfl)) ?_
                refine wa_istore [(5, .int (wB (wAll (isR C w h s st e l b) (i + 1)))), (11, .int (wB (wornR C w h s st e (b + i)))), (10, .int (wB (isR C w h s st e l b i))), (8, .int (nI (i))), (7, .int (wB (wAny (fun i => wornR C w h s st e (b + i)) i))), (6, .int (wB (wAll (perR C w h s st e l b) i))), (0, wm_r G (96)), (1, .int (nI (l))), (2, .int (nI (st))), (3, .int (nI (e))), (4, .int (nI (b)))] dX10_readFrom_87 (by decide) rfl ?_
                have L_89 : WA G t_X10_readFrom (fun v_ N_ => v_ = some (.int (nI (levAt w h (C.1 18) (C.1 19) (C.1 20) (C.1 21) (C.1 (31 + l)) z s st e b))) ∧ N_ = M) 89 [(5, .int (wB (wAll (isR C w h s st e l b) (i + 1)))), (11, .int (wB (wornR C w h s st e (b + i)))), (10, .int (wB (isR C w h s st e l b i))), (8, .int (nI (i))), (7, .int (wB (wAny (fun i => wornR C w h s st e (b + i)) i))), (6, .int (wB (wAll (perR C w h s st e l b) i))), (0, wm_r G (96)), (1, .int (nI (l))), (2, .int (nI (st))), (3, .int (nI (e))), (4, .int (nI (b)))] [] (M) := by
                  refine wa_iload dX10_readFrom_89 5 rfl ?_
                  refine wa_if_eqB 138 dX10_readFrom_91 (by decide) (fun (c_91 : (wAll (perR C w h s st e l b) i) = false) => ?_) (fun (c_91 : (wAll (perR C w h s st e l b) i) = true) => ?_)
                  · refine wa_iconst (0) dX10_readFrom_138 (by decide) ?_
                    refine wa_eqi (y := (wB (wAll (perR C w h s st e l b) (i + 1)))) (by rw [wAll_s]; unfold perR; first | (rw [c_91]; rfl) | (rw [show wAll (fun j => isR C w h s st e l b j || (wornR C w h s st e (b + j) && decide (C.1 21 (sAt w h st e (b + j)) = C.1 (31 + l) j))) i = true from c_91]; first | (rw [c_96]; rfl) | (rw [c_96, c_101]; rfl) | (rw [c_96, c_101, decide_eq_true c_131]; rfl) | (rw [c_96, c_101, decide_eq_false c_131]; rfl)) | (rw [show wAll (fun j => isR C w h s st e l b j || (wornR C w h s st e (b + j) && decide (C.1 21 (sAt w h st e (b + j)) = C.1 (31 + l) j))) i = false from c_91]; rfl)) ?_
                    refine wa_istore [(6, .int (wB (wAll (perR C w h s st e l b) (i + 1)))), (5, .int (wB (wAll (isR C w h s st e l b) (i + 1)))), (11, .int (wB (wornR C w h s st e (b + i)))), (10, .int (wB (isR C w h s st e l b i))), (8, .int (nI (i))), (7, .int (wB (wAny (fun i => wornR C w h s st e (b + i)) i))), (0, wm_r G (96)), (1, .int (nI (l))), (2, .int (nI (st))), (3, .int (nI (e))), (4, .int (nI (b)))] dX10_readFrom_139 (by decide) rfl ?_
                    have L_141 : WA G t_X10_readFrom (fun v_ N_ => v_ = some (.int (nI (levAt w h (C.1 18) (C.1 19) (C.1 20) (C.1 21) (C.1 (31 + l)) z s st e b))) ∧ N_ = M) 141 [(6, .int (wB (wAll (perR C w h s st e l b) (i + 1)))), (5, .int (wB (wAll (isR C w h s st e l b) (i + 1)))), (11, .int (wB (wornR C w h s st e (b + i)))), (8, .int (nI (i))), (7, .int (wB (wAny (fun i => wornR C w h s st e (b + i)) i))), (0, wm_r G (96)), (1, .int (nI (l))), (2, .int (nI (st))), (3, .int (nI (e))), (4, .int (nI (b)))] [] (M) := by
                      refine wa_iload dX10_readFrom_141 4 rfl ?_
                      refine wa_if_neB 151 dX10_readFrom_143 (by decide) (fun (c_143 : (wAny (fun i => wornR C w h s st e (b + i)) i) = true) => ?_) (fun (c_143 : (wAny (fun i => wornR C w h s st e (b + i)) i) = false) => ?_)
                      · refine wa_iconst (1) dX10_readFrom_151 (by decide) ?_
                        refine wa_goto 156 dX10_readFrom_152 (by decide) ?_
                        refine wa_eqi (y := (wB (wAny (fun i => wornR C w h s st e (b + i)) (i + 1)))) (by rw [wAny_s]; first | (rw [c_143]; rfl) | (rw [c_143, show wornR C w h s st e (b + i) = _ from c_148]; rfl)) ?_
                        refine wa_istore [(7, .int (wB (wAny (fun i => wornR C w h s st e (b + i)) (i + 1)))), (6, .int (wB (wAll (perR C w h s st e l b) (i + 1)))), (5, .int (wB (wAll (isR C w h s st e l b) (i + 1)))), (11, .int (wB (wornR C w h s st e (b + i)))), (8, .int (nI (i))), (0, wm_r G (96)), (1, .int (nI (l))), (2, .int (nI (st))), (3, .int (nI (e))), (4, .int (nI (b)))] dX10_readFrom_156 (by decide) rfl ?_
                        refine wa_iinc ((nI (i + 1))) [(8, .int (nI (i + 1))), (7, .int (wB (wAny (fun i => wornR C w h s st e (b + i)) (i + 1)))), (6, .int (wB (wAll (perR C w h s st e l b) (i + 1)))), (5, .int (wB (wAll (isR C w h s st e l b) (i + 1)))), (11, .int (wB (wornR C w h s st e (b + i)))), (0, wm_r G (96)), (1, .int (nI (l))), (2, .int (nI (st))), (3, .int (nI (e))), (4, .int (nI (b)))] dX10_readFrom_158 4 rfl (nI_inc _) (by decide) rfl ?_
                        refine wa_goto 12 dX10_readFrom_161 (by decide) ?_
                        refine wa_sub [0, 1, 2, 3, 5, 6, 7, 8, 9] rfl ?_
                        exact ih_12 (i + 1) (by omega) (by omega)
                      · refine wa_iload dX10_readFrom_146 2 rfl ?_
                        refine wa_if_eqB 155 dX10_readFrom_148 (by decide) (fun (c_148 : (wornR C w h s st e (b + i)) = false) => ?_) (fun (c_148 : (wornR C w h s st e (b + i)) = true) => ?_)
                        · refine wa_iconst (0) dX10_readFrom_155 (by decide) ?_
                          refine wa_eqi (y := (wB (wAny (fun i => wornR C w h s st e (b + i)) (i + 1)))) (by rw [wAny_s]; first | (rw [c_143]; rfl) | (rw [c_143, show wornR C w h s st e (b + i) = _ from c_148]; rfl)) ?_
                          refine wa_istore [(7, .int (wB (wAny (fun i => wornR C w h s st e (b + i)) (i + 1)))), (6, .int (wB (wAll (perR C w h s st e l b) (i + 1)))), (5, .int (wB (wAll (isR C w h s st e l b) (i + 1)))), (11, .int (wB (wornR C w h s st e (b + i)))), (8, .int (nI (i))), (0, wm_r G (96)), (1, .int (nI (l))), (2, .int (nI (st))), (3, .int (nI (e))), (4, .int (nI (b)))] dX10_readFrom_156 (by decide) rfl ?_
                          refine wa_iinc ((nI (i + 1))) [(8, .int (nI (i + 1))), (7, .int (wB (wAny (fun i => wornR C w h s st e (b + i)) (i + 1)))), (6, .int (wB (wAll (perR C w h s st e l b) (i + 1)))), (5, .int (wB (wAll (isR C w h s st e l b) (i + 1)))), (11, .int (wB (wornR C w h s st e (b + i)))), (0, wm_r G (96)), (1, .int (nI (l))), (2, .int (nI (st))), (3, .int (nI (e))), (4, .int (nI (b)))] dX10_readFrom_158 4 rfl (nI_inc _) (by decide) rfl ?_
                          refine wa_goto 12 dX10_readFrom_161 (by decide) ?_
                          refine wa_sub [0, 1, 2, 3, 5, 6, 7, 8, 9] rfl ?_
                          exact ih_12 (i + 1) (by omega) (by omega)
                        · refine wa_iconst (1) dX10_readFrom_151 (by decide) ?_
                          refine wa_goto 156 dX10_readFrom_152 (by decide) ?_
                          refine wa_eqi (y := (wB (wAny (fun i => wornR C w h s st e (b + i)) (i + 1)))) (by rw [wAny_s]; first | (rw [c_143]; rfl) | (rw [c_143, show wornR C w h s st e (b + i) = _ from c_148]; rfl)) ?_
                          refine wa_istore [(7, .int (wB (wAny (fun i => wornR C w h s st e (b + i)) (i + 1)))), (6, .int (wB (wAll (perR C w h s st e l b) (i + 1)))), (5, .int (wB (wAll (isR C w h s st e l b) (i + 1)))), (11, .int (wB (wornR C w h s st e (b + i)))), (8, .int (nI (i))), (0, wm_r G (96)), (1, .int (nI (l))), (2, .int (nI (st))), (3, .int (nI (e))), (4, .int (nI (b)))] dX10_readFrom_156 (by decide) rfl ?_
                          refine wa_iinc ((nI (i + 1))) [(8, .int (nI (i + 1))), (7, .int (wB (wAny (fun i => wornR C w h s st e (b + i)) (i + 1)))), (6, .int (wB (wAll (perR C w h s st e l b) (i + 1)))), (5, .int (wB (wAll (isR C w h s st e l b) (i + 1)))), (11, .int (wB (wornR C w h s st e (b + i)))), (0, wm_r G (96)), (1, .int (nI (l))), (2, .int (nI (st))), (3, .int (nI (e))), (4, .int (nI (b)))] dX10_readFrom_158 4 rfl (nI_inc _) (by decide) rfl ?_
                          refine wa_goto 12 dX10_readFrom_161 (by decide) ?_
                          refine wa_sub [0, 1, 2, 3, 5, 6, 7, 8, 9] rfl ?_
                          exact ih_12 (i + 1) (by omega) (by omega)
                    refine wa_sub [0, 1, 2, 4, 5, 6, 7, 8, 9, 10] rfl ?_
                    exact L_141  
                  · refine wa_iload dX10_readFrom_94 2 rfl ?_
                    refine wa_if_neB 134 dX10_readFrom_96 (by decide) (fun (c_96 : (isR C w h s st e l b i) = true) => ?_) (fun (c_96 : (isR C w h s st e l b i) = false) => ?_)
                    · refine wa_iconst (1) dX10_readFrom_134 (by decide) ?_
                      refine wa_goto 139 dX10_readFrom_135 (by decide) ?_
                      refine wa_eqi (y := (wB (wAll (perR C w h s st e l b) (i + 1)))) (by rw [wAll_s]; unfold perR; first | (rw [c_91]; rfl) | (rw [show wAll (fun j => isR C w h s st e l b j || (wornR C w h s st e (b + j) && decide (C.1 21 (sAt w h st e (b + j)) = C.1 (31 + l) j))) i = true from c_91]; first | (rw [c_96]; rfl) | (rw [c_96, c_101]; rfl) | (rw [c_96, c_101, decide_eq_true c_131]; rfl) | (rw [c_96, c_101, decide_eq_false c_131]; rfl)) | (rw [show wAll (fun j => isR C w h s st e l b j || (wornR C w h s st e (b + j) && decide (C.1 21 (sAt w h st e (b + j)) = C.1 (31 + l) j))) i = false from c_91]; rfl)) ?_
                      refine wa_istore [(6, .int (wB (wAll (perR C w h s st e l b) (i + 1)))), (5, .int (wB (wAll (isR C w h s st e l b) (i + 1)))), (11, .int (wB (wornR C w h s st e (b + i)))), (10, .int (wB (isR C w h s st e l b i))), (8, .int (nI (i))), (7, .int (wB (wAny (fun i => wornR C w h s st e (b + i)) i))), (0, wm_r G (96)), (1, .int (nI (l))), (2, .int (nI (st))), (3, .int (nI (e))), (4, .int (nI (b)))] dX10_readFrom_139 (by decide) rfl ?_
                      have L_141 : WA G t_X10_readFrom (fun v_ N_ => v_ = some (.int (nI (levAt w h (C.1 18) (C.1 19) (C.1 20) (C.1 21) (C.1 (31 + l)) z s st e b))) ∧ N_ = M) 141 [(6, .int (wB (wAll (perR C w h s st e l b) (i + 1)))), (5, .int (wB (wAll (isR C w h s st e l b) (i + 1)))), (11, .int (wB (wornR C w h s st e (b + i)))), (8, .int (nI (i))), (7, .int (wB (wAny (fun i => wornR C w h s st e (b + i)) i))), (0, wm_r G (96)), (1, .int (nI (l))), (2, .int (nI (st))), (3, .int (nI (e))), (4, .int (nI (b)))] [] (M) := by
                        refine wa_iload dX10_readFrom_141 4 rfl ?_
                        refine wa_if_neB 151 dX10_readFrom_143 (by decide) (fun (c_143 : (wAny (fun i => wornR C w h s st e (b + i)) i) = true) => ?_) (fun (c_143 : (wAny (fun i => wornR C w h s st e (b + i)) i) = false) => ?_)
                        · refine wa_iconst (1) dX10_readFrom_151 (by decide) ?_
                          refine wa_goto 156 dX10_readFrom_152 (by decide) ?_
                          refine wa_eqi (y := (wB (wAny (fun i => wornR C w h s st e (b + i)) (i + 1)))) (by rw [wAny_s]; first | (rw [c_143]; rfl) | (rw [c_143, show wornR C w h s st e (b + i) = _ from c_148]; rfl)) ?_
                          refine wa_istore [(7, .int (wB (wAny (fun i => wornR C w h s st e (b + i)) (i + 1)))), (6, .int (wB (wAll (perR C w h s st e l b) (i + 1)))), (5, .int (wB (wAll (isR C w h s st e l b) (i + 1)))), (11, .int (wB (wornR C w h s st e (b + i)))), (8, .int (nI (i))), (0, wm_r G (96)), (1, .int (nI (l))), (2, .int (nI (st))), (3, .int (nI (e))), (4, .int (nI (b)))] dX10_readFrom_156 (by decide) rfl ?_
                          refine wa_iinc ((nI (i + 1))) [(8, .int (nI (i + 1))), (7, .int (wB (wAny (fun i => wornR C w h s st e (b + i)) (i + 1)))), (6, .int (wB (wAll (perR C w h s st e l b) (i + 1)))), (5, .int (wB (wAll (isR C w h s st e l b) (i + 1)))), (11, .int (wB (wornR C w h s st e (b + i)))), (0, wm_r G (96)), (1, .int (nI (l))), (2, .int (nI (st))), (3, .int (nI (e))), (4, .int (nI (b)))] dX10_readFrom_158 4 rfl (nI_inc _) (by decide) rfl ?_
                          refine wa_goto 12 dX10_readFrom_161 (by decide) ?_
                          refine wa_sub [0, 1, 2, 3, 5, 6, 7, 8, 9] rfl ?_
                          exact ih_12 (i + 1) (by omega) (by omega)
                        · refine wa_iload dX10_readFrom_146 2 rfl ?_
                          refine wa_if_eqB 155 dX10_readFrom_148 (by decide) (fun (c_148 : (wornR C w h s st e (b + i)) = false) => ?_) (fun (c_148 : (wornR C w h s st e (b + i)) = true) => ?_)
                          · refine wa_iconst (0) dX10_readFrom_155 (by decide) ?_
                            refine wa_eqi (y := (wB (wAny (fun i => wornR C w h s st e (b + i)) (i + 1)))) (by rw [wAny_s]; first | (rw [c_143]; rfl) | (rw [c_143, show wornR C w h s st e (b + i) = _ from c_148]; rfl)) ?_
                            refine wa_istore [(7, .int (wB (wAny (fun i => wornR C w h s st e (b + i)) (i + 1)))), (6, .int (wB (wAll (perR C w h s st e l b) (i + 1)))), (5, .int (wB (wAll (isR C w h s st e l b) (i + 1)))), (11, .int (wB (wornR C w h s st e (b + i)))), (8, .int (nI (i))), (0, wm_r G (96)), (1, .int (nI (l))), (2, .int (nI (st))), (3, .int (nI (e))), (4, .int (nI (b)))] dX10_readFrom_156 (by decide) rfl ?_
                            refine wa_iinc ((nI (i + 1))) [(8, .int (nI (i + 1))), (7, .int (wB (wAny (fun i => wornR C w h s st e (b + i)) (i + 1)))), (6, .int (wB (wAll (perR C w h s st e l b) (i + 1)))), (5, .int (wB (wAll (isR C w h s st e l b) (i + 1)))), (11, .int (wB (wornR C w h s st e (b + i)))), (0, wm_r G (96)), (1, .int (nI (l))), (2, .int (nI (st))), (3, .int (nI (e))), (4, .int (nI (b)))] dX10_readFrom_158 4 rfl (nI_inc _) (by decide) rfl ?_
                            refine wa_goto 12 dX10_readFrom_161 (by decide) ?_
                            refine wa_sub [0, 1, 2, 3, 5, 6, 7, 8, 9] rfl ?_
                            exact ih_12 (i + 1) (by omega) (by omega)
                          · refine wa_iconst (1) dX10_readFrom_151 (by decide) ?_
                            refine wa_goto 156 dX10_readFrom_152 (by decide) ?_
                            refine wa_eqi (y := (wB (wAny (fun i => wornR C w h s st e (b + i)) (i + 1)))) (by rw [wAny_s]; first | (rw [c_143]; rfl) | (rw [c_143, show wornR C w h s st e (b + i) = _ from c_148]; rfl)) ?_
                            refine wa_istore [(7, .int (wB (wAny (fun i => wornR C w h s st e (b + i)) (i + 1)))), (6, .int (wB (wAll (perR C w h s st e l b) (i + 1)))), (5, .int (wB (wAll (isR C w h s st e l b) (i + 1)))), (11, .int (wB (wornR C w h s st e (b + i)))), (8, .int (nI (i))), (0, wm_r G (96)), (1, .int (nI (l))), (2, .int (nI (st))), (3, .int (nI (e))), (4, .int (nI (b)))] dX10_readFrom_156 (by decide) rfl ?_
                            refine wa_iinc ((nI (i + 1))) [(8, .int (nI (i + 1))), (7, .int (wB (wAny (fun i => wornR C w h s st e (b + i)) (i + 1)))), (6, .int (wB (wAll (perR C w h s st e l b) (i + 1)))), (5, .int (wB (wAll (isR C w h s st e l b) (i + 1)))), (11, .int (wB (wornR C w h s st e (b + i)))), (0, wm_r G (96)), (1, .int (nI (l))), (2, .int (nI (st))), (3, .int (nI (e))), (4, .int (nI (b)))] dX10_readFrom_158 4 rfl (nI_inc _) (by decide) rfl ?_
                            refine wa_goto 12 dX10_readFrom_161 (by decide) ?_
                            refine wa_sub [0, 1, 2, 3, 5, 6, 7, 8, 9] rfl ?_
                            exact ih_12 (i + 1) (by omega) (by omega)
                      refine wa_sub [0, 1, 2, 4, 5, 6, 7, 8, 9, 10] rfl ?_
                      exact L_141  
                    · refine wa_iload dX10_readFrom_99 1 rfl ?_
                      refine wa_if_eqB 138 dX10_readFrom_101 (by decide) (fun (c_101 : (wornR C w h s st e (b + i)) = false) => ?_) (fun (c_101 : (wornR C w h s st e (b + i)) = true) => ?_)
                      · refine wa_iconst (0) dX10_readFrom_138 (by decide) ?_
                        refine wa_eqi (y := (wB (wAll (perR C w h s st e l b) (i + 1)))) (by rw [wAll_s]; unfold perR; first | (rw [c_91]; rfl) | (rw [show wAll (fun j => isR C w h s st e l b j || (wornR C w h s st e (b + j) && decide (C.1 21 (sAt w h st e (b + j)) = C.1 (31 + l) j))) i = true from c_91]; first | (rw [c_96]; rfl) | (rw [c_96, c_101]; rfl) | (rw [c_96, c_101, decide_eq_true c_131]; rfl) | (rw [c_96, c_101, decide_eq_false c_131]; rfl)) | (rw [show wAll (fun j => isR C w h s st e l b j || (wornR C w h s st e (b + j) && decide (C.1 21 (sAt w h st e (b + j)) = C.1 (31 + l) j))) i = false from c_91]; rfl)) ?_
                        refine wa_istore [(6, .int (wB (wAll (perR C w h s st e l b) (i + 1)))), (5, .int (wB (wAll (isR C w h s st e l b) (i + 1)))), (11, .int (wB (wornR C w h s st e (b + i)))), (10, .int (wB (isR C w h s st e l b i))), (8, .int (nI (i))), (7, .int (wB (wAny (fun i => wornR C w h s st e (b + i)) i))), (0, wm_r G (96)), (1, .int (nI (l))), (2, .int (nI (st))), (3, .int (nI (e))), (4, .int (nI (b)))] dX10_readFrom_139 (by decide) rfl ?_
                        have L_141 : WA G t_X10_readFrom (fun v_ N_ => v_ = some (.int (nI (levAt w h (C.1 18) (C.1 19) (C.1 20) (C.1 21) (C.1 (31 + l)) z s st e b))) ∧ N_ = M) 141 [(6, .int (wB (wAll (perR C w h s st e l b) (i + 1)))), (5, .int (wB (wAll (isR C w h s st e l b) (i + 1)))), (11, .int (wB (wornR C w h s st e (b + i)))), (8, .int (nI (i))), (7, .int (wB (wAny (fun i => wornR C w h s st e (b + i)) i))), (0, wm_r G (96)), (1, .int (nI (l))), (2, .int (nI (st))), (3, .int (nI (e))), (4, .int (nI (b)))] [] (M) := by
                          refine wa_iload dX10_readFrom_141 4 rfl ?_
                          refine wa_if_neB 151 dX10_readFrom_143 (by decide) (fun (c_143 : (wAny (fun i => wornR C w h s st e (b + i)) i) = true) => ?_) (fun (c_143 : (wAny (fun i => wornR C w h s st e (b + i)) i) = false) => ?_)
                          · refine wa_iconst (1) dX10_readFrom_151 (by decide) ?_
                            refine wa_goto 156 dX10_readFrom_152 (by decide) ?_
                            refine wa_eqi (y := (wB (wAny (fun i => wornR C w h s st e (b + i)) (i + 1)))) (by rw [wAny_s]; first | (rw [c_143]; rfl) | (rw [c_143, show wornR C w h s st e (b + i) = _ from c_148]; rfl)) ?_
                            refine wa_istore [(7, .int (wB (wAny (fun i => wornR C w h s st e (b + i)) (i + 1)))), (6, .int (wB (wAll (perR C w h s st e l b) (i + 1)))), (5, .int (wB (wAll (isR C w h s st e l b) (i + 1)))), (11, .int (wB (wornR C w h s st e (b + i)))), (8, .int (nI (i))), (0, wm_r G (96)), (1, .int (nI (l))), (2, .int (nI (st))), (3, .int (nI (e))), (4, .int (nI (b)))] dX10_readFrom_156 (by decide) rfl ?_
                            refine wa_iinc ((nI (i + 1))) [(8, .int (nI (i + 1))), (7, .int (wB (wAny (fun i => wornR C w h s st e (b + i)) (i + 1)))), (6, .int (wB (wAll (perR C w h s st e l b) (i + 1)))), (5, .int (wB (wAll (isR C w h s st e l b) (i + 1)))), (11, .int (wB (wornR C w h s st e (b + i)))), (0, wm_r G (96)), (1, .int (nI (l))), (2, .int (nI (st))), (3, .int (nI (e))), (4, .int (nI (b)))] dX10_readFrom_158 4 rfl (nI_inc _) (by decide) rfl ?_
                            refine wa_goto 12 dX10_readFrom_161 (by decide) ?_
                            refine wa_sub [0, 1, 2, 3, 5, 6, 7, 8, 9] rfl ?_
                            exact ih_12 (i + 1) (by omega) (by omega)
                          · refine wa_iload dX10_readFrom_146 2 rfl ?_
                            refine wa_if_eqB 155 dX10_readFrom_148 (by decide) (fun (c_148 : (wornR C w h s st e (b + i)) = false) => ?_) (fun (c_148 : (wornR C w h s st e (b + i)) = true) => ?_)
                            · refine wa_iconst (0) dX10_readFrom_155 (by decide) ?_
                              refine wa_eqi (y := (wB (wAny (fun i => wornR C w h s st e (b + i)) (i + 1)))) (by rw [wAny_s]; first | (rw [c_143]; rfl) | (rw [c_143, show wornR C w h s st e (b + i) = _ from c_148]; rfl)) ?_
                              refine wa_istore [(7, .int (wB (wAny (fun i => wornR C w h s st e (b + i)) (i + 1)))), (6, .int (wB (wAll (perR C w h s st e l b) (i + 1)))), (5, .int (wB (wAll (isR C w h s st e l b) (i + 1)))), (11, .int (wB (wornR C w h s st e (b + i)))), (8, .int (nI (i))), (0, wm_r G (96)), (1, .int (nI (l))), (2, .int (nI (st))), (3, .int (nI (e))), (4, .int (nI (b)))] dX10_readFrom_156 (by decide) rfl ?_
                              refine wa_iinc ((nI (i + 1))) [(8, .int (nI (i + 1))), (7, .int (wB (wAny (fun i => wornR C w h s st e (b + i)) (i + 1)))), (6, .int (wB (wAll (perR C w h s st e l b) (i + 1)))), (5, .int (wB (wAll (isR C w h s st e l b) (i + 1)))), (11, .int (wB (wornR C w h s st e (b + i)))), (0, wm_r G (96)), (1, .int (nI (l))), (2, .int (nI (st))), (3, .int (nI (e))), (4, .int (nI (b)))] dX10_readFrom_158 4 rfl (nI_inc _) (by decide) rfl ?_
                              refine wa_goto 12 dX10_readFrom_161 (by decide) ?_
                              refine wa_sub [0, 1, 2, 3, 5, 6, 7, 8, 9] rfl ?_
                              exact ih_12 (i + 1) (by omega) (by omega)
                            · refine wa_iconst (1) dX10_readFrom_151 (by decide) ?_
                              refine wa_goto 156 dX10_readFrom_152 (by decide) ?_
                              refine wa_eqi (y := (wB (wAny (fun i => wornR C w h s st e (b + i)) (i + 1)))) (by rw [wAny_s]; first | (rw [c_143]; rfl) | (rw [c_143, show wornR C w h s st e (b + i) = _ from c_148]; rfl)) ?_
                              refine wa_istore [(7, .int (wB (wAny (fun i => wornR C w h s st e (b + i)) (i + 1)))), (6, .int (wB (wAll (perR C w h s st e l b) (i + 1)))), (5, .int (wB (wAll (isR C w h s st e l b) (i + 1)))), (11, .int (wB (wornR C w h s st e (b + i)))), (8, .int (nI (i))), (0, wm_r G (96)), (1, .int (nI (l))), (2, .int (nI (st))), (3, .int (nI (e))), (4, .int (nI (b)))] dX10_readFrom_156 (by decide) rfl ?_
                              refine wa_iinc ((nI (i + 1))) [(8, .int (nI (i + 1))), (7, .int (wB (wAny (fun i => wornR C w h s st e (b + i)) (i + 1)))), (6, .int (wB (wAll (perR C w h s st e l b) (i + 1)))), (5, .int (wB (wAll (isR C w h s st e l b) (i + 1)))), (11, .int (wB (wornR C w h s st e (b + i)))), (0, wm_r G (96)), (1, .int (nI (l))), (2, .int (nI (st))), (3, .int (nI (e))), (4, .int (nI (b)))] dX10_readFrom_158 4 rfl (nI_inc _) (by decide) rfl ?_
                              refine wa_goto 12 dX10_readFrom_161 (by decide) ?_
                              refine wa_sub [0, 1, 2, 3, 5, 6, 7, 8, 9] rfl ?_
                              exact ih_12 (i + 1) (by omega) (by omega)
                        refine wa_sub [0, 1, 2, 4, 5, 6, 7, 8, 9, 10] rfl ?_
                        exact L_141  
                      · refine wa_aload_n dX10_readFrom_104 rfl 6 rfl ?_
                        refine wa_getr gX10_readFrom_105 (rfl) rfl ?_
                        refine wa_aload_n dX10_readFrom_108 rfl 6 rfl ?_
                        refine wa_iload_n dX10_readFrom_109 rfl 8 rfl ?_
                        refine wa_iload_n dX10_readFrom_110 rfl 9 rfl ?_
                        refine wa_iload dX10_readFrom_111 10 rfl ?_
                        refine wa_iload dX10_readFrom_113 3 rfl ?_
                        refine wa_iaddN (a := b) (b := i) dX10_readFrom_115 ?_
                        refine wa_cVi (x_stoneAt C w h hX hW st e (b + i) hst he (by omega)) vX10_stoneAt iX10_readFrom_116 (rfl) rfl rfl rfl (Nat.le_of_ble_eq_true rfl) ⟨by decide, by decide⟩ ?_
                        have hat := sAt_lt (e := e) hst (show b + i < sLen w h st by omega)
                        refine wa_ialdN (e := sAt w h st e (b + i)) dX10_readFrom_119 (rfl) (by omega) (by decide) ?_
                        refine wa_eqi (y := (C.1 21 (sAt w h st e (b + i)))) (x106 _ hat (by have q := c_101; unfold wornR at q; rw [Bool.and_eq_true] at q; exact of_decide_eq_true q.1)) ?_
                        refine wa_aload_n dX10_readFrom_120 rfl 6 rfl ?_
                        refine wa_getr gX10_readFrom_121 (rfl) rfl ?_
                        refine wa_iconst (3) dX10_readFrom_124 (by decide) ?_
                        refine wa_iload_n dX10_readFrom_125 rfl 7 rfl ?_
                        refine wa_imulN (a := 3) (b := l) dX10_readFrom_126 ?_
                        refine wa_iload dX10_readFrom_127 3 rfl ?_
                        refine wa_iaddN (a := 3 * l) (b := i) dX10_readFrom_129 ?_
                        refine wa_ialdN (e := 3 * l + i) dX10_readFrom_130 (rfl) (by omega) (by decide) ?_
                        refine wa_eqi (y := (C.1 (31 + l) i)) (hlw i (by omega)) ?_
                        refine wa_icmp_ne 138 dX10_readFrom_131 (by decide) (fun c_131 => ?_) (fun c_131 => ?_)
                        · refine wa_iconst (0) dX10_readFrom_138 (by decide) ?_
                          refine wa_eqi (y := (wB (wAll (perR C w h s st e l b) (i + 1)))) (by rw [wAll_s]; unfold perR; first | (rw [c_91]; rfl) | (rw [show wAll (fun j => isR C w h s st e l b j || (wornR C w h s st e (b + j) && decide (C.1 21 (sAt w h st e (b + j)) = C.1 (31 + l) j))) i = true from c_91]; first | (rw [c_96]; rfl) | (rw [c_96, c_101]; rfl) | (rw [c_96, c_101, decide_eq_true c_131]; rfl) | (rw [c_96, c_101, decide_eq_false c_131]; rfl)) | (rw [show wAll (fun j => isR C w h s st e l b j || (wornR C w h s st e (b + j) && decide (C.1 21 (sAt w h st e (b + j)) = C.1 (31 + l) j))) i = false from c_91]; rfl)) ?_
                          refine wa_istore [(6, .int (wB (wAll (perR C w h s st e l b) (i + 1)))), (5, .int (wB (wAll (isR C w h s st e l b) (i + 1)))), (11, .int (wB (wornR C w h s st e (b + i)))), (10, .int (wB (isR C w h s st e l b i))), (8, .int (nI (i))), (7, .int (wB (wAny (fun i => wornR C w h s st e (b + i)) i))), (0, wm_r G (96)), (1, .int (nI (l))), (2, .int (nI (st))), (3, .int (nI (e))), (4, .int (nI (b)))] dX10_readFrom_139 (by decide) rfl ?_
                          have L_141 : WA G t_X10_readFrom (fun v_ N_ => v_ = some (.int (nI (levAt w h (C.1 18) (C.1 19) (C.1 20) (C.1 21) (C.1 (31 + l)) z s st e b))) ∧ N_ = M) 141 [(6, .int (wB (wAll (perR C w h s st e l b) (i + 1)))), (5, .int (wB (wAll (isR C w h s st e l b) (i + 1)))), (11, .int (wB (wornR C w h s st e (b + i)))), (8, .int (nI (i))), (7, .int (wB (wAny (fun i => wornR C w h s st e (b + i)) i))), (0, wm_r G (96)), (1, .int (nI (l))), (2, .int (nI (st))), (3, .int (nI (e))), (4, .int (nI (b)))] [] (M) := by
                            refine wa_iload dX10_readFrom_141 4 rfl ?_
                            refine wa_if_neB 151 dX10_readFrom_143 (by decide) (fun (c_143 : (wAny (fun i => wornR C w h s st e (b + i)) i) = true) => ?_) (fun (c_143 : (wAny (fun i => wornR C w h s st e (b + i)) i) = false) => ?_)
                            · refine wa_iconst (1) dX10_readFrom_151 (by decide) ?_
                              refine wa_goto 156 dX10_readFrom_152 (by decide) ?_
                              refine wa_eqi (y := (wB (wAny (fun i => wornR C w h s st e (b + i)) (i + 1)))) (by rw [wAny_s]; first | (rw [c_143]; rfl) | (rw [c_143, show wornR C w h s st e (b + i) = _ from c_148]; rfl)) ?_
                              refine wa_istore [(7, .int (wB (wAny (fun i => wornR C w h s st e (b + i)) (i + 1)))), (6, .int (wB (wAll (perR C w h s st e l b) (i + 1)))), (5, .int (wB (wAll (isR C w h s st e l b) (i + 1)))), (11, .int (wB (wornR C w h s st e (b + i)))), (8, .int (nI (i))), (0, wm_r G (96)), (1, .int (nI (l))), (2, .int (nI (st))), (3, .int (nI (e))), (4, .int (nI (b)))] dX10_readFrom_156 (by decide) rfl ?_
                              refine wa_iinc ((nI (i + 1))) [(8, .int (nI (i + 1))), (7, .int (wB (wAny (fun i => wornR C w h s st e (b + i)) (i + 1)))), (6, .int (wB (wAll (perR C w h s st e l b) (i + 1)))), (5, .int (wB (wAll (isR C w h s st e l b) (i + 1)))), (11, .int (wB (wornR C w h s st e (b + i)))), (0, wm_r G (96)), (1, .int (nI (l))), (2, .int (nI (st))), (3, .int (nI (e))), (4, .int (nI (b)))] dX10_readFrom_158 4 rfl (nI_inc _) (by decide) rfl ?_
                              refine wa_goto 12 dX10_readFrom_161 (by decide) ?_
                              refine wa_sub [0, 1, 2, 3, 5, 6, 7, 8, 9] rfl ?_
                              exact ih_12 (i + 1) (by omega) (by omega)
                            · refine wa_iload dX10_readFrom_146 2 rfl ?_
                              refine wa_if_eqB 155 dX10_readFrom_148 (by decide) (fun (c_148 : (wornR C w h s st e (b + i)) = false) => ?_) (fun (c_148 : (wornR C w h s st e (b + i)) = true) => ?_)
                              · refine wa_iconst (0) dX10_readFrom_155 (by decide) ?_
                                refine wa_eqi (y := (wB (wAny (fun i => wornR C w h s st e (b + i)) (i + 1)))) (by rw [wAny_s]; first | (rw [c_143]; rfl) | (rw [c_143, show wornR C w h s st e (b + i) = _ from c_148]; rfl)) ?_
                                refine wa_istore [(7, .int (wB (wAny (fun i => wornR C w h s st e (b + i)) (i + 1)))), (6, .int (wB (wAll (perR C w h s st e l b) (i + 1)))), (5, .int (wB (wAll (isR C w h s st e l b) (i + 1)))), (11, .int (wB (wornR C w h s st e (b + i)))), (8, .int (nI (i))), (0, wm_r G (96)), (1, .int (nI (l))), (2, .int (nI (st))), (3, .int (nI (e))), (4, .int (nI (b)))] dX10_readFrom_156 (by decide) rfl ?_
                                refine wa_iinc ((nI (i + 1))) [(8, .int (nI (i + 1))), (7, .int (wB (wAny (fun i => wornR C w h s st e (b + i)) (i + 1)))), (6, .int (wB (wAll (perR C w h s st e l b) (i + 1)))), (5, .int (wB (wAll (isR C w h s st e l b) (i + 1)))), (11, .int (wB (wornR C w h s st e (b + i)))), (0, wm_r G (96)), (1, .int (nI (l))), (2, .int (nI (st))), (3, .int (nI (e))), (4, .int (nI (b)))] dX10_readFrom_158 4 rfl (nI_inc _) (by decide) rfl ?_
                                refine wa_goto 12 dX10_readFrom_161 (by decide) ?_
                                refine wa_sub [0, 1, 2, 3, 5, 6, 7, 8, 9] rfl ?_
                                exact ih_12 (i + 1) (by omega) (by omega)
                              · refine wa_iconst (1) dX10_readFrom_151 (by decide) ?_
                                refine wa_goto 156 dX10_readFrom_152 (by decide) ?_
                                refine wa_eqi (y := (wB (wAny (fun i => wornR C w h s st e (b + i)) (i + 1)))) (by rw [wAny_s]; first | (rw [c_143]; rfl) | (rw [c_143, show wornR C w h s st e (b + i) = _ from c_148]; rfl)) ?_
                                refine wa_istore [(7, .int (wB (wAny (fun i => wornR C w h s st e (b + i)) (i + 1)))), (6, .int (wB (wAll (perR C w h s st e l b) (i + 1)))), (5, .int (wB (wAll (isR C w h s st e l b) (i + 1)))), (11, .int (wB (wornR C w h s st e (b + i)))), (8, .int (nI (i))), (0, wm_r G (96)), (1, .int (nI (l))), (2, .int (nI (st))), (3, .int (nI (e))), (4, .int (nI (b)))] dX10_readFrom_156 (by decide) rfl ?_
                                refine wa_iinc ((nI (i + 1))) [(8, .int (nI (i + 1))), (7, .int (wB (wAny (fun i => wornR C w h s st e (b + i)) (i + 1)))), (6, .int (wB (wAll (perR C w h s st e l b) (i + 1)))), (5, .int (wB (wAll (isR C w h s st e l b) (i + 1)))), (11, .int (wB (wornR C w h s st e (b + i)))), (0, wm_r G (96)), (1, .int (nI (l))), (2, .int (nI (st))), (3, .int (nI (e))), (4, .int (nI (b)))] dX10_readFrom_158 4 rfl (nI_inc _) (by decide) rfl ?_
                                refine wa_goto 12 dX10_readFrom_161 (by decide) ?_
                                refine wa_sub [0, 1, 2, 3, 5, 6, 7, 8, 9] rfl ?_
                                exact ih_12 (i + 1) (by omega) (by omega)
                          refine wa_sub [0, 1, 2, 4, 5, 6, 7, 8, 9, 10] rfl ?_
                          exact L_141  
                        · refine wa_iconst (1) dX10_readFrom_134 (by decide) ?_
                          refine wa_goto 139 dX10_readFrom_135 (by decide) ?_
                          refine wa_eqi (y := (wB (wAll (perR C w h s st e l b) (i + 1)))) (by rw [wAll_s]; unfold perR; first | (rw [c_91]; rfl) | (rw [show wAll (fun j => isR C w h s st e l b j || (wornR C w h s st e (b + j) && decide (C.1 21 (sAt w h st e (b + j)) = C.1 (31 + l) j))) i = true from c_91]; first | (rw [c_96]; rfl) | (rw [c_96, c_101]; rfl) | (rw [c_96, c_101, decide_eq_true c_131]; rfl) | (rw [c_96, c_101, decide_eq_false c_131]; rfl)) | (rw [show wAll (fun j => isR C w h s st e l b j || (wornR C w h s st e (b + j) && decide (C.1 21 (sAt w h st e (b + j)) = C.1 (31 + l) j))) i = false from c_91]; rfl)) ?_
                          refine wa_istore [(6, .int (wB (wAll (perR C w h s st e l b) (i + 1)))), (5, .int (wB (wAll (isR C w h s st e l b) (i + 1)))), (11, .int (wB (wornR C w h s st e (b + i)))), (10, .int (wB (isR C w h s st e l b i))), (8, .int (nI (i))), (7, .int (wB (wAny (fun i => wornR C w h s st e (b + i)) i))), (0, wm_r G (96)), (1, .int (nI (l))), (2, .int (nI (st))), (3, .int (nI (e))), (4, .int (nI (b)))] dX10_readFrom_139 (by decide) rfl ?_
                          have L_141 : WA G t_X10_readFrom (fun v_ N_ => v_ = some (.int (nI (levAt w h (C.1 18) (C.1 19) (C.1 20) (C.1 21) (C.1 (31 + l)) z s st e b))) ∧ N_ = M) 141 [(6, .int (wB (wAll (perR C w h s st e l b) (i + 1)))), (5, .int (wB (wAll (isR C w h s st e l b) (i + 1)))), (11, .int (wB (wornR C w h s st e (b + i)))), (8, .int (nI (i))), (7, .int (wB (wAny (fun i => wornR C w h s st e (b + i)) i))), (0, wm_r G (96)), (1, .int (nI (l))), (2, .int (nI (st))), (3, .int (nI (e))), (4, .int (nI (b)))] [] (M) := by
                            refine wa_iload dX10_readFrom_141 4 rfl ?_
                            refine wa_if_neB 151 dX10_readFrom_143 (by decide) (fun (c_143 : (wAny (fun i => wornR C w h s st e (b + i)) i) = true) => ?_) (fun (c_143 : (wAny (fun i => wornR C w h s st e (b + i)) i) = false) => ?_)
                            · refine wa_iconst (1) dX10_readFrom_151 (by decide) ?_
                              refine wa_goto 156 dX10_readFrom_152 (by decide) ?_
                              refine wa_eqi (y := (wB (wAny (fun i => wornR C w h s st e (b + i)) (i + 1)))) (by rw [wAny_s]; first | (rw [c_143]; rfl) | (rw [c_143, show wornR C w h s st e (b + i) = _ from c_148]; rfl)) ?_
                              refine wa_istore [(7, .int (wB (wAny (fun i => wornR C w h s st e (b + i)) (i + 1)))), (6, .int (wB (wAll (perR C w h s st e l b) (i + 1)))), (5, .int (wB (wAll (isR C w h s st e l b) (i + 1)))), (11, .int (wB (wornR C w h s st e (b + i)))), (8, .int (nI (i))), (0, wm_r G (96)), (1, .int (nI (l))), (2, .int (nI (st))), (3, .int (nI (e))), (4, .int (nI (b)))] dX10_readFrom_156 (by decide) rfl ?_
                              refine wa_iinc ((nI (i + 1))) [(8, .int (nI (i + 1))), (7, .int (wB (wAny (fun i => wornR C w h s st e (b + i)) (i + 1)))), (6, .int (wB (wAll (perR C w h s st e l b) (i + 1)))), (5, .int (wB (wAll (isR C w h s st e l b) (i + 1)))), (11, .int (wB (wornR C w h s st e (b + i)))), (0, wm_r G (96)), (1, .int (nI (l))), (2, .int (nI (st))), (3, .int (nI (e))), (4, .int (nI (b)))] dX10_readFrom_158 4 rfl (nI_inc _) (by decide) rfl ?_
                              refine wa_goto 12 dX10_readFrom_161 (by decide) ?_
                              refine wa_sub [0, 1, 2, 3, 5, 6, 7, 8, 9] rfl ?_
                              exact ih_12 (i + 1) (by omega) (by omega)
                            · refine wa_iload dX10_readFrom_146 2 rfl ?_
                              refine wa_if_eqB 155 dX10_readFrom_148 (by decide) (fun (c_148 : (wornR C w h s st e (b + i)) = false) => ?_) (fun (c_148 : (wornR C w h s st e (b + i)) = true) => ?_)
                              · refine wa_iconst (0) dX10_readFrom_155 (by decide) ?_
                                refine wa_eqi (y := (wB (wAny (fun i => wornR C w h s st e (b + i)) (i + 1)))) (by rw [wAny_s]; first | (rw [c_143]; rfl) | (rw [c_143, show wornR C w h s st e (b + i) = _ from c_148]; rfl)) ?_
                                refine wa_istore [(7, .int (wB (wAny (fun i => wornR C w h s st e (b + i)) (i + 1)))), (6, .int (wB (wAll (perR C w h s st e l b) (i + 1)))), (5, .int (wB (wAll (isR C w h s st e l b) (i + 1)))), (11, .int (wB (wornR C w h s st e (b + i)))), (8, .int (nI (i))), (0, wm_r G (96)), (1, .int (nI (l))), (2, .int (nI (st))), (3, .int (nI (e))), (4, .int (nI (b)))] dX10_readFrom_156 (by decide) rfl ?_
                                refine wa_iinc ((nI (i + 1))) [(8, .int (nI (i + 1))), (7, .int (wB (wAny (fun i => wornR C w h s st e (b + i)) (i + 1)))), (6, .int (wB (wAll (perR C w h s st e l b) (i + 1)))), (5, .int (wB (wAll (isR C w h s st e l b) (i + 1)))), (11, .int (wB (wornR C w h s st e (b + i)))), (0, wm_r G (96)), (1, .int (nI (l))), (2, .int (nI (st))), (3, .int (nI (e))), (4, .int (nI (b)))] dX10_readFrom_158 4 rfl (nI_inc _) (by decide) rfl ?_
                                refine wa_goto 12 dX10_readFrom_161 (by decide) ?_
                                refine wa_sub [0, 1, 2, 3, 5, 6, 7, 8, 9] rfl ?_
                                exact ih_12 (i + 1) (by omega) (by omega)
                              · refine wa_iconst (1) dX10_readFrom_151 (by decide) ?_
                                refine wa_goto 156 dX10_readFrom_152 (by decide) ?_
                                refine wa_eqi (y := (wB (wAny (fun i => wornR C w h s st e (b + i)) (i + 1)))) (by rw [wAny_s]; first | (rw [c_143]; rfl) | (rw [c_143, show wornR C w h s st e (b + i) = _ from c_148]; rfl)) ?_
                                refine wa_istore [(7, .int (wB (wAny (fun i => wornR C w h s st e (b + i)) (i + 1)))), (6, .int (wB (wAll (perR C w h s st e l b) (i + 1)))), (5, .int (wB (wAll (isR C w h s st e l b) (i + 1)))), (11, .int (wB (wornR C w h s st e (b + i)))), (8, .int (nI (i))), (0, wm_r G (96)), (1, .int (nI (l))), (2, .int (nI (st))), (3, .int (nI (e))), (4, .int (nI (b)))] dX10_readFrom_156 (by decide) rfl ?_
                                refine wa_iinc ((nI (i + 1))) [(8, .int (nI (i + 1))), (7, .int (wB (wAny (fun i => wornR C w h s st e (b + i)) (i + 1)))), (6, .int (wB (wAll (perR C w h s st e l b) (i + 1)))), (5, .int (wB (wAll (isR C w h s st e l b) (i + 1)))), (11, .int (wB (wornR C w h s st e (b + i)))), (0, wm_r G (96)), (1, .int (nI (l))), (2, .int (nI (st))), (3, .int (nI (e))), (4, .int (nI (b)))] dX10_readFrom_158 4 rfl (nI_inc _) (by decide) rfl ?_
                                refine wa_goto 12 dX10_readFrom_161 (by decide) ?_
                                refine wa_sub [0, 1, 2, 3, 5, 6, 7, 8, 9] rfl ?_
                                exact ih_12 (i + 1) (by omega) (by omega)
                          refine wa_sub [0, 1, 2, 4, 5, 6, 7, 8, 9, 10] rfl ?_
                          exact L_141  
                exact L_89  
          refine wa_sub [0, 2, 3, 4, 5, 6, 7, 8, 9, 10] rfl ?_
          exact L_59  
        · refine wa_iconst (1) dX10_readFrom_52 (by decide) ?_
          refine wa_goto 57 dX10_readFrom_53 (by decide) ?_
          refine wa_eqi (y := (wB (isR C w h s st e l b i))) (by unfold isR; first | (rw [decide_eq_true c_49]; rfl) | (rw [decide_eq_false c_49]; rfl)) ?_
          refine wa_istore [(10, .int (wB (isR C w h s st e l b i))), (9, .int (wordR C w h s st e (b + i))), (8, .int (nI (i))), (7, .int (wB (wAny (fun i => wornR C w h s st e (b + i)) i))), (6, .int (wB (wAll (perR C w h s st e l b) i))), (5, .int (wB (wAll (isR C w h s st e l b) i))), (0, wm_r G (96)), (1, .int (nI (l))), (2, .int (nI (st))), (3, .int (nI (e))), (4, .int (nI (b)))] dX10_readFrom_57 (by decide) rfl ?_
          have L_59 : WA G t_X10_readFrom (fun v_ N_ => v_ = some (.int (nI (levAt w h (C.1 18) (C.1 19) (C.1 20) (C.1 21) (C.1 (31 + l)) z s st e b))) ∧ N_ = M) 59 [(10, .int (wB (isR C w h s st e l b i))), (8, .int (nI (i))), (7, .int (wB (wAny (fun i => wornR C w h s st e (b + i)) i))), (6, .int (wB (wAll (perR C w h s st e l b) i))), (5, .int (wB (wAll (isR C w h s st e l b) i))), (0, wm_r G (96)), (1, .int (nI (l))), (2, .int (nI (st))), (3, .int (nI (e))), (4, .int (nI (b)))] [] (M) := by
            refine wa_aload_n dX10_readFrom_59 rfl 5 rfl ?_
            refine wa_iload_n dX10_readFrom_60 rfl 7 rfl ?_
            refine wa_iload_n dX10_readFrom_61 rfl 8 rfl ?_
            refine wa_iload dX10_readFrom_62 9 rfl ?_
            refine wa_iload dX10_readFrom_64 1 rfl ?_
            refine wa_iaddN (a := b) (b := i) dX10_readFrom_66 ?_
            refine wa_cVi (x_isWornAt C w h hX hW st e (b + i) hst he (by omega) s hLd) vX10_isWornAt iX10_readFrom_67 (rfl) rfl rfl rfl (Nat.le_of_ble_eq_true rfl) ⟨by decide, by decide⟩ ?_
            refine wa_istore [(11, .int (wB (wornR C w h s st e (b + i)))), (10, .int (wB (isR C w h s st e l b i))), (8, .int (nI (i))), (7, .int (wB (wAny (fun i => wornR C w h s st e (b + i)) i))), (6, .int (wB (wAll (perR C w h s st e l b) i))), (5, .int (wB (wAll (isR C w h s st e l b) i))), (0, wm_r G (96)), (1, .int (nI (l))), (2, .int (nI (st))), (3, .int (nI (e))), (4, .int (nI (b)))] dX10_readFrom_70 (by decide) rfl ?_
            refine wa_iload dX10_readFrom_72 5 rfl ?_
            refine wa_if_eqB 86 dX10_readFrom_74 (by decide) (fun (c_74 : (wAll (isR C w h s st e l b) i) = false) => ?_) (fun (c_74 : (wAll (isR C w h s st e l b) i) = true) => ?_)
            · refine wa_iconst (0) dX10_readFrom_86 (by decide) ?_
              refine wa_eqi (y := (wB (wAll (isR C w h s st e l b) (i + 1)))) (by rw [wAll_s]; first | (rw [c_74, c_79]; rfl) | (rw [c_74]; rfl)) ?_
              refine wa_istore [(5, .int (wB (wAll (isR C w h s st e l b) (i + 1)))), (11, .int (wB (wornR C w h s st e (b + i)))), (10, .int (wB (isR C w h s st e l b i))), (8, .int (nI (i))), (7, .int (wB (wAny (fun i => wornR C w h s st e (b + i)) i))), (6, .int (wB (wAll (perR C w h s st e l b) i))), (0, wm_r G (96)), (1, .int (nI (l))), (2, .int (nI (st))), (3, .int (nI (e))), (4, .int (nI (b)))] dX10_readFrom_87 (by decide) rfl ?_
              have L_89 : WA G t_X10_readFrom (fun v_ N_ => v_ = some (.int (nI (levAt w h (C.1 18) (C.1 19) (C.1 20) (C.1 21) (C.1 (31 + l)) z s st e b))) ∧ N_ = M) 89 [(5, .int (wB (wAll (isR C w h s st e l b) (i + 1)))), (11, .int (wB (wornR C w h s st e (b + i)))), (10, .int (wB (isR C w h s st e l b i))), (8, .int (nI (i))), (7, .int (wB (wAny (fun i => wornR C w h s st e (b + i)) i))), (6, .int (wB (wAll (perR C w h s st e l b) i))), (0, wm_r G (96)), (1, .int (nI (l))), (2, .int (nI (st))), (3, .int (nI (e))), (4, .int (nI (b)))] [] (M) := by
                refine wa_iload dX10_readFrom_89 5 rfl ?_
                refine wa_if_eqB 138 dX10_readFrom_91 (by decide) (fun (c_91 : (wAll (perR C w h s st e l b) i) = false) => ?_) (fun (c_91 : (wAll (perR C w h s st e l b) i) = true) => ?_)
                · refine wa_iconst (0) dX10_readFrom_138 (by decide) ?_
                  refine wa_eqi (y := (wB (wAll (perR C w h s st e l b) (i + 1)))) (by rw [wAll_s]; unfold perR; first | (rw [c_91]; rfl) | (rw [show wAll (fun j => isR C w h s st e l b j || (wornR C w h s st e (b + j) && decide (C.1 21 (sAt w h st e (b + j)) = C.1 (31 + l) j))) i = true from c_91]; first | (rw [c_96]; rfl) | (rw [c_96, c_101]; rfl) | (rw [c_96, c_101, decide_eq_true c_131]; rfl) | (rw [c_96, c_101, decide_eq_false c_131]; rfl)) | (rw [show wAll (fun j => isR C w h s st e l b j || (wornR C w h s st e (b + j) && decide (C.1 21 (sAt w h st e (b + j)) = C.1 (31 + l) j))) i = false from c_91]; rfl)) ?_
                  refine wa_istore [(6, .int (wB (wAll (perR C w h s st e l b) (i + 1)))), (5, .int (wB (wAll (isR C w h s st e l b) (i + 1)))), (11, .int (wB (wornR C w h s st e (b + i)))), (10, .int (wB (isR C w h s st e l b i))), (8, .int (nI (i))), (7, .int (wB (wAny (fun i => wornR C w h s st e (b + i)) i))), (0, wm_r G (96)), (1, .int (nI (l))), (2, .int (nI (st))), (3, .int (nI (e))), (4, .int (nI (b)))] dX10_readFrom_139 (by decide) rfl ?_
                  have L_141 : WA G t_X10_readFrom (fun v_ N_ => v_ = some (.int (nI (levAt w h (C.1 18) (C.1 19) (C.1 20) (C.1 21) (C.1 (31 + l)) z s st e b))) ∧ N_ = M) 141 [(6, .int (wB (wAll (perR C w h s st e l b) (i + 1)))), (5, .int (wB (wAll (isR C w h s st e l b) (i + 1)))), (11, .int (wB (wornR C w h s st e (b + i)))), (8, .int (nI (i))), (7, .int (wB (wAny (fun i => wornR C w h s st e (b + i)) i))), (0, wm_r G (96)), (1, .int (nI (l))), (2, .int (nI (st))), (3, .int (nI (e))), (4, .int (nI (b)))] [] (M) := by
                    refine wa_iload dX10_readFrom_141 4 rfl ?_
                    refine wa_if_neB 151 dX10_readFrom_143 (by decide) (fun (c_143 : (wAny (fun i => wornR C w h s st e (b + i)) i) = true) => ?_) (fun (c_143 : (wAny (fun i => wornR C w h s st e (b + i)) i) = false) => ?_)
                    · refine wa_iconst (1) dX10_readFrom_151 (by decide) ?_
                      refine wa_goto 156 dX10_readFrom_152 (by decide) ?_
                      refine wa_eqi (y := (wB (wAny (fun i => wornR C w h s st e (b + i)) (i + 1)))) (by rw [wAny_s]; first | (rw [c_143]; rfl) | (rw [c_143, show wornR C w h s st e (b + i) = _ from c_148]; rfl)) ?_
                      refine wa_istore [(7, .int (wB (wAny (fun i => wornR C w h s st e (b + i)) (i + 1)))), (6, .int (wB (wAll (perR C w h s st e l b) (i + 1)))), (5, .int (wB (wAll (isR C w h s st e l b) (i + 1)))), (11, .int (wB (wornR C w h s st e (b + i)))), (8, .int (nI (i))), (0, wm_r G (96)), (1, .int (nI (l))), (2, .int (nI (st))), (3, .int (nI (e))), (4, .int (nI (b)))] dX10_readFrom_156 (by decide) rfl ?_
                      refine wa_iinc ((nI (i + 1))) [(8, .int (nI (i + 1))), (7, .int (wB (wAny (fun i => wornR C w h s st e (b + i)) (i + 1)))), (6, .int (wB (wAll (perR C w h s st e l b) (i + 1)))), (5, .int (wB (wAll (isR C w h s st e l b) (i + 1)))), (11, .int (wB (wornR C w h s st e (b + i)))), (0, wm_r G (96)), (1, .int (nI (l))), (2, .int (nI (st))), (3, .int (nI (e))), (4, .int (nI (b)))] dX10_readFrom_158 4 rfl (nI_inc _) (by decide) rfl ?_
                      refine wa_goto 12 dX10_readFrom_161 (by decide) ?_
                      refine wa_sub [0, 1, 2, 3, 5, 6, 7, 8, 9] rfl ?_
                      exact ih_12 (i + 1) (by omega) (by omega)
                    · refine wa_iload dX10_readFrom_146 2 rfl ?_
                      refine wa_if_eqB 155 dX10_readFrom_148 (by decide) (fun (c_148 : (wornR C w h s st e (b + i)) = false) => ?_) (fun (c_148 : (wornR C w h s st e (b + i)) = true) => ?_)
                      · refine wa_iconst (0) dX10_readFrom_155 (by decide) ?_
                        refine wa_eqi (y := (wB (wAny (fun i => wornR C w h s st e (b + i)) (i + 1)))) (by rw [wAny_s]; first | (rw [c_143]; rfl) | (rw [c_143, show wornR C w h s st e (b + i) = _ from c_148]; rfl)) ?_
                        refine wa_istore [(7, .int (wB (wAny (fun i => wornR C w h s st e (b + i)) (i + 1)))), (6, .int (wB (wAll (perR C w h s st e l b) (i + 1)))), (5, .int (wB (wAll (isR C w h s st e l b) (i + 1)))), (11, .int (wB (wornR C w h s st e (b + i)))), (8, .int (nI (i))), (0, wm_r G (96)), (1, .int (nI (l))), (2, .int (nI (st))), (3, .int (nI (e))), (4, .int (nI (b)))] dX10_readFrom_156 (by decide) rfl ?_
                        refine wa_iinc ((nI (i + 1))) [(8, .int (nI (i + 1))), (7, .int (wB (wAny (fun i => wornR C w h s st e (b + i)) (i + 1)))), (6, .int (wB (wAll (perR C w h s st e l b) (i + 1)))), (5, .int (wB (wAll (isR C w h s st e l b) (i + 1)))), (11, .int (wB (wornR C w h s st e (b + i)))), (0, wm_r G (96)), (1, .int (nI (l))), (2, .int (nI (st))), (3, .int (nI (e))), (4, .int (nI (b)))] dX10_readFrom_158 4 rfl (nI_inc _) (by decide) rfl ?_
                        refine wa_goto 12 dX10_readFrom_161 (by decide) ?_
                        refine wa_sub [0, 1, 2, 3, 5, 6, 7, 8, 9] rfl ?_
                        exact ih_12 (i + 1) (by omega) (by omega)
                      · refine wa_iconst (1) dX10_readFrom_151 (by decide) ?_
                        refine wa_goto 156 dX10_readFrom_152 (by decide) ?_
                        refine wa_eqi (y := (wB (wAny (fun i => wornR C w h s st e (b + i)) (i + 1)))) (by rw [wAny_s]; first | (rw [c_143]; rfl) | (rw [c_143, show wornR C w h s st e (b + i) = _ from c_148]; rfl)) ?_
                        refine wa_istore [(7, .int (wB (wAny (fun i => wornR C w h s st e (b + i)) (i + 1)))), (6, .int (wB (wAll (perR C w h s st e l b) (i + 1)))), (5, .int (wB (wAll (isR C w h s st e l b) (i + 1)))), (11, .int (wB (wornR C w h s st e (b + i)))), (8, .int (nI (i))), (0, wm_r G (96)), (1, .int (nI (l))), (2, .int (nI (st))), (3, .int (nI (e))), (4, .int (nI (b)))] dX10_readFrom_156 (by decide) rfl ?_
                        refine wa_iinc ((nI (i + 1))) [(8, .int (nI (i + 1))), (7, .int (wB (wAny (fun i => wornR C w h s st e (b + i)) (i + 1)))), (6, .int (wB (wAll (perR C w h s st e l b) (i + 1)))), (5, .int (wB (wAll (isR C w h s st e l b) (i + 1)))), (11, .int (wB (wornR C w h s st e (b + i)))), (0, wm_r G (96)), (1, .int (nI (l))), (2, .int (nI (st))), (3, .int (nI (e))), (4, .int (nI (b)))] dX10_readFrom_158 4 rfl (nI_inc _) (by decide) rfl ?_
                        refine wa_goto 12 dX10_readFrom_161 (by decide) ?_
                        refine wa_sub [0, 1, 2, 3, 5, 6, 7, 8, 9] rfl ?_
                        exact ih_12 (i + 1) (by omega) (by omega)
                  refine wa_sub [0, 1, 2, 4, 5, 6, 7, 8, 9, 10] rfl ?_
                  exact L_141  
                · refine wa_iload dX10_readFrom_94 2 rfl ?_
                  refine wa_if_neB 134 dX10_readFrom_96 (by decide) (fun (c_96 : (isR C w h s st e l b i) = true) => ?_) (fun (c_96 : (isR C w h s st e l b i) = false) => ?_)
                  · refine wa_iconst (1) dX10_readFrom_134 (by decide) ?_
                    refine wa_goto 139 dX10_readFrom_135 (by decide) ?_
                    refine wa_eqi (y := (wB (wAll (perR C w h s st e l b) (i + 1)))) (by rw [wAll_s]; unfold perR; first | (rw [c_91]; rfl) | (rw [show wAll (fun j => isR C w h s st e l b j || (wornR C w h s st e (b + j) && decide (C.1 21 (sAt w h st e (b + j)) = C.1 (31 + l) j))) i = true from c_91]; first | (rw [c_96]; rfl) | (rw [c_96, c_101]; rfl) | (rw [c_96, c_101, decide_eq_true c_131]; rfl) | (rw [c_96, c_101, decide_eq_false c_131]; rfl)) | (rw [show wAll (fun j => isR C w h s st e l b j || (wornR C w h s st e (b + j) && decide (C.1 21 (sAt w h st e (b + j)) = C.1 (31 + l) j))) i = false from c_91]; rfl)) ?_
                    refine wa_istore [(6, .int (wB (wAll (perR C w h s st e l b) (i + 1)))), (5, .int (wB (wAll (isR C w h s st e l b) (i + 1)))), (11, .int (wB (wornR C w h s st e (b + i)))), (10, .int (wB (isR C w h s st e l b i))), (8, .int (nI (i))), (7, .int (wB (wAny (fun i => wornR C w h s st e (b + i)) i))), (0, wm_r G (96)), (1, .int (nI (l))), (2, .int (nI (st))), (3, .int (nI (e))), (4, .int (nI (b)))] dX10_readFrom_139 (by decide) rfl ?_
                    have L_141 : WA G t_X10_readFrom (fun v_ N_ => v_ = some (.int (nI (levAt w h (C.1 18) (C.1 19) (C.1 20) (C.1 21) (C.1 (31 + l)) z s st e b))) ∧ N_ = M) 141 [(6, .int (wB (wAll (perR C w h s st e l b) (i + 1)))), (5, .int (wB (wAll (isR C w h s st e l b) (i + 1)))), (11, .int (wB (wornR C w h s st e (b + i)))), (8, .int (nI (i))), (7, .int (wB (wAny (fun i => wornR C w h s st e (b + i)) i))), (0, wm_r G (96)), (1, .int (nI (l))), (2, .int (nI (st))), (3, .int (nI (e))), (4, .int (nI (b)))] [] (M) := by
                      refine wa_iload dX10_readFrom_141 4 rfl ?_
                      refine wa_if_neB 151 dX10_readFrom_143 (by decide) (fun (c_143 : (wAny (fun i => wornR C w h s st e (b + i)) i) = true) => ?_) (fun (c_143 : (wAny (fun i => wornR C w h s st e (b + i)) i) = false) => ?_)
                      · refine wa_iconst (1) dX10_readFrom_151 (by decide) ?_
                        refine wa_goto 156 dX10_readFrom_152 (by decide) ?_
                        refine wa_eqi (y := (wB (wAny (fun i => wornR C w h s st e (b + i)) (i + 1)))) (by rw [wAny_s]; first | (rw [c_143]; rfl) | (rw [c_143, show wornR C w h s st e (b + i) = _ from c_148]; rfl)) ?_
                        refine wa_istore [(7, .int (wB (wAny (fun i => wornR C w h s st e (b + i)) (i + 1)))), (6, .int (wB (wAll (perR C w h s st e l b) (i + 1)))), (5, .int (wB (wAll (isR C w h s st e l b) (i + 1)))), (11, .int (wB (wornR C w h s st e (b + i)))), (8, .int (nI (i))), (0, wm_r G (96)), (1, .int (nI (l))), (2, .int (nI (st))), (3, .int (nI (e))), (4, .int (nI (b)))] dX10_readFrom_156 (by decide) rfl ?_
                        refine wa_iinc ((nI (i + 1))) [(8, .int (nI (i + 1))), (7, .int (wB (wAny (fun i => wornR C w h s st e (b + i)) (i + 1)))), (6, .int (wB (wAll (perR C w h s st e l b) (i + 1)))), (5, .int (wB (wAll (isR C w h s st e l b) (i + 1)))), (11, .int (wB (wornR C w h s st e (b + i)))), (0, wm_r G (96)), (1, .int (nI (l))), (2, .int (nI (st))), (3, .int (nI (e))), (4, .int (nI (b)))] dX10_readFrom_158 4 rfl (nI_inc _) (by decide) rfl ?_
                        refine wa_goto 12 dX10_readFrom_161 (by decide) ?_
                        refine wa_sub [0, 1, 2, 3, 5, 6, 7, 8, 9] rfl ?_
                        exact ih_12 (i + 1) (by omega) (by omega)
                      · refine wa_iload dX10_readFrom_146 2 rfl ?_
                        refine wa_if_eqB 155 dX10_readFrom_148 (by decide) (fun (c_148 : (wornR C w h s st e (b + i)) = false) => ?_) (fun (c_148 : (wornR C w h s st e (b + i)) = true) => ?_)
                        · refine wa_iconst (0) dX10_readFrom_155 (by decide) ?_
                          refine wa_eqi (y := (wB (wAny (fun i => wornR C w h s st e (b + i)) (i + 1)))) (by rw [wAny_s]; first | (rw [c_143]; rfl) | (rw [c_143, show wornR C w h s st e (b + i) = _ from c_148]; rfl)) ?_
                          refine wa_istore [(7, .int (wB (wAny (fun i => wornR C w h s st e (b + i)) (i + 1)))), (6, .int (wB (wAll (perR C w h s st e l b) (i + 1)))), (5, .int (wB (wAll (isR C w h s st e l b) (i + 1)))), (11, .int (wB (wornR C w h s st e (b + i)))), (8, .int (nI (i))), (0, wm_r G (96)), (1, .int (nI (l))), (2, .int (nI (st))), (3, .int (nI (e))), (4, .int (nI (b)))] dX10_readFrom_156 (by decide) rfl ?_
                          refine wa_iinc ((nI (i + 1))) [(8, .int (nI (i + 1))), (7, .int (wB (wAny (fun i => wornR C w h s st e (b + i)) (i + 1)))), (6, .int (wB (wAll (perR C w h s st e l b) (i + 1)))), (5, .int (wB (wAll (isR C w h s st e l b) (i + 1)))), (11, .int (wB (wornR C w h s st e (b + i)))), (0, wm_r G (96)), (1, .int (nI (l))), (2, .int (nI (st))), (3, .int (nI (e))), (4, .int (nI (b)))] dX10_readFrom_158 4 rfl (nI_inc _) (by decide) rfl ?_
                          refine wa_goto 12 dX10_readFrom_161 (by decide) ?_
                          refine wa_sub [0, 1, 2, 3, 5, 6, 7, 8, 9] rfl ?_
                          exact ih_12 (i + 1) (by omega) (by omega)
                        · refine wa_iconst (1) dX10_readFrom_151 (by decide) ?_
                          refine wa_goto 156 dX10_readFrom_152 (by decide) ?_
                          refine wa_eqi (y := (wB (wAny (fun i => wornR C w h s st e (b + i)) (i + 1)))) (by rw [wAny_s]; first | (rw [c_143]; rfl) | (rw [c_143, show wornR C w h s st e (b + i) = _ from c_148]; rfl)) ?_
                          refine wa_istore [(7, .int (wB (wAny (fun i => wornR C w h s st e (b + i)) (i + 1)))), (6, .int (wB (wAll (perR C w h s st e l b) (i + 1)))), (5, .int (wB (wAll (isR C w h s st e l b) (i + 1)))), (11, .int (wB (wornR C w h s st e (b + i)))), (8, .int (nI (i))), (0, wm_r G (96)), (1, .int (nI (l))), (2, .int (nI (st))), (3, .int (nI (e))), (4, .int (nI (b)))] dX10_readFrom_156 (by decide) rfl ?_
                          refine wa_iinc ((nI (i + 1))) [(8, .int (nI (i + 1))), (7, .int (wB (wAny (fun i => wornR C w h s st e (b + i)) (i + 1)))), (6, .int (wB (wAll (perR C w h s st e l b) (i + 1)))), (5, .int (wB (wAll (isR C w h s st e l b) (i + 1)))), (11, .int (wB (wornR C w h s st e (b + i)))), (0, wm_r G (96)), (1, .int (nI (l))), (2, .int (nI (st))), (3, .int (nI (e))), (4, .int (nI (b)))] dX10_readFrom_158 4 rfl (nI_inc _) (by decide) rfl ?_
                          refine wa_goto 12 dX10_readFrom_161 (by decide) ?_
                          refine wa_sub [0, 1, 2, 3, 5, 6, 7, 8, 9] rfl ?_
                          exact ih_12 (i + 1) (by omega) (by omega)
                    refine wa_sub [0, 1, 2, 4, 5, 6, 7, 8, 9, 10] rfl ?_
                    exact L_141  
                  · refine wa_iload dX10_readFrom_99 1 rfl ?_
                    refine wa_if_eqB 138 dX10_readFrom_101 (by decide) (fun (c_101 : (wornR C w h s st e (b + i)) = false) => ?_) (fun (c_101 : (wornR C w h s st e (b + i)) = true) => ?_)
                    · refine wa_iconst (0) dX10_readFrom_138 (by decide) ?_
                      refine wa_eqi (y := (wB (wAll (perR C w h s st e l b) (i + 1)))) (by rw [wAll_s]; unfold perR; first | (rw [c_91]; rfl) | (rw [show wAll (fun j => isR C w h s st e l b j || (wornR C w h s st e (b + j) && decide (C.1 21 (sAt w h st e (b + j)) = C.1 (31 + l) j))) i = true from c_91]; first | (rw [c_96]; rfl) | (rw [c_96, c_101]; rfl) | (rw [c_96, c_101, decide_eq_true c_131]; rfl) | (rw [c_96, c_101, decide_eq_false c_131]; rfl)) | (rw [show wAll (fun j => isR C w h s st e l b j || (wornR C w h s st e (b + j) && decide (C.1 21 (sAt w h st e (b + j)) = C.1 (31 + l) j))) i = false from c_91]; rfl)) ?_
                      refine wa_istore [(6, .int (wB (wAll (perR C w h s st e l b) (i + 1)))), (5, .int (wB (wAll (isR C w h s st e l b) (i + 1)))), (11, .int (wB (wornR C w h s st e (b + i)))), (10, .int (wB (isR C w h s st e l b i))), (8, .int (nI (i))), (7, .int (wB (wAny (fun i => wornR C w h s st e (b + i)) i))), (0, wm_r G (96)), (1, .int (nI (l))), (2, .int (nI (st))), (3, .int (nI (e))), (4, .int (nI (b)))] dX10_readFrom_139 (by decide) rfl ?_
                      have L_141 : WA G t_X10_readFrom (fun v_ N_ => v_ = some (.int (nI (levAt w h (C.1 18) (C.1 19) (C.1 20) (C.1 21) (C.1 (31 + l)) z s st e b))) ∧ N_ = M) 141 [(6, .int (wB (wAll (perR C w h s st e l b) (i + 1)))), (5, .int (wB (wAll (isR C w h s st e l b) (i + 1)))), (11, .int (wB (wornR C w h s st e (b + i)))), (8, .int (nI (i))), (7, .int (wB (wAny (fun i => wornR C w h s st e (b + i)) i))), (0, wm_r G (96)), (1, .int (nI (l))), (2, .int (nI (st))), (3, .int (nI (e))), (4, .int (nI (b)))] [] (M) := by
                        refine wa_iload dX10_readFrom_141 4 rfl ?_
                        refine wa_if_neB 151 dX10_readFrom_143 (by decide) (fun (c_143 : (wAny (fun i => wornR C w h s st e (b + i)) i) = true) => ?_) (fun (c_143 : (wAny (fun i => wornR C w h s st e (b + i)) i) = false) => ?_)
                        · refine wa_iconst (1) dX10_readFrom_151 (by decide) ?_
                          refine wa_goto 156 dX10_readFrom_152 (by decide) ?_
                          refine wa_eqi (y := (wB (wAny (fun i => wornR C w h s st e (b + i)) (i + 1)))) (by rw [wAny_s]; first | (rw [c_143]; rfl) | (rw [c_143, show wornR C w h s st e (b + i) = _ from c_148]; rfl)) ?_
                          refine wa_istore [(7, .int (wB (wAny (fun i => wornR C w h s st e (b + i)) (i + 1)))), (6, .int (wB (wAll (perR C w h s st e l b) (i + 1)))), (5, .int (wB (wAll (isR C w h s st e l b) (i + 1)))), (11, .int (wB (wornR C w h s st e (b + i)))), (8, .int (nI (i))), (0, wm_r G (96)), (1, .int (nI (l))), (2, .int (nI (st))), (3, .int (nI (e))), (4, .int (nI (b)))] dX10_readFrom_156 (by decide) rfl ?_
                          refine wa_iinc ((nI (i + 1))) [(8, .int (nI (i + 1))), (7, .int (wB (wAny (fun i => wornR C w h s st e (b + i)) (i + 1)))), (6, .int (wB (wAll (perR C w h s st e l b) (i + 1)))), (5, .int (wB (wAll (isR C w h s st e l b) (i + 1)))), (11, .int (wB (wornR C w h s st e (b + i)))), (0, wm_r G (96)), (1, .int (nI (l))), (2, .int (nI (st))), (3, .int (nI (e))), (4, .int (nI (b)))] dX10_readFrom_158 4 rfl (nI_inc _) (by decide) rfl ?_
                          refine wa_goto 12 dX10_readFrom_161 (by decide) ?_
                          refine wa_sub [0, 1, 2, 3, 5, 6, 7, 8, 9] rfl ?_
                          exact ih_12 (i + 1) (by omega) (by omega)
                        · refine wa_iload dX10_readFrom_146 2 rfl ?_
                          refine wa_if_eqB 155 dX10_readFrom_148 (by decide) (fun (c_148 : (wornR C w h s st e (b + i)) = false) => ?_) (fun (c_148 : (wornR C w h s st e (b + i)) = true) => ?_)
                          · refine wa_iconst (0) dX10_readFrom_155 (by decide) ?_
                            refine wa_eqi (y := (wB (wAny (fun i => wornR C w h s st e (b + i)) (i + 1)))) (by rw [wAny_s]; first | (rw [c_143]; rfl) | (rw [c_143, show wornR C w h s st e (b + i) = _ from c_148]; rfl)) ?_
                            refine wa_istore [(7, .int (wB (wAny (fun i => wornR C w h s st e (b + i)) (i + 1)))), (6, .int (wB (wAll (perR C w h s st e l b) (i + 1)))), (5, .int (wB (wAll (isR C w h s st e l b) (i + 1)))), (11, .int (wB (wornR C w h s st e (b + i)))), (8, .int (nI (i))), (0, wm_r G (96)), (1, .int (nI (l))), (2, .int (nI (st))), (3, .int (nI (e))), (4, .int (nI (b)))] dX10_readFrom_156 (by decide) rfl ?_
                            refine wa_iinc ((nI (i + 1))) [(8, .int (nI (i + 1))), (7, .int (wB (wAny (fun i => wornR C w h s st e (b + i)) (i + 1)))), (6, .int (wB (wAll (perR C w h s st e l b) (i + 1)))), (5, .int (wB (wAll (isR C w h s st e l b) (i + 1)))), (11, .int (wB (wornR C w h s st e (b + i)))), (0, wm_r G (96)), (1, .int (nI (l))), (2, .int (nI (st))), (3, .int (nI (e))), (4, .int (nI (b)))] dX10_readFrom_158 4 rfl (nI_inc _) (by decide) rfl ?_
                            refine wa_goto 12 dX10_readFrom_161 (by decide) ?_
                            refine wa_sub [0, 1, 2, 3, 5, 6, 7, 8, 9] rfl ?_
                            exact ih_12 (i + 1) (by omega) (by omega)
                          · refine wa_iconst (1) dX10_readFrom_151 (by decide) ?_
                            refine wa_goto 156 dX10_readFrom_152 (by decide) ?_
                            refine wa_eqi (y := (wB (wAny (fun i => wornR C w h s st e (b + i)) (i + 1)))) (by rw [wAny_s]; first | (rw [c_143]; rfl) | (rw [c_143, show wornR C w h s st e (b + i) = _ from c_148]; rfl)) ?_
                            refine wa_istore [(7, .int (wB (wAny (fun i => wornR C w h s st e (b + i)) (i + 1)))), (6, .int (wB (wAll (perR C w h s st e l b) (i + 1)))), (5, .int (wB (wAll (isR C w h s st e l b) (i + 1)))), (11, .int (wB (wornR C w h s st e (b + i)))), (8, .int (nI (i))), (0, wm_r G (96)), (1, .int (nI (l))), (2, .int (nI (st))), (3, .int (nI (e))), (4, .int (nI (b)))] dX10_readFrom_156 (by decide) rfl ?_
                            refine wa_iinc ((nI (i + 1))) [(8, .int (nI (i + 1))), (7, .int (wB (wAny (fun i => wornR C w h s st e (b + i)) (i + 1)))), (6, .int (wB (wAll (perR C w h s st e l b) (i + 1)))), (5, .int (wB (wAll (isR C w h s st e l b) (i + 1)))), (11, .int (wB (wornR C w h s st e (b + i)))), (0, wm_r G (96)), (1, .int (nI (l))), (2, .int (nI (st))), (3, .int (nI (e))), (4, .int (nI (b)))] dX10_readFrom_158 4 rfl (nI_inc _) (by decide) rfl ?_
                            refine wa_goto 12 dX10_readFrom_161 (by decide) ?_
                            refine wa_sub [0, 1, 2, 3, 5, 6, 7, 8, 9] rfl ?_
                            exact ih_12 (i + 1) (by omega) (by omega)
                      refine wa_sub [0, 1, 2, 4, 5, 6, 7, 8, 9, 10] rfl ?_
                      exact L_141  
                    · refine wa_aload_n dX10_readFrom_104 rfl 6 rfl ?_
                      refine wa_getr gX10_readFrom_105 (rfl) rfl ?_
                      refine wa_aload_n dX10_readFrom_108 rfl 6 rfl ?_
                      refine wa_iload_n dX10_readFrom_109 rfl 8 rfl ?_
                      refine wa_iload_n dX10_readFrom_110 rfl 9 rfl ?_
                      refine wa_iload dX10_readFrom_111 10 rfl ?_
                      refine wa_iload dX10_readFrom_113 3 rfl ?_
                      refine wa_iaddN (a := b) (b := i) dX10_readFrom_115 ?_
                      refine wa_cVi (x_stoneAt C w h hX hW st e (b + i) hst he (by omega)) vX10_stoneAt iX10_readFrom_116 (rfl) rfl rfl rfl (Nat.le_of_ble_eq_true rfl) ⟨by decide, by decide⟩ ?_
                      have hat := sAt_lt (e := e) hst (show b + i < sLen w h st by omega)
                      refine wa_ialdN (e := sAt w h st e (b + i)) dX10_readFrom_119 (rfl) (by omega) (by decide) ?_
                      refine wa_eqi (y := (C.1 21 (sAt w h st e (b + i)))) (x106 _ hat (by have q := c_101; unfold wornR at q; rw [Bool.and_eq_true] at q; exact of_decide_eq_true q.1)) ?_
                      refine wa_aload_n dX10_readFrom_120 rfl 6 rfl ?_
                      refine wa_getr gX10_readFrom_121 (rfl) rfl ?_
                      refine wa_iconst (3) dX10_readFrom_124 (by decide) ?_
                      refine wa_iload_n dX10_readFrom_125 rfl 7 rfl ?_
                      refine wa_imulN (a := 3) (b := l) dX10_readFrom_126 ?_
                      refine wa_iload dX10_readFrom_127 3 rfl ?_
                      refine wa_iaddN (a := 3 * l) (b := i) dX10_readFrom_129 ?_
                      refine wa_ialdN (e := 3 * l + i) dX10_readFrom_130 (rfl) (by omega) (by decide) ?_
                      refine wa_eqi (y := (C.1 (31 + l) i)) (hlw i (by omega)) ?_
                      refine wa_icmp_ne 138 dX10_readFrom_131 (by decide) (fun c_131 => ?_) (fun c_131 => ?_)
                      · refine wa_iconst (0) dX10_readFrom_138 (by decide) ?_
                        refine wa_eqi (y := (wB (wAll (perR C w h s st e l b) (i + 1)))) (by rw [wAll_s]; unfold perR; first | (rw [c_91]; rfl) | (rw [show wAll (fun j => isR C w h s st e l b j || (wornR C w h s st e (b + j) && decide (C.1 21 (sAt w h st e (b + j)) = C.1 (31 + l) j))) i = true from c_91]; first | (rw [c_96]; rfl) | (rw [c_96, c_101]; rfl) | (rw [c_96, c_101, decide_eq_true c_131]; rfl) | (rw [c_96, c_101, decide_eq_false c_131]; rfl)) | (rw [show wAll (fun j => isR C w h s st e l b j || (wornR C w h s st e (b + j) && decide (C.1 21 (sAt w h st e (b + j)) = C.1 (31 + l) j))) i = false from c_91]; rfl)) ?_
                        refine wa_istore [(6, .int (wB (wAll (perR C w h s st e l b) (i + 1)))), (5, .int (wB (wAll (isR C w h s st e l b) (i + 1)))), (11, .int (wB (wornR C w h s st e (b + i)))), (10, .int (wB (isR C w h s st e l b i))), (8, .int (nI (i))), (7, .int (wB (wAny (fun i => wornR C w h s st e (b + i)) i))), (0, wm_r G (96)), (1, .int (nI (l))), (2, .int (nI (st))), (3, .int (nI (e))), (4, .int (nI (b)))] dX10_readFrom_139 (by decide) rfl ?_
                        have L_141 : WA G t_X10_readFrom (fun v_ N_ => v_ = some (.int (nI (levAt w h (C.1 18) (C.1 19) (C.1 20) (C.1 21) (C.1 (31 + l)) z s st e b))) ∧ N_ = M) 141 [(6, .int (wB (wAll (perR C w h s st e l b) (i + 1)))), (5, .int (wB (wAll (isR C w h s st e l b) (i + 1)))), (11, .int (wB (wornR C w h s st e (b + i)))), (8, .int (nI (i))), (7, .int (wB (wAny (fun i => wornR C w h s st e (b + i)) i))), (0, wm_r G (96)), (1, .int (nI (l))), (2, .int (nI (st))), (3, .int (nI (e))), (4, .int (nI (b)))] [] (M) := by
                          refine wa_iload dX10_readFrom_141 4 rfl ?_
                          refine wa_if_neB 151 dX10_readFrom_143 (by decide) (fun (c_143 : (wAny (fun i => wornR C w h s st e (b + i)) i) = true) => ?_) (fun (c_143 : (wAny (fun i => wornR C w h s st e (b + i)) i) = false) => ?_)
                          · refine wa_iconst (1) dX10_readFrom_151 (by decide) ?_
                            refine wa_goto 156 dX10_readFrom_152 (by decide) ?_
                            refine wa_eqi (y := (wB (wAny (fun i => wornR C w h s st e (b + i)) (i + 1)))) (by rw [wAny_s]; first | (rw [c_143]; rfl) | (rw [c_143, show wornR C w h s st e (b + i) = _ from c_148]; rfl)) ?_
                            refine wa_istore [(7, .int (wB (wAny (fun i => wornR C w h s st e (b + i)) (i + 1)))), (6, .int (wB (wAll (perR C w h s st e l b) (i + 1)))), (5, .int (wB (wAll (isR C w h s st e l b) (i + 1)))), (11, .int (wB (wornR C w h s st e (b + i)))), (8, .int (nI (i))), (0, wm_r G (96)), (1, .int (nI (l))), (2, .int (nI (st))), (3, .int (nI (e))), (4, .int (nI (b)))] dX10_readFrom_156 (by decide) rfl ?_
                            refine wa_iinc ((nI (i + 1))) [(8, .int (nI (i + 1))), (7, .int (wB (wAny (fun i => wornR C w h s st e (b + i)) (i + 1)))), (6, .int (wB (wAll (perR C w h s st e l b) (i + 1)))), (5, .int (wB (wAll (isR C w h s st e l b) (i + 1)))), (11, .int (wB (wornR C w h s st e (b + i)))), (0, wm_r G (96)), (1, .int (nI (l))), (2, .int (nI (st))), (3, .int (nI (e))), (4, .int (nI (b)))] dX10_readFrom_158 4 rfl (nI_inc _) (by decide) rfl ?_
                            refine wa_goto 12 dX10_readFrom_161 (by decide) ?_
                            refine wa_sub [0, 1, 2, 3, 5, 6, 7, 8, 9] rfl ?_
                            exact ih_12 (i + 1) (by omega) (by omega)
                          · refine wa_iload dX10_readFrom_146 2 rfl ?_
                            refine wa_if_eqB 155 dX10_readFrom_148 (by decide) (fun (c_148 : (wornR C w h s st e (b + i)) = false) => ?_) (fun (c_148 : (wornR C w h s st e (b + i)) = true) => ?_)
                            · refine wa_iconst (0) dX10_readFrom_155 (by decide) ?_
                              refine wa_eqi (y := (wB (wAny (fun i => wornR C w h s st e (b + i)) (i + 1)))) (by rw [wAny_s]; first | (rw [c_143]; rfl) | (rw [c_143, show wornR C w h s st e (b + i) = _ from c_148]; rfl)) ?_
                              refine wa_istore [(7, .int (wB (wAny (fun i => wornR C w h s st e (b + i)) (i + 1)))), (6, .int (wB (wAll (perR C w h s st e l b) (i + 1)))), (5, .int (wB (wAll (isR C w h s st e l b) (i + 1)))), (11, .int (wB (wornR C w h s st e (b + i)))), (8, .int (nI (i))), (0, wm_r G (96)), (1, .int (nI (l))), (2, .int (nI (st))), (3, .int (nI (e))), (4, .int (nI (b)))] dX10_readFrom_156 (by decide) rfl ?_
                              refine wa_iinc ((nI (i + 1))) [(8, .int (nI (i + 1))), (7, .int (wB (wAny (fun i => wornR C w h s st e (b + i)) (i + 1)))), (6, .int (wB (wAll (perR C w h s st e l b) (i + 1)))), (5, .int (wB (wAll (isR C w h s st e l b) (i + 1)))), (11, .int (wB (wornR C w h s st e (b + i)))), (0, wm_r G (96)), (1, .int (nI (l))), (2, .int (nI (st))), (3, .int (nI (e))), (4, .int (nI (b)))] dX10_readFrom_158 4 rfl (nI_inc _) (by decide) rfl ?_
                              refine wa_goto 12 dX10_readFrom_161 (by decide) ?_
                              refine wa_sub [0, 1, 2, 3, 5, 6, 7, 8, 9] rfl ?_
                              exact ih_12 (i + 1) (by omega) (by omega)
                            · refine wa_iconst (1) dX10_readFrom_151 (by decide) ?_
                              refine wa_goto 156 dX10_readFrom_152 (by decide) ?_
                              refine wa_eqi (y := (wB (wAny (fun i => wornR C w h s st e (b + i)) (i + 1)))) (by rw [wAny_s]; first | (rw [c_143]; rfl) | (rw [c_143, show wornR C w h s st e (b + i) = _ from c_148]; rfl)) ?_
                              refine wa_istore [(7, .int (wB (wAny (fun i => wornR C w h s st e (b + i)) (i + 1)))), (6, .int (wB (wAll (perR C w h s st e l b) (i + 1)))), (5, .int (wB (wAll (isR C w h s st e l b) (i + 1)))), (11, .int (wB (wornR C w h s st e (b + i)))), (8, .int (nI (i))), (0, wm_r G (96)), (1, .int (nI (l))), (2, .int (nI (st))), (3, .int (nI (e))), (4, .int (nI (b)))] dX10_readFrom_156 (by decide) rfl ?_
                              refine wa_iinc ((nI (i + 1))) [(8, .int (nI (i + 1))), (7, .int (wB (wAny (fun i => wornR C w h s st e (b + i)) (i + 1)))), (6, .int (wB (wAll (perR C w h s st e l b) (i + 1)))), (5, .int (wB (wAll (isR C w h s st e l b) (i + 1)))), (11, .int (wB (wornR C w h s st e (b + i)))), (0, wm_r G (96)), (1, .int (nI (l))), (2, .int (nI (st))), (3, .int (nI (e))), (4, .int (nI (b)))] dX10_readFrom_158 4 rfl (nI_inc _) (by decide) rfl ?_
                              refine wa_goto 12 dX10_readFrom_161 (by decide) ?_
                              refine wa_sub [0, 1, 2, 3, 5, 6, 7, 8, 9] rfl ?_
                              exact ih_12 (i + 1) (by omega) (by omega)
                        refine wa_sub [0, 1, 2, 4, 5, 6, 7, 8, 9, 10] rfl ?_
                        exact L_141  
                      · refine wa_iconst (1) dX10_readFrom_134 (by decide) ?_
                        refine wa_goto 139 dX10_readFrom_135 (by decide) ?_
                        refine wa_eqi (y := (wB (wAll (perR C w h s st e l b) (i + 1)))) (by rw [wAll_s]; unfold perR; first | (rw [c_91]; rfl) | (rw [show wAll (fun j => isR C w h s st e l b j || (wornR C w h s st e (b + j) && decide (C.1 21 (sAt w h st e (b + j)) = C.1 (31 + l) j))) i = true from c_91]; first | (rw [c_96]; rfl) | (rw [c_96, c_101]; rfl) | (rw [c_96, c_101, decide_eq_true c_131]; rfl) | (rw [c_96, c_101, decide_eq_false c_131]; rfl)) | (rw [show wAll (fun j => isR C w h s st e l b j || (wornR C w h s st e (b + j) && decide (C.1 21 (sAt w h st e (b + j)) = C.1 (31 + l) j))) i = false from c_91]; rfl)) ?_
                        refine wa_istore [(6, .int (wB (wAll (perR C w h s st e l b) (i + 1)))), (5, .int (wB (wAll (isR C w h s st e l b) (i + 1)))), (11, .int (wB (wornR C w h s st e (b + i)))), (10, .int (wB (isR C w h s st e l b i))), (8, .int (nI (i))), (7, .int (wB (wAny (fun i => wornR C w h s st e (b + i)) i))), (0, wm_r G (96)), (1, .int (nI (l))), (2, .int (nI (st))), (3, .int (nI (e))), (4, .int (nI (b)))] dX10_readFrom_139 (by decide) rfl ?_
                        have L_141 : WA G t_X10_readFrom (fun v_ N_ => v_ = some (.int (nI (levAt w h (C.1 18) (C.1 19) (C.1 20) (C.1 21) (C.1 (31 + l)) z s st e b))) ∧ N_ = M) 141 [(6, .int (wB (wAll (perR C w h s st e l b) (i + 1)))), (5, .int (wB (wAll (isR C w h s st e l b) (i + 1)))), (11, .int (wB (wornR C w h s st e (b + i)))), (8, .int (nI (i))), (7, .int (wB (wAny (fun i => wornR C w h s st e (b + i)) i))), (0, wm_r G (96)), (1, .int (nI (l))), (2, .int (nI (st))), (3, .int (nI (e))), (4, .int (nI (b)))] [] (M) := by
                          refine wa_iload dX10_readFrom_141 4 rfl ?_
                          refine wa_if_neB 151 dX10_readFrom_143 (by decide) (fun (c_143 : (wAny (fun i => wornR C w h s st e (b + i)) i) = true) => ?_) (fun (c_143 : (wAny (fun i => wornR C w h s st e (b + i)) i) = false) => ?_)
                          · refine wa_iconst (1) dX10_readFrom_151 (by decide) ?_
                            refine wa_goto 156 dX10_readFrom_152 (by decide) ?_
                            refine wa_eqi (y := (wB (wAny (fun i => wornR C w h s st e (b + i)) (i + 1)))) (by rw [wAny_s]; first | (rw [c_143]; rfl) | (rw [c_143, show wornR C w h s st e (b + i) = _ from c_148]; rfl)) ?_
                            refine wa_istore [(7, .int (wB (wAny (fun i => wornR C w h s st e (b + i)) (i + 1)))), (6, .int (wB (wAll (perR C w h s st e l b) (i + 1)))), (5, .int (wB (wAll (isR C w h s st e l b) (i + 1)))), (11, .int (wB (wornR C w h s st e (b + i)))), (8, .int (nI (i))), (0, wm_r G (96)), (1, .int (nI (l))), (2, .int (nI (st))), (3, .int (nI (e))), (4, .int (nI (b)))] dX10_readFrom_156 (by decide) rfl ?_
                            refine wa_iinc ((nI (i + 1))) [(8, .int (nI (i + 1))), (7, .int (wB (wAny (fun i => wornR C w h s st e (b + i)) (i + 1)))), (6, .int (wB (wAll (perR C w h s st e l b) (i + 1)))), (5, .int (wB (wAll (isR C w h s st e l b) (i + 1)))), (11, .int (wB (wornR C w h s st e (b + i)))), (0, wm_r G (96)), (1, .int (nI (l))), (2, .int (nI (st))), (3, .int (nI (e))), (4, .int (nI (b)))] dX10_readFrom_158 4 rfl (nI_inc _) (by decide) rfl ?_
                            refine wa_goto 12 dX10_readFrom_161 (by decide) ?_
                            refine wa_sub [0, 1, 2, 3, 5, 6, 7, 8, 9] rfl ?_
                            exact ih_12 (i + 1) (by omega) (by omega)
                          · refine wa_iload dX10_readFrom_146 2 rfl ?_
                            refine wa_if_eqB 155 dX10_readFrom_148 (by decide) (fun (c_148 : (wornR C w h s st e (b + i)) = false) => ?_) (fun (c_148 : (wornR C w h s st e (b + i)) = true) => ?_)
                            · refine wa_iconst (0) dX10_readFrom_155 (by decide) ?_
                              refine wa_eqi (y := (wB (wAny (fun i => wornR C w h s st e (b + i)) (i + 1)))) (by rw [wAny_s]; first | (rw [c_143]; rfl) | (rw [c_143, show wornR C w h s st e (b + i) = _ from c_148]; rfl)) ?_
                              refine wa_istore [(7, .int (wB (wAny (fun i => wornR C w h s st e (b + i)) (i + 1)))), (6, .int (wB (wAll (perR C w h s st e l b) (i + 1)))), (5, .int (wB (wAll (isR C w h s st e l b) (i + 1)))), (11, .int (wB (wornR C w h s st e (b + i)))), (8, .int (nI (i))), (0, wm_r G (96)), (1, .int (nI (l))), (2, .int (nI (st))), (3, .int (nI (e))), (4, .int (nI (b)))] dX10_readFrom_156 (by decide) rfl ?_
                              refine wa_iinc ((nI (i + 1))) [(8, .int (nI (i + 1))), (7, .int (wB (wAny (fun i => wornR C w h s st e (b + i)) (i + 1)))), (6, .int (wB (wAll (perR C w h s st e l b) (i + 1)))), (5, .int (wB (wAll (isR C w h s st e l b) (i + 1)))), (11, .int (wB (wornR C w h s st e (b + i)))), (0, wm_r G (96)), (1, .int (nI (l))), (2, .int (nI (st))), (3, .int (nI (e))), (4, .int (nI (b)))] dX10_readFrom_158 4 rfl (nI_inc _) (by decide) rfl ?_
                              refine wa_goto 12 dX10_readFrom_161 (by decide) ?_
                              refine wa_sub [0, 1, 2, 3, 5, 6, 7, 8, 9] rfl ?_
                              exact ih_12 (i + 1) (by omega) (by omega)
                            · refine wa_iconst (1) dX10_readFrom_151 (by decide) ?_
                              refine wa_goto 156 dX10_readFrom_152 (by decide) ?_
                              refine wa_eqi (y := (wB (wAny (fun i => wornR C w h s st e (b + i)) (i + 1)))) (by rw [wAny_s]; first | (rw [c_143]; rfl) | (rw [c_143, show wornR C w h s st e (b + i) = _ from c_148]; rfl)) ?_
                              refine wa_istore [(7, .int (wB (wAny (fun i => wornR C w h s st e (b + i)) (i + 1)))), (6, .int (wB (wAll (perR C w h s st e l b) (i + 1)))), (5, .int (wB (wAll (isR C w h s st e l b) (i + 1)))), (11, .int (wB (wornR C w h s st e (b + i)))), (8, .int (nI (i))), (0, wm_r G (96)), (1, .int (nI (l))), (2, .int (nI (st))), (3, .int (nI (e))), (4, .int (nI (b)))] dX10_readFrom_156 (by decide) rfl ?_
                              refine wa_iinc ((nI (i + 1))) [(8, .int (nI (i + 1))), (7, .int (wB (wAny (fun i => wornR C w h s st e (b + i)) (i + 1)))), (6, .int (wB (wAll (perR C w h s st e l b) (i + 1)))), (5, .int (wB (wAll (isR C w h s st e l b) (i + 1)))), (11, .int (wB (wornR C w h s st e (b + i)))), (0, wm_r G (96)), (1, .int (nI (l))), (2, .int (nI (st))), (3, .int (nI (e))), (4, .int (nI (b)))] dX10_readFrom_158 4 rfl (nI_inc _) (by decide) rfl ?_
                              refine wa_goto 12 dX10_readFrom_161 (by decide) ?_
                              refine wa_sub [0, 1, 2, 3, 5, 6, 7, 8, 9] rfl ?_
                              exact ih_12 (i + 1) (by omega) (by omega)
                        refine wa_sub [0, 1, 2, 4, 5, 6, 7, 8, 9, 10] rfl ?_
                        exact L_141  
              exact L_89  
            · refine wa_iload dX10_readFrom_77 1 rfl ?_
              refine wa_if_eqB 86 dX10_readFrom_79 (by decide) (fun (c_79 : (isR C w h s st e l b i) = false) => ?_) (fun (c_79 : (isR C w h s st e l b i) = true) => ?_)
              · refine wa_iconst (0) dX10_readFrom_86 (by decide) ?_
                refine wa_eqi (y := (wB (wAll (isR C w h s st e l b) (i + 1)))) (by rw [wAll_s]; first | (rw [c_74, c_79]; rfl) | (rw [c_74]; rfl)) ?_
                refine wa_istore [(5, .int (wB (wAll (isR C w h s st e l b) (i + 1)))), (11, .int (wB (wornR C w h s st e (b + i)))), (10, .int (wB (isR C w h s st e l b i))), (8, .int (nI (i))), (7, .int (wB (wAny (fun i => wornR C w h s st e (b + i)) i))), (6, .int (wB (wAll (perR C w h s st e l b) i))), (0, wm_r G (96)), (1, .int (nI (l))), (2, .int (nI (st))), (3, .int (nI (e))), (4, .int (nI (b)))] dX10_readFrom_87 (by decide) rfl ?_
                have L_89 : WA G t_X10_readFrom (fun v_ N_ => v_ = some (.int (nI (levAt w h (C.1 18) (C.1 19) (C.1 20) (C.1 21) (C.1 (31 + l)) z s st e b))) ∧ N_ = M) 89 [(5, .int (wB (wAll (isR C w h s st e l b) (i + 1)))), (11, .int (wB (wornR C w h s st e (b + i)))), (10, .int (wB (isR C w h s st e l b i))), (8, .int (nI (i))), (7, .int (wB (wAny (fun i => wornR C w h s st e (b + i)) i))), (6, .int (wB (wAll (perR C w h s st e l b) i))), (0, wm_r G (96)), (1, .int (nI (l))), (2, .int (nI (st))), (3, .int (nI (e))), (4, .int (nI (b)))] [] (M) := by
                  refine wa_iload dX10_readFrom_89 5 rfl ?_
                  refine wa_if_eqB 138 dX10_readFrom_91 (by decide) (fun (c_91 : (wAll (perR C w h s st e l b) i) = false) => ?_) (fun (c_91 : (wAll (perR C w h s st e l b) i) = true) => ?_)
                  · refine wa_iconst (0) dX10_readFrom_138 (by decide) ?_
                    refine wa_eqi (y := (wB (wAll (perR C w h s st e l b) (i + 1)))) (by rw [wAll_s]; unfold perR; first | (rw [c_91]; rfl) | (rw [show wAll (fun j => isR C w h s st e l b j || (wornR C w h s st e (b + j) && decide (C.1 21 (sAt w h st e (b + j)) = C.1 (31 + l) j))) i = true from c_91]; first | (rw [c_96]; rfl) | (rw [c_96, c_101]; rfl) | (rw [c_96, c_101, decide_eq_true c_131]; rfl) | (rw [c_96, c_101, decide_eq_false c_131]; rfl)) | (rw [show wAll (fun j => isR C w h s st e l b j || (wornR C w h s st e (b + j) && decide (C.1 21 (sAt w h st e (b + j)) = C.1 (31 + l) j))) i = false from c_91]; rfl)) ?_
                    refine wa_istore [(6, .int (wB (wAll (perR C w h s st e l b) (i + 1)))), (5, .int (wB (wAll (isR C w h s st e l b) (i + 1)))), (11, .int (wB (wornR C w h s st e (b + i)))), (10, .int (wB (isR C w h s st e l b i))), (8, .int (nI (i))), (7, .int (wB (wAny (fun i => wornR C w h s st e (b + i)) i))), (0, wm_r G (96)), (1, .int (nI (l))), (2, .int (nI (st))), (3, .int (nI (e))), (4, .int (nI (b)))] dX10_readFrom_139 (by decide) rfl ?_
                    have L_141 : WA G t_X10_readFrom (fun v_ N_ => v_ = some (.int (nI (levAt w h (C.1 18) (C.1 19) (C.1 20) (C.1 21) (C.1 (31 + l)) z s st e b))) ∧ N_ = M) 141 [(6, .int (wB (wAll (perR C w h s st e l b) (i + 1)))), (5, .int (wB (wAll (isR C w h s st e l b) (i + 1)))), (11, .int (wB (wornR C w h s st e (b + i)))), (8, .int (nI (i))), (7, .int (wB (wAny (fun i => wornR C w h s st e (b + i)) i))), (0, wm_r G (96)), (1, .int (nI (l))), (2, .int (nI (st))), (3, .int (nI (e))), (4, .int (nI (b)))] [] (M) := by
                      refine wa_iload dX10_readFrom_141 4 rfl ?_
                      refine wa_if_neB 151 dX10_readFrom_143 (by decide) (fun (c_143 : (wAny (fun i => wornR C w h s st e (b + i)) i) = true) => ?_) (fun (c_143 : (wAny (fun i => wornR C w h s st e (b + i)) i) = false) => ?_)
                      · refine wa_iconst (1) dX10_readFrom_151 (by decide) ?_
                        refine wa_goto 156 dX10_readFrom_152 (by decide) ?_
                        refine wa_eqi (y := (wB (wAny (fun i => wornR C w h s st e (b + i)) (i + 1)))) (by rw [wAny_s]; first | (rw [c_143]; rfl) | (rw [c_143, show wornR C w h s st e (b + i) = _ from c_148]; rfl)) ?_
                        refine wa_istore [(7, .int (wB (wAny (fun i => wornR C w h s st e (b + i)) (i + 1)))), (6, .int (wB (wAll (perR C w h s st e l b) (i + 1)))), (5, .int (wB (wAll (isR C w h s st e l b) (i + 1)))), (11, .int (wB (wornR C w h s st e (b + i)))), (8, .int (nI (i))), (0, wm_r G (96)), (1, .int (nI (l))), (2, .int (nI (st))), (3, .int (nI (e))), (4, .int (nI (b)))] dX10_readFrom_156 (by decide) rfl ?_
                        refine wa_iinc ((nI (i + 1))) [(8, .int (nI (i + 1))), (7, .int (wB (wAny (fun i => wornR C w h s st e (b + i)) (i + 1)))), (6, .int (wB (wAll (perR C w h s st e l b) (i + 1)))), (5, .int (wB (wAll (isR C w h s st e l b) (i + 1)))), (11, .int (wB (wornR C w h s st e (b + i)))), (0, wm_r G (96)), (1, .int (nI (l))), (2, .int (nI (st))), (3, .int (nI (e))), (4, .int (nI (b)))] dX10_readFrom_158 4 rfl (nI_inc _) (by decide) rfl ?_
                        refine wa_goto 12 dX10_readFrom_161 (by decide) ?_
                        refine wa_sub [0, 1, 2, 3, 5, 6, 7, 8, 9] rfl ?_
                        exact ih_12 (i + 1) (by omega) (by omega)
                      · refine wa_iload dX10_readFrom_146 2 rfl ?_
                        refine wa_if_eqB 155 dX10_readFrom_148 (by decide) (fun (c_148 : (wornR C w h s st e (b + i)) = false) => ?_) (fun (c_148 : (wornR C w h s st e (b + i)) = true) => ?_)
                        · refine wa_iconst (0) dX10_readFrom_155 (by decide) ?_
                          refine wa_eqi (y := (wB (wAny (fun i => wornR C w h s st e (b + i)) (i + 1)))) (by rw [wAny_s]; first | (rw [c_143]; rfl) | (rw [c_143, show wornR C w h s st e (b + i) = _ from c_148]; rfl)) ?_
                          refine wa_istore [(7, .int (wB (wAny (fun i => wornR C w h s st e (b + i)) (i + 1)))), (6, .int (wB (wAll (perR C w h s st e l b) (i + 1)))), (5, .int (wB (wAll (isR C w h s st e l b) (i + 1)))), (11, .int (wB (wornR C w h s st e (b + i)))), (8, .int (nI (i))), (0, wm_r G (96)), (1, .int (nI (l))), (2, .int (nI (st))), (3, .int (nI (e))), (4, .int (nI (b)))] dX10_readFrom_156 (by decide) rfl ?_
                          refine wa_iinc ((nI (i + 1))) [(8, .int (nI (i + 1))), (7, .int (wB (wAny (fun i => wornR C w h s st e (b + i)) (i + 1)))), (6, .int (wB (wAll (perR C w h s st e l b) (i + 1)))), (5, .int (wB (wAll (isR C w h s st e l b) (i + 1)))), (11, .int (wB (wornR C w h s st e (b + i)))), (0, wm_r G (96)), (1, .int (nI (l))), (2, .int (nI (st))), (3, .int (nI (e))), (4, .int (nI (b)))] dX10_readFrom_158 4 rfl (nI_inc _) (by decide) rfl ?_
                          refine wa_goto 12 dX10_readFrom_161 (by decide) ?_
                          refine wa_sub [0, 1, 2, 3, 5, 6, 7, 8, 9] rfl ?_
                          exact ih_12 (i + 1) (by omega) (by omega)
                        · refine wa_iconst (1) dX10_readFrom_151 (by decide) ?_
                          refine wa_goto 156 dX10_readFrom_152 (by decide) ?_
                          refine wa_eqi (y := (wB (wAny (fun i => wornR C w h s st e (b + i)) (i + 1)))) (by rw [wAny_s]; first | (rw [c_143]; rfl) | (rw [c_143, show wornR C w h s st e (b + i) = _ from c_148]; rfl)) ?_
                          refine wa_istore [(7, .int (wB (wAny (fun i => wornR C w h s st e (b + i)) (i + 1)))), (6, .int (wB (wAll (perR C w h s st e l b) (i + 1)))), (5, .int (wB (wAll (isR C w h s st e l b) (i + 1)))), (11, .int (wB (wornR C w h s st e (b + i)))), (8, .int (nI (i))), (0, wm_r G (96)), (1, .int (nI (l))), (2, .int (nI (st))), (3, .int (nI (e))), (4, .int (nI (b)))] dX10_readFrom_156 (by decide) rfl ?_
                          refine wa_iinc ((nI (i + 1))) [(8, .int (nI (i + 1))), (7, .int (wB (wAny (fun i => wornR C w h s st e (b + i)) (i + 1)))), (6, .int (wB (wAll (perR C w h s st e l b) (i + 1)))), (5, .int (wB (wAll (isR C w h s st e l b) (i + 1)))), (11, .int (wB (wornR C w h s st e (b + i)))), (0, wm_r G (96)), (1, .int (nI (l))), (2, .int (nI (st))), (3, .int (nI (e))), (4, .int (nI (b)))] dX10_readFrom_158 4 rfl (nI_inc _) (by decide) rfl ?_
                          refine wa_goto 12 dX10_readFrom_161 (by decide) ?_
                          refine wa_sub [0, 1, 2, 3, 5, 6, 7, 8, 9] rfl ?_
                          exact ih_12 (i + 1) (by omega) (by omega)
                    refine wa_sub [0, 1, 2, 4, 5, 6, 7, 8, 9, 10] rfl ?_
                    exact L_141  
                  · refine wa_iload dX10_readFrom_94 2 rfl ?_
                    refine wa_if_neB 134 dX10_readFrom_96 (by decide) (fun (c_96 : (isR C w h s st e l b i) = true) => ?_) (fun (c_96 : (isR C w h s st e l b i) = false) => ?_)
                    · refine wa_iconst (1) dX10_readFrom_134 (by decide) ?_
                      refine wa_goto 139 dX10_readFrom_135 (by decide) ?_
                      refine wa_eqi (y := (wB (wAll (perR C w h s st e l b) (i + 1)))) (by rw [wAll_s]; unfold perR; first | (rw [c_91]; rfl) | (rw [show wAll (fun j => isR C w h s st e l b j || (wornR C w h s st e (b + j) && decide (C.1 21 (sAt w h st e (b + j)) = C.1 (31 + l) j))) i = true from c_91]; first | (rw [c_96]; rfl) | (rw [c_96, c_101]; rfl) | (rw [c_96, c_101, decide_eq_true c_131]; rfl) | (rw [c_96, c_101, decide_eq_false c_131]; rfl)) | (rw [show wAll (fun j => isR C w h s st e l b j || (wornR C w h s st e (b + j) && decide (C.1 21 (sAt w h st e (b + j)) = C.1 (31 + l) j))) i = false from c_91]; rfl)) ?_
                      refine wa_istore [(6, .int (wB (wAll (perR C w h s st e l b) (i + 1)))), (5, .int (wB (wAll (isR C w h s st e l b) (i + 1)))), (11, .int (wB (wornR C w h s st e (b + i)))), (10, .int (wB (isR C w h s st e l b i))), (8, .int (nI (i))), (7, .int (wB (wAny (fun i => wornR C w h s st e (b + i)) i))), (0, wm_r G (96)), (1, .int (nI (l))), (2, .int (nI (st))), (3, .int (nI (e))), (4, .int (nI (b)))] dX10_readFrom_139 (by decide) rfl ?_
                      have L_141 : WA G t_X10_readFrom (fun v_ N_ => v_ = some (.int (nI (levAt w h (C.1 18) (C.1 19) (C.1 20) (C.1 21) (C.1 (31 + l)) z s st e b))) ∧ N_ = M) 141 [(6, .int (wB (wAll (perR C w h s st e l b) (i + 1)))), (5, .int (wB (wAll (isR C w h s st e l b) (i + 1)))), (11, .int (wB (wornR C w h s st e (b + i)))), (8, .int (nI (i))), (7, .int (wB (wAny (fun i => wornR C w h s st e (b + i)) i))), (0, wm_r G (96)), (1, .int (nI (l))), (2, .int (nI (st))), (3, .int (nI (e))), (4, .int (nI (b)))] [] (M) := by
                        refine wa_iload dX10_readFrom_141 4 rfl ?_
                        refine wa_if_neB 151 dX10_readFrom_143 (by decide) (fun (c_143 : (wAny (fun i => wornR C w h s st e (b + i)) i) = true) => ?_) (fun (c_143 : (wAny (fun i => wornR C w h s st e (b + i)) i) = false) => ?_)
                        · refine wa_iconst (1) dX10_readFrom_151 (by decide) ?_
                          refine wa_goto 156 dX10_readFrom_152 (by decide) ?_
                          refine wa_eqi (y := (wB (wAny (fun i => wornR C w h s st e (b + i)) (i + 1)))) (by rw [wAny_s]; first | (rw [c_143]; rfl) | (rw [c_143, show wornR C w h s st e (b + i) = _ from c_148]; rfl)) ?_
                          refine wa_istore [(7, .int (wB (wAny (fun i => wornR C w h s st e (b + i)) (i + 1)))), (6, .int (wB (wAll (perR C w h s st e l b) (i + 1)))), (5, .int (wB (wAll (isR C w h s st e l b) (i + 1)))), (11, .int (wB (wornR C w h s st e (b + i)))), (8, .int (nI (i))), (0, wm_r G (96)), (1, .int (nI (l))), (2, .int (nI (st))), (3, .int (nI (e))), (4, .int (nI (b)))] dX10_readFrom_156 (by decide) rfl ?_
                          refine wa_iinc ((nI (i + 1))) [(8, .int (nI (i + 1))), (7, .int (wB (wAny (fun i => wornR C w h s st e (b + i)) (i + 1)))), (6, .int (wB (wAll (perR C w h s st e l b) (i + 1)))), (5, .int (wB (wAll (isR C w h s st e l b) (i + 1)))), (11, .int (wB (wornR C w h s st e (b + i)))), (0, wm_r G (96)), (1, .int (nI (l))), (2, .int (nI (st))), (3, .int (nI (e))), (4, .int (nI (b)))] dX10_readFrom_158 4 rfl (nI_inc _) (by decide) rfl ?_
                          refine wa_goto 12 dX10_readFrom_161 (by decide) ?_
                          refine wa_sub [0, 1, 2, 3, 5, 6, 7, 8, 9] rfl ?_
                          exact ih_12 (i + 1) (by omega) (by omega)
                        · refine wa_iload dX10_readFrom_146 2 rfl ?_
                          refine wa_if_eqB 155 dX10_readFrom_148 (by decide) (fun (c_148 : (wornR C w h s st e (b + i)) = false) => ?_) (fun (c_148 : (wornR C w h s st e (b + i)) = true) => ?_)
                          · refine wa_iconst (0) dX10_readFrom_155 (by decide) ?_
                            refine wa_eqi (y := (wB (wAny (fun i => wornR C w h s st e (b + i)) (i + 1)))) (by rw [wAny_s]; first | (rw [c_143]; rfl) | (rw [c_143, show wornR C w h s st e (b + i) = _ from c_148]; rfl)) ?_
                            refine wa_istore [(7, .int (wB (wAny (fun i => wornR C w h s st e (b + i)) (i + 1)))), (6, .int (wB (wAll (perR C w h s st e l b) (i + 1)))), (5, .int (wB (wAll (isR C w h s st e l b) (i + 1)))), (11, .int (wB (wornR C w h s st e (b + i)))), (8, .int (nI (i))), (0, wm_r G (96)), (1, .int (nI (l))), (2, .int (nI (st))), (3, .int (nI (e))), (4, .int (nI (b)))] dX10_readFrom_156 (by decide) rfl ?_
                            refine wa_iinc ((nI (i + 1))) [(8, .int (nI (i + 1))), (7, .int (wB (wAny (fun i => wornR C w h s st e (b + i)) (i + 1)))), (6, .int (wB (wAll (perR C w h s st e l b) (i + 1)))), (5, .int (wB (wAll (isR C w h s st e l b) (i + 1)))), (11, .int (wB (wornR C w h s st e (b + i)))), (0, wm_r G (96)), (1, .int (nI (l))), (2, .int (nI (st))), (3, .int (nI (e))), (4, .int (nI (b)))] dX10_readFrom_158 4 rfl (nI_inc _) (by decide) rfl ?_
                            refine wa_goto 12 dX10_readFrom_161 (by decide) ?_
                            refine wa_sub [0, 1, 2, 3, 5, 6, 7, 8, 9] rfl ?_
                            exact ih_12 (i + 1) (by omega) (by omega)
                          · refine wa_iconst (1) dX10_readFrom_151 (by decide) ?_
                            refine wa_goto 156 dX10_readFrom_152 (by decide) ?_
                            refine wa_eqi (y := (wB (wAny (fun i => wornR C w h s st e (b + i)) (i + 1)))) (by rw [wAny_s]; first | (rw [c_143]; rfl) | (rw [c_143, show wornR C w h s st e (b + i) = _ from c_148]; rfl)) ?_
                            refine wa_istore [(7, .int (wB (wAny (fun i => wornR C w h s st e (b + i)) (i + 1)))), (6, .int (wB (wAll (perR C w h s st e l b) (i + 1)))), (5, .int (wB (wAll (isR C w h s st e l b) (i + 1)))), (11, .int (wB (wornR C w h s st e (b + i)))), (8, .int (nI (i))), (0, wm_r G (96)), (1, .int (nI (l))), (2, .int (nI (st))), (3, .int (nI (e))), (4, .int (nI (b)))] dX10_readFrom_156 (by decide) rfl ?_
                            refine wa_iinc ((nI (i + 1))) [(8, .int (nI (i + 1))), (7, .int (wB (wAny (fun i => wornR C w h s st e (b + i)) (i + 1)))), (6, .int (wB (wAll (perR C w h s st e l b) (i + 1)))), (5, .int (wB (wAll (isR C w h s st e l b) (i + 1)))), (11, .int (wB (wornR C w h s st e (b + i)))), (0, wm_r G (96)), (1, .int (nI (l))), (2, .int (nI (st))), (3, .int (nI (e))), (4, .int (nI (b)))] dX10_readFrom_158 4 rfl (nI_inc _) (by decide) rfl ?_
                            refine wa_goto 12 dX10_readFrom_161 (by decide) ?_
                            refine wa_sub [0, 1, 2, 3, 5, 6, 7, 8, 9] rfl ?_
                            exact ih_12 (i + 1) (by omega) (by omega)
                      refine wa_sub [0, 1, 2, 4, 5, 6, 7, 8, 9, 10] rfl ?_
                      exact L_141  
                    · refine wa_iload dX10_readFrom_99 1 rfl ?_
                      refine wa_if_eqB 138 dX10_readFrom_101 (by decide) (fun (c_101 : (wornR C w h s st e (b + i)) = false) => ?_) (fun (c_101 : (wornR C w h s st e (b + i)) = true) => ?_)
                      · refine wa_iconst (0) dX10_readFrom_138 (by decide) ?_
                        refine wa_eqi (y := (wB (wAll (perR C w h s st e l b) (i + 1)))) (by rw [wAll_s]; unfold perR; first | (rw [c_91]; rfl) | (rw [show wAll (fun j => isR C w h s st e l b j || (wornR C w h s st e (b + j) && decide (C.1 21 (sAt w h st e (b + j)) = C.1 (31 + l) j))) i = true from c_91]; first | (rw [c_96]; rfl) | (rw [c_96, c_101]; rfl) | (rw [c_96, c_101, decide_eq_true c_131]; rfl) | (rw [c_96, c_101, decide_eq_false c_131]; rfl)) | (rw [show wAll (fun j => isR C w h s st e l b j || (wornR C w h s st e (b + j) && decide (C.1 21 (sAt w h st e (b + j)) = C.1 (31 + l) j))) i = false from c_91]; rfl)) ?_
                        refine wa_istore [(6, .int (wB (wAll (perR C w h s st e l b) (i + 1)))), (5, .int (wB (wAll (isR C w h s st e l b) (i + 1)))), (11, .int (wB (wornR C w h s st e (b + i)))), (10, .int (wB (isR C w h s st e l b i))), (8, .int (nI (i))), (7, .int (wB (wAny (fun i => wornR C w h s st e (b + i)) i))), (0, wm_r G (96)), (1, .int (nI (l))), (2, .int (nI (st))), (3, .int (nI (e))), (4, .int (nI (b)))] dX10_readFrom_139 (by decide) rfl ?_
                        have L_141 : WA G t_X10_readFrom (fun v_ N_ => v_ = some (.int (nI (levAt w h (C.1 18) (C.1 19) (C.1 20) (C.1 21) (C.1 (31 + l)) z s st e b))) ∧ N_ = M) 141 [(6, .int (wB (wAll (perR C w h s st e l b) (i + 1)))), (5, .int (wB (wAll (isR C w h s st e l b) (i + 1)))), (11, .int (wB (wornR C w h s st e (b + i)))), (8, .int (nI (i))), (7, .int (wB (wAny (fun i => wornR C w h s st e (b + i)) i))), (0, wm_r G (96)), (1, .int (nI (l))), (2, .int (nI (st))), (3, .int (nI (e))), (4, .int (nI (b)))] [] (M) := by
                          refine wa_iload dX10_readFrom_141 4 rfl ?_
                          refine wa_if_neB 151 dX10_readFrom_143 (by decide) (fun (c_143 : (wAny (fun i => wornR C w h s st e (b + i)) i) = true) => ?_) (fun (c_143 : (wAny (fun i => wornR C w h s st e (b + i)) i) = false) => ?_)
                          · refine wa_iconst (1) dX10_readFrom_151 (by decide) ?_
                            refine wa_goto 156 dX10_readFrom_152 (by decide) ?_
                            refine wa_eqi (y := (wB (wAny (fun i => wornR C w h s st e (b + i)) (i + 1)))) (by rw [wAny_s]; first | (rw [c_143]; rfl) | (rw [c_143, show wornR C w h s st e (b + i) = _ from c_148]; rfl)) ?_
                            refine wa_istore [(7, .int (wB (wAny (fun i => wornR C w h s st e (b + i)) (i + 1)))), (6, .int (wB (wAll (perR C w h s st e l b) (i + 1)))), (5, .int (wB (wAll (isR C w h s st e l b) (i + 1)))), (11, .int (wB (wornR C w h s st e (b + i)))), (8, .int (nI (i))), (0, wm_r G (96)), (1, .int (nI (l))), (2, .int (nI (st))), (3, .int (nI (e))), (4, .int (nI (b)))] dX10_readFrom_156 (by decide) rfl ?_
                            refine wa_iinc ((nI (i + 1))) [(8, .int (nI (i + 1))), (7, .int (wB (wAny (fun i => wornR C w h s st e (b + i)) (i + 1)))), (6, .int (wB (wAll (perR C w h s st e l b) (i + 1)))), (5, .int (wB (wAll (isR C w h s st e l b) (i + 1)))), (11, .int (wB (wornR C w h s st e (b + i)))), (0, wm_r G (96)), (1, .int (nI (l))), (2, .int (nI (st))), (3, .int (nI (e))), (4, .int (nI (b)))] dX10_readFrom_158 4 rfl (nI_inc _) (by decide) rfl ?_
                            refine wa_goto 12 dX10_readFrom_161 (by decide) ?_
                            refine wa_sub [0, 1, 2, 3, 5, 6, 7, 8, 9] rfl ?_
                            exact ih_12 (i + 1) (by omega) (by omega)
                          · refine wa_iload dX10_readFrom_146 2 rfl ?_
                            refine wa_if_eqB 155 dX10_readFrom_148 (by decide) (fun (c_148 : (wornR C w h s st e (b + i)) = false) => ?_) (fun (c_148 : (wornR C w h s st e (b + i)) = true) => ?_)
                            · refine wa_iconst (0) dX10_readFrom_155 (by decide) ?_
                              refine wa_eqi (y := (wB (wAny (fun i => wornR C w h s st e (b + i)) (i + 1)))) (by rw [wAny_s]; first | (rw [c_143]; rfl) | (rw [c_143, show wornR C w h s st e (b + i) = _ from c_148]; rfl)) ?_
                              refine wa_istore [(7, .int (wB (wAny (fun i => wornR C w h s st e (b + i)) (i + 1)))), (6, .int (wB (wAll (perR C w h s st e l b) (i + 1)))), (5, .int (wB (wAll (isR C w h s st e l b) (i + 1)))), (11, .int (wB (wornR C w h s st e (b + i)))), (8, .int (nI (i))), (0, wm_r G (96)), (1, .int (nI (l))), (2, .int (nI (st))), (3, .int (nI (e))), (4, .int (nI (b)))] dX10_readFrom_156 (by decide) rfl ?_
                              refine wa_iinc ((nI (i + 1))) [(8, .int (nI (i + 1))), (7, .int (wB (wAny (fun i => wornR C w h s st e (b + i)) (i + 1)))), (6, .int (wB (wAll (perR C w h s st e l b) (i + 1)))), (5, .int (wB (wAll (isR C w h s st e l b) (i + 1)))), (11, .int (wB (wornR C w h s st e (b + i)))), (0, wm_r G (96)), (1, .int (nI (l))), (2, .int (nI (st))), (3, .int (nI (e))), (4, .int (nI (b)))] dX10_readFrom_158 4 rfl (nI_inc _) (by decide) rfl ?_
                              refine wa_goto 12 dX10_readFrom_161 (by decide) ?_
                              refine wa_sub [0, 1, 2, 3, 5, 6, 7, 8, 9] rfl ?_
                              exact ih_12 (i + 1) (by omega) (by omega)
                            · refine wa_iconst (1) dX10_readFrom_151 (by decide) ?_
                              refine wa_goto 156 dX10_readFrom_152 (by decide) ?_
                              refine wa_eqi (y := (wB (wAny (fun i => wornR C w h s st e (b + i)) (i + 1)))) (by rw [wAny_s]; first | (rw [c_143]; rfl) | (rw [c_143, show wornR C w h s st e (b + i) = _ from c_148]; rfl)) ?_
                              refine wa_istore [(7, .int (wB (wAny (fun i => wornR C w h s st e (b + i)) (i + 1)))), (6, .int (wB (wAll (perR C w h s st e l b) (i + 1)))), (5, .int (wB (wAll (isR C w h s st e l b) (i + 1)))), (11, .int (wB (wornR C w h s st e (b + i)))), (8, .int (nI (i))), (0, wm_r G (96)), (1, .int (nI (l))), (2, .int (nI (st))), (3, .int (nI (e))), (4, .int (nI (b)))] dX10_readFrom_156 (by decide) rfl ?_
                              refine wa_iinc ((nI (i + 1))) [(8, .int (nI (i + 1))), (7, .int (wB (wAny (fun i => wornR C w h s st e (b + i)) (i + 1)))), (6, .int (wB (wAll (perR C w h s st e l b) (i + 1)))), (5, .int (wB (wAll (isR C w h s st e l b) (i + 1)))), (11, .int (wB (wornR C w h s st e (b + i)))), (0, wm_r G (96)), (1, .int (nI (l))), (2, .int (nI (st))), (3, .int (nI (e))), (4, .int (nI (b)))] dX10_readFrom_158 4 rfl (nI_inc _) (by decide) rfl ?_
                              refine wa_goto 12 dX10_readFrom_161 (by decide) ?_
                              refine wa_sub [0, 1, 2, 3, 5, 6, 7, 8, 9] rfl ?_
                              exact ih_12 (i + 1) (by omega) (by omega)
                        refine wa_sub [0, 1, 2, 4, 5, 6, 7, 8, 9, 10] rfl ?_
                        exact L_141  
                      · refine wa_aload_n dX10_readFrom_104 rfl 6 rfl ?_
                        refine wa_getr gX10_readFrom_105 (rfl) rfl ?_
                        refine wa_aload_n dX10_readFrom_108 rfl 6 rfl ?_
                        refine wa_iload_n dX10_readFrom_109 rfl 8 rfl ?_
                        refine wa_iload_n dX10_readFrom_110 rfl 9 rfl ?_
                        refine wa_iload dX10_readFrom_111 10 rfl ?_
                        refine wa_iload dX10_readFrom_113 3 rfl ?_
                        refine wa_iaddN (a := b) (b := i) dX10_readFrom_115 ?_
                        refine wa_cVi (x_stoneAt C w h hX hW st e (b + i) hst he (by omega)) vX10_stoneAt iX10_readFrom_116 (rfl) rfl rfl rfl (Nat.le_of_ble_eq_true rfl) ⟨by decide, by decide⟩ ?_
                        have hat := sAt_lt (e := e) hst (show b + i < sLen w h st by omega)
                        refine wa_ialdN (e := sAt w h st e (b + i)) dX10_readFrom_119 (rfl) (by omega) (by decide) ?_
                        refine wa_eqi (y := (C.1 21 (sAt w h st e (b + i)))) (x106 _ hat (by have q := c_101; unfold wornR at q; rw [Bool.and_eq_true] at q; exact of_decide_eq_true q.1)) ?_
                        refine wa_aload_n dX10_readFrom_120 rfl 6 rfl ?_
                        refine wa_getr gX10_readFrom_121 (rfl) rfl ?_
                        refine wa_iconst (3) dX10_readFrom_124 (by decide) ?_
                        refine wa_iload_n dX10_readFrom_125 rfl 7 rfl ?_
                        refine wa_imulN (a := 3) (b := l) dX10_readFrom_126 ?_
                        refine wa_iload dX10_readFrom_127 3 rfl ?_
                        refine wa_iaddN (a := 3 * l) (b := i) dX10_readFrom_129 ?_
                        refine wa_ialdN (e := 3 * l + i) dX10_readFrom_130 (rfl) (by omega) (by decide) ?_
                        refine wa_eqi (y := (C.1 (31 + l) i)) (hlw i (by omega)) ?_
                        refine wa_icmp_ne 138 dX10_readFrom_131 (by decide) (fun c_131 => ?_) (fun c_131 => ?_)
                        · refine wa_iconst (0) dX10_readFrom_138 (by decide) ?_
                          refine wa_eqi (y := (wB (wAll (perR C w h s st e l b) (i + 1)))) (by rw [wAll_s]; unfold perR; first | (rw [c_91]; rfl) | (rw [show wAll (fun j => isR C w h s st e l b j || (wornR C w h s st e (b + j) && decide (C.1 21 (sAt w h st e (b + j)) = C.1 (31 + l) j))) i = true from c_91]; first | (rw [c_96]; rfl) | (rw [c_96, c_101]; rfl) | (rw [c_96, c_101, decide_eq_true c_131]; rfl) | (rw [c_96, c_101, decide_eq_false c_131]; rfl)) | (rw [show wAll (fun j => isR C w h s st e l b j || (wornR C w h s st e (b + j) && decide (C.1 21 (sAt w h st e (b + j)) = C.1 (31 + l) j))) i = false from c_91]; rfl)) ?_
                          refine wa_istore [(6, .int (wB (wAll (perR C w h s st e l b) (i + 1)))), (5, .int (wB (wAll (isR C w h s st e l b) (i + 1)))), (11, .int (wB (wornR C w h s st e (b + i)))), (10, .int (wB (isR C w h s st e l b i))), (8, .int (nI (i))), (7, .int (wB (wAny (fun i => wornR C w h s st e (b + i)) i))), (0, wm_r G (96)), (1, .int (nI (l))), (2, .int (nI (st))), (3, .int (nI (e))), (4, .int (nI (b)))] dX10_readFrom_139 (by decide) rfl ?_
                          have L_141 : WA G t_X10_readFrom (fun v_ N_ => v_ = some (.int (nI (levAt w h (C.1 18) (C.1 19) (C.1 20) (C.1 21) (C.1 (31 + l)) z s st e b))) ∧ N_ = M) 141 [(6, .int (wB (wAll (perR C w h s st e l b) (i + 1)))), (5, .int (wB (wAll (isR C w h s st e l b) (i + 1)))), (11, .int (wB (wornR C w h s st e (b + i)))), (8, .int (nI (i))), (7, .int (wB (wAny (fun i => wornR C w h s st e (b + i)) i))), (0, wm_r G (96)), (1, .int (nI (l))), (2, .int (nI (st))), (3, .int (nI (e))), (4, .int (nI (b)))] [] (M) := by
                            refine wa_iload dX10_readFrom_141 4 rfl ?_
                            refine wa_if_neB 151 dX10_readFrom_143 (by decide) (fun (c_143 : (wAny (fun i => wornR C w h s st e (b + i)) i) = true) => ?_) (fun (c_143 : (wAny (fun i => wornR C w h s st e (b + i)) i) = false) => ?_)
                            · refine wa_iconst (1) dX10_readFrom_151 (by decide) ?_
                              refine wa_goto 156 dX10_readFrom_152 (by decide) ?_
                              refine wa_eqi (y := (wB (wAny (fun i => wornR C w h s st e (b + i)) (i + 1)))) (by rw [wAny_s]; first | (rw [c_143]; rfl) | (rw [c_143, show wornR C w h s st e (b + i) = _ from c_148]; rfl)) ?_
                              refine wa_istore [(7, .int (wB (wAny (fun i => wornR C w h s st e (b + i)) (i + 1)))), (6, .int (wB (wAll (perR C w h s st e l b) (i + 1)))), (5, .int (wB (wAll (isR C w h s st e l b) (i + 1)))), (11, .int (wB (wornR C w h s st e (b + i)))), (8, .int (nI (i))), (0, wm_r G (96)), (1, .int (nI (l))), (2, .int (nI (st))), (3, .int (nI (e))), (4, .int (nI (b)))] dX10_readFrom_156 (by decide) rfl ?_
                              refine wa_iinc ((nI (i + 1))) [(8, .int (nI (i + 1))), (7, .int (wB (wAny (fun i => wornR C w h s st e (b + i)) (i + 1)))), (6, .int (wB (wAll (perR C w h s st e l b) (i + 1)))), (5, .int (wB (wAll (isR C w h s st e l b) (i + 1)))), (11, .int (wB (wornR C w h s st e (b + i)))), (0, wm_r G (96)), (1, .int (nI (l))), (2, .int (nI (st))), (3, .int (nI (e))), (4, .int (nI (b)))] dX10_readFrom_158 4 rfl (nI_inc _) (by decide) rfl ?_
                              refine wa_goto 12 dX10_readFrom_161 (by decide) ?_
                              refine wa_sub [0, 1, 2, 3, 5, 6, 7, 8, 9] rfl ?_
                              exact ih_12 (i + 1) (by omega) (by omega)
                            · refine wa_iload dX10_readFrom_146 2 rfl ?_
                              refine wa_if_eqB 155 dX10_readFrom_148 (by decide) (fun (c_148 : (wornR C w h s st e (b + i)) = false) => ?_) (fun (c_148 : (wornR C w h s st e (b + i)) = true) => ?_)
                              · refine wa_iconst (0) dX10_readFrom_155 (by decide) ?_
                                refine wa_eqi (y := (wB (wAny (fun i => wornR C w h s st e (b + i)) (i + 1)))) (by rw [wAny_s]; first | (rw [c_143]; rfl) | (rw [c_143, show wornR C w h s st e (b + i) = _ from c_148]; rfl)) ?_
                                refine wa_istore [(7, .int (wB (wAny (fun i => wornR C w h s st e (b + i)) (i + 1)))), (6, .int (wB (wAll (perR C w h s st e l b) (i + 1)))), (5, .int (wB (wAll (isR C w h s st e l b) (i + 1)))), (11, .int (wB (wornR C w h s st e (b + i)))), (8, .int (nI (i))), (0, wm_r G (96)), (1, .int (nI (l))), (2, .int (nI (st))), (3, .int (nI (e))), (4, .int (nI (b)))] dX10_readFrom_156 (by decide) rfl ?_
                                refine wa_iinc ((nI (i + 1))) [(8, .int (nI (i + 1))), (7, .int (wB (wAny (fun i => wornR C w h s st e (b + i)) (i + 1)))), (6, .int (wB (wAll (perR C w h s st e l b) (i + 1)))), (5, .int (wB (wAll (isR C w h s st e l b) (i + 1)))), (11, .int (wB (wornR C w h s st e (b + i)))), (0, wm_r G (96)), (1, .int (nI (l))), (2, .int (nI (st))), (3, .int (nI (e))), (4, .int (nI (b)))] dX10_readFrom_158 4 rfl (nI_inc _) (by decide) rfl ?_
                                refine wa_goto 12 dX10_readFrom_161 (by decide) ?_
                                refine wa_sub [0, 1, 2, 3, 5, 6, 7, 8, 9] rfl ?_
                                exact ih_12 (i + 1) (by omega) (by omega)
                              · refine wa_iconst (1) dX10_readFrom_151 (by decide) ?_
                                refine wa_goto 156 dX10_readFrom_152 (by decide) ?_
                                refine wa_eqi (y := (wB (wAny (fun i => wornR C w h s st e (b + i)) (i + 1)))) (by rw [wAny_s]; first | (rw [c_143]; rfl) | (rw [c_143, show wornR C w h s st e (b + i) = _ from c_148]; rfl)) ?_
                                refine wa_istore [(7, .int (wB (wAny (fun i => wornR C w h s st e (b + i)) (i + 1)))), (6, .int (wB (wAll (perR C w h s st e l b) (i + 1)))), (5, .int (wB (wAll (isR C w h s st e l b) (i + 1)))), (11, .int (wB (wornR C w h s st e (b + i)))), (8, .int (nI (i))), (0, wm_r G (96)), (1, .int (nI (l))), (2, .int (nI (st))), (3, .int (nI (e))), (4, .int (nI (b)))] dX10_readFrom_156 (by decide) rfl ?_
                                refine wa_iinc ((nI (i + 1))) [(8, .int (nI (i + 1))), (7, .int (wB (wAny (fun i => wornR C w h s st e (b + i)) (i + 1)))), (6, .int (wB (wAll (perR C w h s st e l b) (i + 1)))), (5, .int (wB (wAll (isR C w h s st e l b) (i + 1)))), (11, .int (wB (wornR C w h s st e (b + i)))), (0, wm_r G (96)), (1, .int (nI (l))), (2, .int (nI (st))), (3, .int (nI (e))), (4, .int (nI (b)))] dX10_readFrom_158 4 rfl (nI_inc _) (by decide) rfl ?_
                                refine wa_goto 12 dX10_readFrom_161 (by decide) ?_
                                refine wa_sub [0, 1, 2, 3, 5, 6, 7, 8, 9] rfl ?_
                                exact ih_12 (i + 1) (by omega) (by omega)
                          refine wa_sub [0, 1, 2, 4, 5, 6, 7, 8, 9, 10] rfl ?_
                          exact L_141  
                        · refine wa_iconst (1) dX10_readFrom_134 (by decide) ?_
                          refine wa_goto 139 dX10_readFrom_135 (by decide) ?_
                          refine wa_eqi (y := (wB (wAll (perR C w h s st e l b) (i + 1)))) (by rw [wAll_s]; unfold perR; first | (rw [c_91]; rfl) | (rw [show wAll (fun j => isR C w h s st e l b j || (wornR C w h s st e (b + j) && decide (C.1 21 (sAt w h st e (b + j)) = C.1 (31 + l) j))) i = true from c_91]; first | (rw [c_96]; rfl) | (rw [c_96, c_101]; rfl) | (rw [c_96, c_101, decide_eq_true c_131]; rfl) | (rw [c_96, c_101, decide_eq_false c_131]; rfl)) | (rw [show wAll (fun j => isR C w h s st e l b j || (wornR C w h s st e (b + j) && decide (C.1 21 (sAt w h st e (b + j)) = C.1 (31 + l) j))) i = false from c_91]; rfl)) ?_
                          refine wa_istore [(6, .int (wB (wAll (perR C w h s st e l b) (i + 1)))), (5, .int (wB (wAll (isR C w h s st e l b) (i + 1)))), (11, .int (wB (wornR C w h s st e (b + i)))), (10, .int (wB (isR C w h s st e l b i))), (8, .int (nI (i))), (7, .int (wB (wAny (fun i => wornR C w h s st e (b + i)) i))), (0, wm_r G (96)), (1, .int (nI (l))), (2, .int (nI (st))), (3, .int (nI (e))), (4, .int (nI (b)))] dX10_readFrom_139 (by decide) rfl ?_
                          have L_141 : WA G t_X10_readFrom (fun v_ N_ => v_ = some (.int (nI (levAt w h (C.1 18) (C.1 19) (C.1 20) (C.1 21) (C.1 (31 + l)) z s st e b))) ∧ N_ = M) 141 [(6, .int (wB (wAll (perR C w h s st e l b) (i + 1)))), (5, .int (wB (wAll (isR C w h s st e l b) (i + 1)))), (11, .int (wB (wornR C w h s st e (b + i)))), (8, .int (nI (i))), (7, .int (wB (wAny (fun i => wornR C w h s st e (b + i)) i))), (0, wm_r G (96)), (1, .int (nI (l))), (2, .int (nI (st))), (3, .int (nI (e))), (4, .int (nI (b)))] [] (M) := by
                            refine wa_iload dX10_readFrom_141 4 rfl ?_
                            refine wa_if_neB 151 dX10_readFrom_143 (by decide) (fun (c_143 : (wAny (fun i => wornR C w h s st e (b + i)) i) = true) => ?_) (fun (c_143 : (wAny (fun i => wornR C w h s st e (b + i)) i) = false) => ?_)
                            · refine wa_iconst (1) dX10_readFrom_151 (by decide) ?_
                              refine wa_goto 156 dX10_readFrom_152 (by decide) ?_
                              refine wa_eqi (y := (wB (wAny (fun i => wornR C w h s st e (b + i)) (i + 1)))) (by rw [wAny_s]; first | (rw [c_143]; rfl) | (rw [c_143, show wornR C w h s st e (b + i) = _ from c_148]; rfl)) ?_
                              refine wa_istore [(7, .int (wB (wAny (fun i => wornR C w h s st e (b + i)) (i + 1)))), (6, .int (wB (wAll (perR C w h s st e l b) (i + 1)))), (5, .int (wB (wAll (isR C w h s st e l b) (i + 1)))), (11, .int (wB (wornR C w h s st e (b + i)))), (8, .int (nI (i))), (0, wm_r G (96)), (1, .int (nI (l))), (2, .int (nI (st))), (3, .int (nI (e))), (4, .int (nI (b)))] dX10_readFrom_156 (by decide) rfl ?_
                              refine wa_iinc ((nI (i + 1))) [(8, .int (nI (i + 1))), (7, .int (wB (wAny (fun i => wornR C w h s st e (b + i)) (i + 1)))), (6, .int (wB (wAll (perR C w h s st e l b) (i + 1)))), (5, .int (wB (wAll (isR C w h s st e l b) (i + 1)))), (11, .int (wB (wornR C w h s st e (b + i)))), (0, wm_r G (96)), (1, .int (nI (l))), (2, .int (nI (st))), (3, .int (nI (e))), (4, .int (nI (b)))] dX10_readFrom_158 4 rfl (nI_inc _) (by decide) rfl ?_
                              refine wa_goto 12 dX10_readFrom_161 (by decide) ?_
                              refine wa_sub [0, 1, 2, 3, 5, 6, 7, 8, 9] rfl ?_
                              exact ih_12 (i + 1) (by omega) (by omega)
                            · refine wa_iload dX10_readFrom_146 2 rfl ?_
                              refine wa_if_eqB 155 dX10_readFrom_148 (by decide) (fun (c_148 : (wornR C w h s st e (b + i)) = false) => ?_) (fun (c_148 : (wornR C w h s st e (b + i)) = true) => ?_)
                              · refine wa_iconst (0) dX10_readFrom_155 (by decide) ?_
                                refine wa_eqi (y := (wB (wAny (fun i => wornR C w h s st e (b + i)) (i + 1)))) (by rw [wAny_s]; first | (rw [c_143]; rfl) | (rw [c_143, show wornR C w h s st e (b + i) = _ from c_148]; rfl)) ?_
                                refine wa_istore [(7, .int (wB (wAny (fun i => wornR C w h s st e (b + i)) (i + 1)))), (6, .int (wB (wAll (perR C w h s st e l b) (i + 1)))), (5, .int (wB (wAll (isR C w h s st e l b) (i + 1)))), (11, .int (wB (wornR C w h s st e (b + i)))), (8, .int (nI (i))), (0, wm_r G (96)), (1, .int (nI (l))), (2, .int (nI (st))), (3, .int (nI (e))), (4, .int (nI (b)))] dX10_readFrom_156 (by decide) rfl ?_
                                refine wa_iinc ((nI (i + 1))) [(8, .int (nI (i + 1))), (7, .int (wB (wAny (fun i => wornR C w h s st e (b + i)) (i + 1)))), (6, .int (wB (wAll (perR C w h s st e l b) (i + 1)))), (5, .int (wB (wAll (isR C w h s st e l b) (i + 1)))), (11, .int (wB (wornR C w h s st e (b + i)))), (0, wm_r G (96)), (1, .int (nI (l))), (2, .int (nI (st))), (3, .int (nI (e))), (4, .int (nI (b)))] dX10_readFrom_158 4 rfl (nI_inc _) (by decide) rfl ?_
                                refine wa_goto 12 dX10_readFrom_161 (by decide) ?_
                                refine wa_sub [0, 1, 2, 3, 5, 6, 7, 8, 9] rfl ?_
                                exact ih_12 (i + 1) (by omega) (by omega)
                              · refine wa_iconst (1) dX10_readFrom_151 (by decide) ?_
                                refine wa_goto 156 dX10_readFrom_152 (by decide) ?_
                                refine wa_eqi (y := (wB (wAny (fun i => wornR C w h s st e (b + i)) (i + 1)))) (by rw [wAny_s]; first | (rw [c_143]; rfl) | (rw [c_143, show wornR C w h s st e (b + i) = _ from c_148]; rfl)) ?_
                                refine wa_istore [(7, .int (wB (wAny (fun i => wornR C w h s st e (b + i)) (i + 1)))), (6, .int (wB (wAll (perR C w h s st e l b) (i + 1)))), (5, .int (wB (wAll (isR C w h s st e l b) (i + 1)))), (11, .int (wB (wornR C w h s st e (b + i)))), (8, .int (nI (i))), (0, wm_r G (96)), (1, .int (nI (l))), (2, .int (nI (st))), (3, .int (nI (e))), (4, .int (nI (b)))] dX10_readFrom_156 (by decide) rfl ?_
                                refine wa_iinc ((nI (i + 1))) [(8, .int (nI (i + 1))), (7, .int (wB (wAny (fun i => wornR C w h s st e (b + i)) (i + 1)))), (6, .int (wB (wAll (perR C w h s st e l b) (i + 1)))), (5, .int (wB (wAll (isR C w h s st e l b) (i + 1)))), (11, .int (wB (wornR C w h s st e (b + i)))), (0, wm_r G (96)), (1, .int (nI (l))), (2, .int (nI (st))), (3, .int (nI (e))), (4, .int (nI (b)))] dX10_readFrom_158 4 rfl (nI_inc _) (by decide) rfl ?_
                                refine wa_goto 12 dX10_readFrom_161 (by decide) ?_
                                refine wa_sub [0, 1, 2, 3, 5, 6, 7, 8, 9] rfl ?_
                                exact ih_12 (i + 1) (by omega) (by omega)
                          refine wa_sub [0, 1, 2, 4, 5, 6, 7, 8, 9, 10] rfl ?_
                          exact L_141  
                exact L_89  
              · refine wa_iconst (1) dX10_readFrom_82 (by decide) ?_
                refine wa_goto 87 dX10_readFrom_83 (by decide) ?_
                refine wa_eqi (y := (wB (wAll (isR C w h s st e l b) (i + 1)))) (by rw [wAll_s]; first | (rw [c_74, c_79]; rfl) | (rw [c_74]; rfl)) ?_
                refine wa_istore [(5, .int (wB (wAll (isR C w h s st e l b) (i + 1)))), (11, .int (wB (wornR C w h s st e (b + i)))), (10, .int (wB (isR C w h s st e l b i))), (8, .int (nI (i))), (7, .int (wB (wAny (fun i => wornR C w h s st e (b + i)) i))), (6, .int (wB (wAll (perR C w h s st e l b) i))), (0, wm_r G (96)), (1, .int (nI (l))), (2, .int (nI (st))), (3, .int (nI (e))), (4, .int (nI (b)))] dX10_readFrom_87 (by decide) rfl ?_
                have L_89 : WA G t_X10_readFrom (fun v_ N_ => v_ = some (.int (nI (levAt w h (C.1 18) (C.1 19) (C.1 20) (C.1 21) (C.1 (31 + l)) z s st e b))) ∧ N_ = M) 89 [(5, .int (wB (wAll (isR C w h s st e l b) (i + 1)))), (11, .int (wB (wornR C w h s st e (b + i)))), (10, .int (wB (isR C w h s st e l b i))), (8, .int (nI (i))), (7, .int (wB (wAny (fun i => wornR C w h s st e (b + i)) i))), (6, .int (wB (wAll (perR C w h s st e l b) i))), (0, wm_r G (96)), (1, .int (nI (l))), (2, .int (nI (st))), (3, .int (nI (e))), (4, .int (nI (b)))] [] (M) := by
                  refine wa_iload dX10_readFrom_89 5 rfl ?_
                  refine wa_if_eqB 138 dX10_readFrom_91 (by decide) (fun (c_91 : (wAll (perR C w h s st e l b) i) = false) => ?_) (fun (c_91 : (wAll (perR C w h s st e l b) i) = true) => ?_)
                  · refine wa_iconst (0) dX10_readFrom_138 (by decide) ?_
                    refine wa_eqi (y := (wB (wAll (perR C w h s st e l b) (i + 1)))) (by rw [wAll_s]; unfold perR; first | (rw [c_91]; rfl) | (rw [show wAll (fun j => isR C w h s st e l b j || (wornR C w h s st e (b + j) && decide (C.1 21 (sAt w h st e (b + j)) = C.1 (31 + l) j))) i = true from c_91]; first | (rw [c_96]; rfl) | (rw [c_96, c_101]; rfl) | (rw [c_96, c_101, decide_eq_true c_131]; rfl) | (rw [c_96, c_101, decide_eq_false c_131]; rfl)) | (rw [show wAll (fun j => isR C w h s st e l b j || (wornR C w h s st e (b + j) && decide (C.1 21 (sAt w h st e (b + j)) = C.1 (31 + l) j))) i = false from c_91]; rfl)) ?_
                    refine wa_istore [(6, .int (wB (wAll (perR C w h s st e l b) (i + 1)))), (5, .int (wB (wAll (isR C w h s st e l b) (i + 1)))), (11, .int (wB (wornR C w h s st e (b + i)))), (10, .int (wB (isR C w h s st e l b i))), (8, .int (nI (i))), (7, .int (wB (wAny (fun i => wornR C w h s st e (b + i)) i))), (0, wm_r G (96)), (1, .int (nI (l))), (2, .int (nI (st))), (3, .int (nI (e))), (4, .int (nI (b)))] dX10_readFrom_139 (by decide) rfl ?_
                    have L_141 : WA G t_X10_readFrom (fun v_ N_ => v_ = some (.int (nI (levAt w h (C.1 18) (C.1 19) (C.1 20) (C.1 21) (C.1 (31 + l)) z s st e b))) ∧ N_ = M) 141 [(6, .int (wB (wAll (perR C w h s st e l b) (i + 1)))), (5, .int (wB (wAll (isR C w h s st e l b) (i + 1)))), (11, .int (wB (wornR C w h s st e (b + i)))), (8, .int (nI (i))), (7, .int (wB (wAny (fun i => wornR C w h s st e (b + i)) i))), (0, wm_r G (96)), (1, .int (nI (l))), (2, .int (nI (st))), (3, .int (nI (e))), (4, .int (nI (b)))] [] (M) := by
                      refine wa_iload dX10_readFrom_141 4 rfl ?_
                      refine wa_if_neB 151 dX10_readFrom_143 (by decide) (fun (c_143 : (wAny (fun i => wornR C w h s st e (b + i)) i) = true) => ?_) (fun (c_143 : (wAny (fun i => wornR C w h s st e (b + i)) i) = false) => ?_)
                      · refine wa_iconst (1) dX10_readFrom_151 (by decide) ?_
                        refine wa_goto 156 dX10_readFrom_152 (by decide) ?_
                        refine wa_eqi (y := (wB (wAny (fun i => wornR C w h s st e (b + i)) (i + 1)))) (by rw [wAny_s]; first | (rw [c_143]; rfl) | (rw [c_143, show wornR C w h s st e (b + i) = _ from c_148]; rfl)) ?_
                        refine wa_istore [(7, .int (wB (wAny (fun i => wornR C w h s st e (b + i)) (i + 1)))), (6, .int (wB (wAll (perR C w h s st e l b) (i + 1)))), (5, .int (wB (wAll (isR C w h s st e l b) (i + 1)))), (11, .int (wB (wornR C w h s st e (b + i)))), (8, .int (nI (i))), (0, wm_r G (96)), (1, .int (nI (l))), (2, .int (nI (st))), (3, .int (nI (e))), (4, .int (nI (b)))] dX10_readFrom_156 (by decide) rfl ?_
                        refine wa_iinc ((nI (i + 1))) [(8, .int (nI (i + 1))), (7, .int (wB (wAny (fun i => wornR C w h s st e (b + i)) (i + 1)))), (6, .int (wB (wAll (perR C w h s st e l b) (i + 1)))), (5, .int (wB (wAll (isR C w h s st e l b) (i + 1)))), (11, .int (wB (wornR C w h s st e (b + i)))), (0, wm_r G (96)), (1, .int (nI (l))), (2, .int (nI (st))), (3, .int (nI (e))), (4, .int (nI (b)))] dX10_readFrom_158 4 rfl (nI_inc _) (by decide) rfl ?_
                        refine wa_goto 12 dX10_readFrom_161 (by decide) ?_
                        refine wa_sub [0, 1, 2, 3, 5, 6, 7, 8, 9] rfl ?_
                        exact ih_12 (i + 1) (by omega) (by omega)
                      · refine wa_iload dX10_readFrom_146 2 rfl ?_
                        refine wa_if_eqB 155 dX10_readFrom_148 (by decide) (fun (c_148 : (wornR C w h s st e (b + i)) = false) => ?_) (fun (c_148 : (wornR C w h s st e (b + i)) = true) => ?_)
                        · refine wa_iconst (0) dX10_readFrom_155 (by decide) ?_
                          refine wa_eqi (y := (wB (wAny (fun i => wornR C w h s st e (b + i)) (i + 1)))) (by rw [wAny_s]; first | (rw [c_143]; rfl) | (rw [c_143, show wornR C w h s st e (b + i) = _ from c_148]; rfl)) ?_
                          refine wa_istore [(7, .int (wB (wAny (fun i => wornR C w h s st e (b + i)) (i + 1)))), (6, .int (wB (wAll (perR C w h s st e l b) (i + 1)))), (5, .int (wB (wAll (isR C w h s st e l b) (i + 1)))), (11, .int (wB (wornR C w h s st e (b + i)))), (8, .int (nI (i))), (0, wm_r G (96)), (1, .int (nI (l))), (2, .int (nI (st))), (3, .int (nI (e))), (4, .int (nI (b)))] dX10_readFrom_156 (by decide) rfl ?_
                          refine wa_iinc ((nI (i + 1))) [(8, .int (nI (i + 1))), (7, .int (wB (wAny (fun i => wornR C w h s st e (b + i)) (i + 1)))), (6, .int (wB (wAll (perR C w h s st e l b) (i + 1)))), (5, .int (wB (wAll (isR C w h s st e l b) (i + 1)))), (11, .int (wB (wornR C w h s st e (b + i)))), (0, wm_r G (96)), (1, .int (nI (l))), (2, .int (nI (st))), (3, .int (nI (e))), (4, .int (nI (b)))] dX10_readFrom_158 4 rfl (nI_inc _) (by decide) rfl ?_
                          refine wa_goto 12 dX10_readFrom_161 (by decide) ?_
                          refine wa_sub [0, 1, 2, 3, 5, 6, 7, 8, 9] rfl ?_
                          exact ih_12 (i + 1) (by omega) (by omega)
                        · refine wa_iconst (1) dX10_readFrom_151 (by decide) ?_
                          refine wa_goto 156 dX10_readFrom_152 (by decide) ?_
                          refine wa_eqi (y := (wB (wAny (fun i => wornR C w h s st e (b + i)) (i + 1)))) (by rw [wAny_s]; first | (rw [c_143]; rfl) | (rw [c_143, show wornR C w h s st e (b + i) = _ from c_148]; rfl)) ?_
                          refine wa_istore [(7, .int (wB (wAny (fun i => wornR C w h s st e (b + i)) (i + 1)))), (6, .int (wB (wAll (perR C w h s st e l b) (i + 1)))), (5, .int (wB (wAll (isR C w h s st e l b) (i + 1)))), (11, .int (wB (wornR C w h s st e (b + i)))), (8, .int (nI (i))), (0, wm_r G (96)), (1, .int (nI (l))), (2, .int (nI (st))), (3, .int (nI (e))), (4, .int (nI (b)))] dX10_readFrom_156 (by decide) rfl ?_
                          refine wa_iinc ((nI (i + 1))) [(8, .int (nI (i + 1))), (7, .int (wB (wAny (fun i => wornR C w h s st e (b + i)) (i + 1)))), (6, .int (wB (wAll (perR C w h s st e l b) (i + 1)))), (5, .int (wB (wAll (isR C w h s st e l b) (i + 1)))), (11, .int (wB (wornR C w h s st e (b + i)))), (0, wm_r G (96)), (1, .int (nI (l))), (2, .int (nI (st))), (3, .int (nI (e))), (4, .int (nI (b)))] dX10_readFrom_158 4 rfl (nI_inc _) (by decide) rfl ?_
                          refine wa_goto 12 dX10_readFrom_161 (by decide) ?_
                          refine wa_sub [0, 1, 2, 3, 5, 6, 7, 8, 9] rfl ?_
                          exact ih_12 (i + 1) (by omega) (by omega)
                    refine wa_sub [0, 1, 2, 4, 5, 6, 7, 8, 9, 10] rfl ?_
                    exact L_141  
                  · refine wa_iload dX10_readFrom_94 2 rfl ?_
                    refine wa_if_neB 134 dX10_readFrom_96 (by decide) (fun (c_96 : (isR C w h s st e l b i) = true) => ?_) (fun (c_96 : (isR C w h s st e l b i) = false) => ?_)
                    · refine wa_iconst (1) dX10_readFrom_134 (by decide) ?_
                      refine wa_goto 139 dX10_readFrom_135 (by decide) ?_
                      refine wa_eqi (y := (wB (wAll (perR C w h s st e l b) (i + 1)))) (by rw [wAll_s]; unfold perR; first | (rw [c_91]; rfl) | (rw [show wAll (fun j => isR C w h s st e l b j || (wornR C w h s st e (b + j) && decide (C.1 21 (sAt w h st e (b + j)) = C.1 (31 + l) j))) i = true from c_91]; first | (rw [c_96]; rfl) | (rw [c_96, c_101]; rfl) | (rw [c_96, c_101, decide_eq_true c_131]; rfl) | (rw [c_96, c_101, decide_eq_false c_131]; rfl)) | (rw [show wAll (fun j => isR C w h s st e l b j || (wornR C w h s st e (b + j) && decide (C.1 21 (sAt w h st e (b + j)) = C.1 (31 + l) j))) i = false from c_91]; rfl)) ?_
                      refine wa_istore [(6, .int (wB (wAll (perR C w h s st e l b) (i + 1)))), (5, .int (wB (wAll (isR C w h s st e l b) (i + 1)))), (11, .int (wB (wornR C w h s st e (b + i)))), (10, .int (wB (isR C w h s st e l b i))), (8, .int (nI (i))), (7, .int (wB (wAny (fun i => wornR C w h s st e (b + i)) i))), (0, wm_r G (96)), (1, .int (nI (l))), (2, .int (nI (st))), (3, .int (nI (e))), (4, .int (nI (b)))] dX10_readFrom_139 (by decide) rfl ?_
                      have L_141 : WA G t_X10_readFrom (fun v_ N_ => v_ = some (.int (nI (levAt w h (C.1 18) (C.1 19) (C.1 20) (C.1 21) (C.1 (31 + l)) z s st e b))) ∧ N_ = M) 141 [(6, .int (wB (wAll (perR C w h s st e l b) (i + 1)))), (5, .int (wB (wAll (isR C w h s st e l b) (i + 1)))), (11, .int (wB (wornR C w h s st e (b + i)))), (8, .int (nI (i))), (7, .int (wB (wAny (fun i => wornR C w h s st e (b + i)) i))), (0, wm_r G (96)), (1, .int (nI (l))), (2, .int (nI (st))), (3, .int (nI (e))), (4, .int (nI (b)))] [] (M) := by
                        refine wa_iload dX10_readFrom_141 4 rfl ?_
                        refine wa_if_neB 151 dX10_readFrom_143 (by decide) (fun (c_143 : (wAny (fun i => wornR C w h s st e (b + i)) i) = true) => ?_) (fun (c_143 : (wAny (fun i => wornR C w h s st e (b + i)) i) = false) => ?_)
                        · refine wa_iconst (1) dX10_readFrom_151 (by decide) ?_
                          refine wa_goto 156 dX10_readFrom_152 (by decide) ?_
                          refine wa_eqi (y := (wB (wAny (fun i => wornR C w h s st e (b + i)) (i + 1)))) (by rw [wAny_s]; first | (rw [c_143]; rfl) | (rw [c_143, show wornR C w h s st e (b + i) = _ from c_148]; rfl)) ?_
                          refine wa_istore [(7, .int (wB (wAny (fun i => wornR C w h s st e (b + i)) (i + 1)))), (6, .int (wB (wAll (perR C w h s st e l b) (i + 1)))), (5, .int (wB (wAll (isR C w h s st e l b) (i + 1)))), (11, .int (wB (wornR C w h s st e (b + i)))), (8, .int (nI (i))), (0, wm_r G (96)), (1, .int (nI (l))), (2, .int (nI (st))), (3, .int (nI (e))), (4, .int (nI (b)))] dX10_readFrom_156 (by decide) rfl ?_
                          refine wa_iinc ((nI (i + 1))) [(8, .int (nI (i + 1))), (7, .int (wB (wAny (fun i => wornR C w h s st e (b + i)) (i + 1)))), (6, .int (wB (wAll (perR C w h s st e l b) (i + 1)))), (5, .int (wB (wAll (isR C w h s st e l b) (i + 1)))), (11, .int (wB (wornR C w h s st e (b + i)))), (0, wm_r G (96)), (1, .int (nI (l))), (2, .int (nI (st))), (3, .int (nI (e))), (4, .int (nI (b)))] dX10_readFrom_158 4 rfl (nI_inc _) (by decide) rfl ?_
                          refine wa_goto 12 dX10_readFrom_161 (by decide) ?_
                          refine wa_sub [0, 1, 2, 3, 5, 6, 7, 8, 9] rfl ?_
                          exact ih_12 (i + 1) (by omega) (by omega)
                        · refine wa_iload dX10_readFrom_146 2 rfl ?_
                          refine wa_if_eqB 155 dX10_readFrom_148 (by decide) (fun (c_148 : (wornR C w h s st e (b + i)) = false) => ?_) (fun (c_148 : (wornR C w h s st e (b + i)) = true) => ?_)
                          · refine wa_iconst (0) dX10_readFrom_155 (by decide) ?_
                            refine wa_eqi (y := (wB (wAny (fun i => wornR C w h s st e (b + i)) (i + 1)))) (by rw [wAny_s]; first | (rw [c_143]; rfl) | (rw [c_143, show wornR C w h s st e (b + i) = _ from c_148]; rfl)) ?_
                            refine wa_istore [(7, .int (wB (wAny (fun i => wornR C w h s st e (b + i)) (i + 1)))), (6, .int (wB (wAll (perR C w h s st e l b) (i + 1)))), (5, .int (wB (wAll (isR C w h s st e l b) (i + 1)))), (11, .int (wB (wornR C w h s st e (b + i)))), (8, .int (nI (i))), (0, wm_r G (96)), (1, .int (nI (l))), (2, .int (nI (st))), (3, .int (nI (e))), (4, .int (nI (b)))] dX10_readFrom_156 (by decide) rfl ?_
                            refine wa_iinc ((nI (i + 1))) [(8, .int (nI (i + 1))), (7, .int (wB (wAny (fun i => wornR C w h s st e (b + i)) (i + 1)))), (6, .int (wB (wAll (perR C w h s st e l b) (i + 1)))), (5, .int (wB (wAll (isR C w h s st e l b) (i + 1)))), (11, .int (wB (wornR C w h s st e (b + i)))), (0, wm_r G (96)), (1, .int (nI (l))), (2, .int (nI (st))), (3, .int (nI (e))), (4, .int (nI (b)))] dX10_readFrom_158 4 rfl (nI_inc _) (by decide) rfl ?_
                            refine wa_goto 12 dX10_readFrom_161 (by decide) ?_
                            refine wa_sub [0, 1, 2, 3, 5, 6, 7, 8, 9] rfl ?_
                            exact ih_12 (i + 1) (by omega) (by omega)
                          · refine wa_iconst (1) dX10_readFrom_151 (by decide) ?_
                            refine wa_goto 156 dX10_readFrom_152 (by decide) ?_
                            refine wa_eqi (y := (wB (wAny (fun i => wornR C w h s st e (b + i)) (i + 1)))) (by rw [wAny_s]; first | (rw [c_143]; rfl) | (rw [c_143, show wornR C w h s st e (b + i) = _ from c_148]; rfl)) ?_
                            refine wa_istore [(7, .int (wB (wAny (fun i => wornR C w h s st e (b + i)) (i + 1)))), (6, .int (wB (wAll (perR C w h s st e l b) (i + 1)))), (5, .int (wB (wAll (isR C w h s st e l b) (i + 1)))), (11, .int (wB (wornR C w h s st e (b + i)))), (8, .int (nI (i))), (0, wm_r G (96)), (1, .int (nI (l))), (2, .int (nI (st))), (3, .int (nI (e))), (4, .int (nI (b)))] dX10_readFrom_156 (by decide) rfl ?_
                            refine wa_iinc ((nI (i + 1))) [(8, .int (nI (i + 1))), (7, .int (wB (wAny (fun i => wornR C w h s st e (b + i)) (i + 1)))), (6, .int (wB (wAll (perR C w h s st e l b) (i + 1)))), (5, .int (wB (wAll (isR C w h s st e l b) (i + 1)))), (11, .int (wB (wornR C w h s st e (b + i)))), (0, wm_r G (96)), (1, .int (nI (l))), (2, .int (nI (st))), (3, .int (nI (e))), (4, .int (nI (b)))] dX10_readFrom_158 4 rfl (nI_inc _) (by decide) rfl ?_
                            refine wa_goto 12 dX10_readFrom_161 (by decide) ?_
                            refine wa_sub [0, 1, 2, 3, 5, 6, 7, 8, 9] rfl ?_
                            exact ih_12 (i + 1) (by omega) (by omega)
                      refine wa_sub [0, 1, 2, 4, 5, 6, 7, 8, 9, 10] rfl ?_
                      exact L_141  
                    · refine wa_iload dX10_readFrom_99 1 rfl ?_
                      refine wa_if_eqB 138 dX10_readFrom_101 (by decide) (fun (c_101 : (wornR C w h s st e (b + i)) = false) => ?_) (fun (c_101 : (wornR C w h s st e (b + i)) = true) => ?_)
                      · refine wa_iconst (0) dX10_readFrom_138 (by decide) ?_
                        refine wa_eqi (y := (wB (wAll (perR C w h s st e l b) (i + 1)))) (by rw [wAll_s]; unfold perR; first | (rw [c_91]; rfl) | (rw [show wAll (fun j => isR C w h s st e l b j || (wornR C w h s st e (b + j) && decide (C.1 21 (sAt w h st e (b + j)) = C.1 (31 + l) j))) i = true from c_91]; first | (rw [c_96]; rfl) | (rw [c_96, c_101]; rfl) | (rw [c_96, c_101, decide_eq_true c_131]; rfl) | (rw [c_96, c_101, decide_eq_false c_131]; rfl)) | (rw [show wAll (fun j => isR C w h s st e l b j || (wornR C w h s st e (b + j) && decide (C.1 21 (sAt w h st e (b + j)) = C.1 (31 + l) j))) i = false from c_91]; rfl)) ?_
                        refine wa_istore [(6, .int (wB (wAll (perR C w h s st e l b) (i + 1)))), (5, .int (wB (wAll (isR C w h s st e l b) (i + 1)))), (11, .int (wB (wornR C w h s st e (b + i)))), (10, .int (wB (isR C w h s st e l b i))), (8, .int (nI (i))), (7, .int (wB (wAny (fun i => wornR C w h s st e (b + i)) i))), (0, wm_r G (96)), (1, .int (nI (l))), (2, .int (nI (st))), (3, .int (nI (e))), (4, .int (nI (b)))] dX10_readFrom_139 (by decide) rfl ?_
                        have L_141 : WA G t_X10_readFrom (fun v_ N_ => v_ = some (.int (nI (levAt w h (C.1 18) (C.1 19) (C.1 20) (C.1 21) (C.1 (31 + l)) z s st e b))) ∧ N_ = M) 141 [(6, .int (wB (wAll (perR C w h s st e l b) (i + 1)))), (5, .int (wB (wAll (isR C w h s st e l b) (i + 1)))), (11, .int (wB (wornR C w h s st e (b + i)))), (8, .int (nI (i))), (7, .int (wB (wAny (fun i => wornR C w h s st e (b + i)) i))), (0, wm_r G (96)), (1, .int (nI (l))), (2, .int (nI (st))), (3, .int (nI (e))), (4, .int (nI (b)))] [] (M) := by
                          refine wa_iload dX10_readFrom_141 4 rfl ?_
                          refine wa_if_neB 151 dX10_readFrom_143 (by decide) (fun (c_143 : (wAny (fun i => wornR C w h s st e (b + i)) i) = true) => ?_) (fun (c_143 : (wAny (fun i => wornR C w h s st e (b + i)) i) = false) => ?_)
                          · refine wa_iconst (1) dX10_readFrom_151 (by decide) ?_
                            refine wa_goto 156 dX10_readFrom_152 (by decide) ?_
                            refine wa_eqi (y := (wB (wAny (fun i => wornR C w h s st e (b + i)) (i + 1)))) (by rw [wAny_s]; first | (rw [c_143]; rfl) | (rw [c_143, show wornR C w h s st e (b + i) = _ from c_148]; rfl)) ?_
                            refine wa_istore [(7, .int (wB (wAny (fun i => wornR C w h s st e (b + i)) (i + 1)))), (6, .int (wB (wAll (perR C w h s st e l b) (i + 1)))), (5, .int (wB (wAll (isR C w h s st e l b) (i + 1)))), (11, .int (wB (wornR C w h s st e (b + i)))), (8, .int (nI (i))), (0, wm_r G (96)), (1, .int (nI (l))), (2, .int (nI (st))), (3, .int (nI (e))), (4, .int (nI (b)))] dX10_readFrom_156 (by decide) rfl ?_
                            refine wa_iinc ((nI (i + 1))) [(8, .int (nI (i + 1))), (7, .int (wB (wAny (fun i => wornR C w h s st e (b + i)) (i + 1)))), (6, .int (wB (wAll (perR C w h s st e l b) (i + 1)))), (5, .int (wB (wAll (isR C w h s st e l b) (i + 1)))), (11, .int (wB (wornR C w h s st e (b + i)))), (0, wm_r G (96)), (1, .int (nI (l))), (2, .int (nI (st))), (3, .int (nI (e))), (4, .int (nI (b)))] dX10_readFrom_158 4 rfl (nI_inc _) (by decide) rfl ?_
                            refine wa_goto 12 dX10_readFrom_161 (by decide) ?_
                            refine wa_sub [0, 1, 2, 3, 5, 6, 7, 8, 9] rfl ?_
                            exact ih_12 (i + 1) (by omega) (by omega)
                          · refine wa_iload dX10_readFrom_146 2 rfl ?_
                            refine wa_if_eqB 155 dX10_readFrom_148 (by decide) (fun (c_148 : (wornR C w h s st e (b + i)) = false) => ?_) (fun (c_148 : (wornR C w h s st e (b + i)) = true) => ?_)
                            · refine wa_iconst (0) dX10_readFrom_155 (by decide) ?_
                              refine wa_eqi (y := (wB (wAny (fun i => wornR C w h s st e (b + i)) (i + 1)))) (by rw [wAny_s]; first | (rw [c_143]; rfl) | (rw [c_143, show wornR C w h s st e (b + i) = _ from c_148]; rfl)) ?_
                              refine wa_istore [(7, .int (wB (wAny (fun i => wornR C w h s st e (b + i)) (i + 1)))), (6, .int (wB (wAll (perR C w h s st e l b) (i + 1)))), (5, .int (wB (wAll (isR C w h s st e l b) (i + 1)))), (11, .int (wB (wornR C w h s st e (b + i)))), (8, .int (nI (i))), (0, wm_r G (96)), (1, .int (nI (l))), (2, .int (nI (st))), (3, .int (nI (e))), (4, .int (nI (b)))] dX10_readFrom_156 (by decide) rfl ?_
                              refine wa_iinc ((nI (i + 1))) [(8, .int (nI (i + 1))), (7, .int (wB (wAny (fun i => wornR C w h s st e (b + i)) (i + 1)))), (6, .int (wB (wAll (perR C w h s st e l b) (i + 1)))), (5, .int (wB (wAll (isR C w h s st e l b) (i + 1)))), (11, .int (wB (wornR C w h s st e (b + i)))), (0, wm_r G (96)), (1, .int (nI (l))), (2, .int (nI (st))), (3, .int (nI (e))), (4, .int (nI (b)))] dX10_readFrom_158 4 rfl (nI_inc _) (by decide) rfl ?_
                              refine wa_goto 12 dX10_readFrom_161 (by decide) ?_
                              refine wa_sub [0, 1, 2, 3, 5, 6, 7, 8, 9] rfl ?_
                              exact ih_12 (i + 1) (by omega) (by omega)
                            · refine wa_iconst (1) dX10_readFrom_151 (by decide) ?_
                              refine wa_goto 156 dX10_readFrom_152 (by decide) ?_
                              refine wa_eqi (y := (wB (wAny (fun i => wornR C w h s st e (b + i)) (i + 1)))) (by rw [wAny_s]; first | (rw [c_143]; rfl) | (rw [c_143, show wornR C w h s st e (b + i) = _ from c_148]; rfl)) ?_
                              refine wa_istore [(7, .int (wB (wAny (fun i => wornR C w h s st e (b + i)) (i + 1)))), (6, .int (wB (wAll (perR C w h s st e l b) (i + 1)))), (5, .int (wB (wAll (isR C w h s st e l b) (i + 1)))), (11, .int (wB (wornR C w h s st e (b + i)))), (8, .int (nI (i))), (0, wm_r G (96)), (1, .int (nI (l))), (2, .int (nI (st))), (3, .int (nI (e))), (4, .int (nI (b)))] dX10_readFrom_156 (by decide) rfl ?_
                              refine wa_iinc ((nI (i + 1))) [(8, .int (nI (i + 1))), (7, .int (wB (wAny (fun i => wornR C w h s st e (b + i)) (i + 1)))), (6, .int (wB (wAll (perR C w h s st e l b) (i + 1)))), (5, .int (wB (wAll (isR C w h s st e l b) (i + 1)))), (11, .int (wB (wornR C w h s st e (b + i)))), (0, wm_r G (96)), (1, .int (nI (l))), (2, .int (nI (st))), (3, .int (nI (e))), (4, .int (nI (b)))] dX10_readFrom_158 4 rfl (nI_inc _) (by decide) rfl ?_
                              refine wa_goto 12 dX10_readFrom_161 (by decide) ?_
                              refine wa_sub [0, 1, 2, 3, 5, 6, 7, 8, 9] rfl ?_
                              exact ih_12 (i + 1) (by omega) (by omega)
                        refine wa_sub [0, 1, 2, 4, 5, 6, 7, 8, 9, 10] rfl ?_
                        exact L_141  
                      · refine wa_aload_n dX10_readFrom_104 rfl 6 rfl ?_
                        refine wa_getr gX10_readFrom_105 (rfl) rfl ?_
                        refine wa_aload_n dX10_readFrom_108 rfl 6 rfl ?_
                        refine wa_iload_n dX10_readFrom_109 rfl 8 rfl ?_
                        refine wa_iload_n dX10_readFrom_110 rfl 9 rfl ?_
                        refine wa_iload dX10_readFrom_111 10 rfl ?_
                        refine wa_iload dX10_readFrom_113 3 rfl ?_
                        refine wa_iaddN (a := b) (b := i) dX10_readFrom_115 ?_
                        refine wa_cVi (x_stoneAt C w h hX hW st e (b + i) hst he (by omega)) vX10_stoneAt iX10_readFrom_116 (rfl) rfl rfl rfl (Nat.le_of_ble_eq_true rfl) ⟨by decide, by decide⟩ ?_
                        have hat := sAt_lt (e := e) hst (show b + i < sLen w h st by omega)
                        refine wa_ialdN (e := sAt w h st e (b + i)) dX10_readFrom_119 (rfl) (by omega) (by decide) ?_
                        refine wa_eqi (y := (C.1 21 (sAt w h st e (b + i)))) (x106 _ hat (by have q := c_101; unfold wornR at q; rw [Bool.and_eq_true] at q; exact of_decide_eq_true q.1)) ?_
                        refine wa_aload_n dX10_readFrom_120 rfl 6 rfl ?_
                        refine wa_getr gX10_readFrom_121 (rfl) rfl ?_
                        refine wa_iconst (3) dX10_readFrom_124 (by decide) ?_
                        refine wa_iload_n dX10_readFrom_125 rfl 7 rfl ?_
                        refine wa_imulN (a := 3) (b := l) dX10_readFrom_126 ?_
                        refine wa_iload dX10_readFrom_127 3 rfl ?_
                        refine wa_iaddN (a := 3 * l) (b := i) dX10_readFrom_129 ?_
                        refine wa_ialdN (e := 3 * l + i) dX10_readFrom_130 (rfl) (by omega) (by decide) ?_
                        refine wa_eqi (y := (C.1 (31 + l) i)) (hlw i (by omega)) ?_
                        refine wa_icmp_ne 138 dX10_readFrom_131 (by decide) (fun c_131 => ?_) (fun c_131 => ?_)
                        · refine wa_iconst (0) dX10_readFrom_138 (by decide) ?_
                          refine wa_eqi (y := (wB (wAll (perR C w h s st e l b) (i + 1)))) (by rw [wAll_s]; unfold perR; first | (rw [c_91]; rfl) | (rw [show wAll (fun j => isR C w h s st e l b j || (wornR C w h s st e (b + j) && decide (C.1 21 (sAt w h st e (b + j)) = C.1 (31 + l) j))) i = true from c_91]; first | (rw [c_96]; rfl) | (rw [c_96, c_101]; rfl) | (rw [c_96, c_101, decide_eq_true c_131]; rfl) | (rw [c_96, c_101, decide_eq_false c_131]; rfl)) | (rw [show wAll (fun j => isR C w h s st e l b j || (wornR C w h s st e (b + j) && decide (C.1 21 (sAt w h st e (b + j)) = C.1 (31 + l) j))) i = false from c_91]; rfl)) ?_
                          refine wa_istore [(6, .int (wB (wAll (perR C w h s st e l b) (i + 1)))), (5, .int (wB (wAll (isR C w h s st e l b) (i + 1)))), (11, .int (wB (wornR C w h s st e (b + i)))), (10, .int (wB (isR C w h s st e l b i))), (8, .int (nI (i))), (7, .int (wB (wAny (fun i => wornR C w h s st e (b + i)) i))), (0, wm_r G (96)), (1, .int (nI (l))), (2, .int (nI (st))), (3, .int (nI (e))), (4, .int (nI (b)))] dX10_readFrom_139 (by decide) rfl ?_
                          have L_141 : WA G t_X10_readFrom (fun v_ N_ => v_ = some (.int (nI (levAt w h (C.1 18) (C.1 19) (C.1 20) (C.1 21) (C.1 (31 + l)) z s st e b))) ∧ N_ = M) 141 [(6, .int (wB (wAll (perR C w h s st e l b) (i + 1)))), (5, .int (wB (wAll (isR C w h s st e l b) (i + 1)))), (11, .int (wB (wornR C w h s st e (b + i)))), (8, .int (nI (i))), (7, .int (wB (wAny (fun i => wornR C w h s st e (b + i)) i))), (0, wm_r G (96)), (1, .int (nI (l))), (2, .int (nI (st))), (3, .int (nI (e))), (4, .int (nI (b)))] [] (M) := by
                            refine wa_iload dX10_readFrom_141 4 rfl ?_
                            refine wa_if_neB 151 dX10_readFrom_143 (by decide) (fun (c_143 : (wAny (fun i => wornR C w h s st e (b + i)) i) = true) => ?_) (fun (c_143 : (wAny (fun i => wornR C w h s st e (b + i)) i) = false) => ?_)
                            · refine wa_iconst (1) dX10_readFrom_151 (by decide) ?_
                              refine wa_goto 156 dX10_readFrom_152 (by decide) ?_
                              refine wa_eqi (y := (wB (wAny (fun i => wornR C w h s st e (b + i)) (i + 1)))) (by rw [wAny_s]; first | (rw [c_143]; rfl) | (rw [c_143, show wornR C w h s st e (b + i) = _ from c_148]; rfl)) ?_
                              refine wa_istore [(7, .int (wB (wAny (fun i => wornR C w h s st e (b + i)) (i + 1)))), (6, .int (wB (wAll (perR C w h s st e l b) (i + 1)))), (5, .int (wB (wAll (isR C w h s st e l b) (i + 1)))), (11, .int (wB (wornR C w h s st e (b + i)))), (8, .int (nI (i))), (0, wm_r G (96)), (1, .int (nI (l))), (2, .int (nI (st))), (3, .int (nI (e))), (4, .int (nI (b)))] dX10_readFrom_156 (by decide) rfl ?_
                              refine wa_iinc ((nI (i + 1))) [(8, .int (nI (i + 1))), (7, .int (wB (wAny (fun i => wornR C w h s st e (b + i)) (i + 1)))), (6, .int (wB (wAll (perR C w h s st e l b) (i + 1)))), (5, .int (wB (wAll (isR C w h s st e l b) (i + 1)))), (11, .int (wB (wornR C w h s st e (b + i)))), (0, wm_r G (96)), (1, .int (nI (l))), (2, .int (nI (st))), (3, .int (nI (e))), (4, .int (nI (b)))] dX10_readFrom_158 4 rfl (nI_inc _) (by decide) rfl ?_
                              refine wa_goto 12 dX10_readFrom_161 (by decide) ?_
                              refine wa_sub [0, 1, 2, 3, 5, 6, 7, 8, 9] rfl ?_
                              exact ih_12 (i + 1) (by omega) (by omega)
                            · refine wa_iload dX10_readFrom_146 2 rfl ?_
                              refine wa_if_eqB 155 dX10_readFrom_148 (by decide) (fun (c_148 : (wornR C w h s st e (b + i)) = false) => ?_) (fun (c_148 : (wornR C w h s st e (b + i)) = true) => ?_)
                              · refine wa_iconst (0) dX10_readFrom_155 (by decide) ?_
                                refine wa_eqi (y := (wB (wAny (fun i => wornR C w h s st e (b + i)) (i + 1)))) (by rw [wAny_s]; first | (rw [c_143]; rfl) | (rw [c_143, show wornR C w h s st e (b + i) = _ from c_148]; rfl)) ?_
                                refine wa_istore [(7, .int (wB (wAny (fun i => wornR C w h s st e (b + i)) (i + 1)))), (6, .int (wB (wAll (perR C w h s st e l b) (i + 1)))), (5, .int (wB (wAll (isR C w h s st e l b) (i + 1)))), (11, .int (wB (wornR C w h s st e (b + i)))), (8, .int (nI (i))), (0, wm_r G (96)), (1, .int (nI (l))), (2, .int (nI (st))), (3, .int (nI (e))), (4, .int (nI (b)))] dX10_readFrom_156 (by decide) rfl ?_
                                refine wa_iinc ((nI (i + 1))) [(8, .int (nI (i + 1))), (7, .int (wB (wAny (fun i => wornR C w h s st e (b + i)) (i + 1)))), (6, .int (wB (wAll (perR C w h s st e l b) (i + 1)))), (5, .int (wB (wAll (isR C w h s st e l b) (i + 1)))), (11, .int (wB (wornR C w h s st e (b + i)))), (0, wm_r G (96)), (1, .int (nI (l))), (2, .int (nI (st))), (3, .int (nI (e))), (4, .int (nI (b)))] dX10_readFrom_158 4 rfl (nI_inc _) (by decide) rfl ?_
                                refine wa_goto 12 dX10_readFrom_161 (by decide) ?_
                                refine wa_sub [0, 1, 2, 3, 5, 6, 7, 8, 9] rfl ?_
                                exact ih_12 (i + 1) (by omega) (by omega)
                              · refine wa_iconst (1) dX10_readFrom_151 (by decide) ?_
                                refine wa_goto 156 dX10_readFrom_152 (by decide) ?_
                                refine wa_eqi (y := (wB (wAny (fun i => wornR C w h s st e (b + i)) (i + 1)))) (by rw [wAny_s]; first | (rw [c_143]; rfl) | (rw [c_143, show wornR C w h s st e (b + i) = _ from c_148]; rfl)) ?_
                                refine wa_istore [(7, .int (wB (wAny (fun i => wornR C w h s st e (b + i)) (i + 1)))), (6, .int (wB (wAll (perR C w h s st e l b) (i + 1)))), (5, .int (wB (wAll (isR C w h s st e l b) (i + 1)))), (11, .int (wB (wornR C w h s st e (b + i)))), (8, .int (nI (i))), (0, wm_r G (96)), (1, .int (nI (l))), (2, .int (nI (st))), (3, .int (nI (e))), (4, .int (nI (b)))] dX10_readFrom_156 (by decide) rfl ?_
                                refine wa_iinc ((nI (i + 1))) [(8, .int (nI (i + 1))), (7, .int (wB (wAny (fun i => wornR C w h s st e (b + i)) (i + 1)))), (6, .int (wB (wAll (perR C w h s st e l b) (i + 1)))), (5, .int (wB (wAll (isR C w h s st e l b) (i + 1)))), (11, .int (wB (wornR C w h s st e (b + i)))), (0, wm_r G (96)), (1, .int (nI (l))), (2, .int (nI (st))), (3, .int (nI (e))), (4, .int (nI (b)))] dX10_readFrom_158 4 rfl (nI_inc _) (by decide) rfl ?_
                                refine wa_goto 12 dX10_readFrom_161 (by decide) ?_
                                refine wa_sub [0, 1, 2, 3, 5, 6, 7, 8, 9] rfl ?_
                                exact ih_12 (i + 1) (by omega) (by omega)
                          refine wa_sub [0, 1, 2, 4, 5, 6, 7, 8, 9, 10] rfl ?_
                          exact L_141  
                        · refine wa_iconst (1) dX10_readFrom_134 (by decide) ?_
                          refine wa_goto 139 dX10_readFrom_135 (by decide) ?_
                          refine wa_eqi (y := (wB (wAll (perR C w h s st e l b) (i + 1)))) (by rw [wAll_s]; unfold perR; first | (rw [c_91]; rfl) | (rw [show wAll (fun j => isR C w h s st e l b j || (wornR C w h s st e (b + j) && decide (C.1 21 (sAt w h st e (b + j)) = C.1 (31 + l) j))) i = true from c_91]; first | (rw [c_96]; rfl) | (rw [c_96, c_101]; rfl) | (rw [c_96, c_101, decide_eq_true c_131]; rfl) | (rw [c_96, c_101, decide_eq_false c_131]; rfl)) | (rw [show wAll (fun j => isR C w h s st e l b j || (wornR C w h s st e (b + j) && decide (C.1 21 (sAt w h st e (b + j)) = C.1 (31 + l) j))) i = false from c_91]; rfl)) ?_
                          refine wa_istore [(6, .int (wB (wAll (perR C w h s st e l b) (i + 1)))), (5, .int (wB (wAll (isR C w h s st e l b) (i + 1)))), (11, .int (wB (wornR C w h s st e (b + i)))), (10, .int (wB (isR C w h s st e l b i))), (8, .int (nI (i))), (7, .int (wB (wAny (fun i => wornR C w h s st e (b + i)) i))), (0, wm_r G (96)), (1, .int (nI (l))), (2, .int (nI (st))), (3, .int (nI (e))), (4, .int (nI (b)))] dX10_readFrom_139 (by decide) rfl ?_
                          have L_141 : WA G t_X10_readFrom (fun v_ N_ => v_ = some (.int (nI (levAt w h (C.1 18) (C.1 19) (C.1 20) (C.1 21) (C.1 (31 + l)) z s st e b))) ∧ N_ = M) 141 [(6, .int (wB (wAll (perR C w h s st e l b) (i + 1)))), (5, .int (wB (wAll (isR C w h s st e l b) (i + 1)))), (11, .int (wB (wornR C w h s st e (b + i)))), (8, .int (nI (i))), (7, .int (wB (wAny (fun i => wornR C w h s st e (b + i)) i))), (0, wm_r G (96)), (1, .int (nI (l))), (2, .int (nI (st))), (3, .int (nI (e))), (4, .int (nI (b)))] [] (M) := by
                            refine wa_iload dX10_readFrom_141 4 rfl ?_
                            refine wa_if_neB 151 dX10_readFrom_143 (by decide) (fun (c_143 : (wAny (fun i => wornR C w h s st e (b + i)) i) = true) => ?_) (fun (c_143 : (wAny (fun i => wornR C w h s st e (b + i)) i) = false) => ?_)
                            · refine wa_iconst (1) dX10_readFrom_151 (by decide) ?_
                              refine wa_goto 156 dX10_readFrom_152 (by decide) ?_
                              refine wa_eqi (y := (wB (wAny (fun i => wornR C w h s st e (b + i)) (i + 1)))) (by rw [wAny_s]; first | (rw [c_143]; rfl) | (rw [c_143, show wornR C w h s st e (b + i) = _ from c_148]; rfl)) ?_
                              refine wa_istore [(7, .int (wB (wAny (fun i => wornR C w h s st e (b + i)) (i + 1)))), (6, .int (wB (wAll (perR C w h s st e l b) (i + 1)))), (5, .int (wB (wAll (isR C w h s st e l b) (i + 1)))), (11, .int (wB (wornR C w h s st e (b + i)))), (8, .int (nI (i))), (0, wm_r G (96)), (1, .int (nI (l))), (2, .int (nI (st))), (3, .int (nI (e))), (4, .int (nI (b)))] dX10_readFrom_156 (by decide) rfl ?_
                              refine wa_iinc ((nI (i + 1))) [(8, .int (nI (i + 1))), (7, .int (wB (wAny (fun i => wornR C w h s st e (b + i)) (i + 1)))), (6, .int (wB (wAll (perR C w h s st e l b) (i + 1)))), (5, .int (wB (wAll (isR C w h s st e l b) (i + 1)))), (11, .int (wB (wornR C w h s st e (b + i)))), (0, wm_r G (96)), (1, .int (nI (l))), (2, .int (nI (st))), (3, .int (nI (e))), (4, .int (nI (b)))] dX10_readFrom_158 4 rfl (nI_inc _) (by decide) rfl ?_
                              refine wa_goto 12 dX10_readFrom_161 (by decide) ?_
                              refine wa_sub [0, 1, 2, 3, 5, 6, 7, 8, 9] rfl ?_
                              exact ih_12 (i + 1) (by omega) (by omega)
                            · refine wa_iload dX10_readFrom_146 2 rfl ?_
                              refine wa_if_eqB 155 dX10_readFrom_148 (by decide) (fun (c_148 : (wornR C w h s st e (b + i)) = false) => ?_) (fun (c_148 : (wornR C w h s st e (b + i)) = true) => ?_)
                              · refine wa_iconst (0) dX10_readFrom_155 (by decide) ?_
                                refine wa_eqi (y := (wB (wAny (fun i => wornR C w h s st e (b + i)) (i + 1)))) (by rw [wAny_s]; first | (rw [c_143]; rfl) | (rw [c_143, show wornR C w h s st e (b + i) = _ from c_148]; rfl)) ?_
                                refine wa_istore [(7, .int (wB (wAny (fun i => wornR C w h s st e (b + i)) (i + 1)))), (6, .int (wB (wAll (perR C w h s st e l b) (i + 1)))), (5, .int (wB (wAll (isR C w h s st e l b) (i + 1)))), (11, .int (wB (wornR C w h s st e (b + i)))), (8, .int (nI (i))), (0, wm_r G (96)), (1, .int (nI (l))), (2, .int (nI (st))), (3, .int (nI (e))), (4, .int (nI (b)))] dX10_readFrom_156 (by decide) rfl ?_
                                refine wa_iinc ((nI (i + 1))) [(8, .int (nI (i + 1))), (7, .int (wB (wAny (fun i => wornR C w h s st e (b + i)) (i + 1)))), (6, .int (wB (wAll (perR C w h s st e l b) (i + 1)))), (5, .int (wB (wAll (isR C w h s st e l b) (i + 1)))), (11, .int (wB (wornR C w h s st e (b + i)))), (0, wm_r G (96)), (1, .int (nI (l))), (2, .int (nI (st))), (3, .int (nI (e))), (4, .int (nI (b)))] dX10_readFrom_158 4 rfl (nI_inc _) (by decide) rfl ?_
                                refine wa_goto 12 dX10_readFrom_161 (by decide) ?_
                                refine wa_sub [0, 1, 2, 3, 5, 6, 7, 8, 9] rfl ?_
                                exact ih_12 (i + 1) (by omega) (by omega)
                              · refine wa_iconst (1) dX10_readFrom_151 (by decide) ?_
                                refine wa_goto 156 dX10_readFrom_152 (by decide) ?_
                                refine wa_eqi (y := (wB (wAny (fun i => wornR C w h s st e (b + i)) (i + 1)))) (by rw [wAny_s]; first | (rw [c_143]; rfl) | (rw [c_143, show wornR C w h s st e (b + i) = _ from c_148]; rfl)) ?_
                                refine wa_istore [(7, .int (wB (wAny (fun i => wornR C w h s st e (b + i)) (i + 1)))), (6, .int (wB (wAll (perR C w h s st e l b) (i + 1)))), (5, .int (wB (wAll (isR C w h s st e l b) (i + 1)))), (11, .int (wB (wornR C w h s st e (b + i)))), (8, .int (nI (i))), (0, wm_r G (96)), (1, .int (nI (l))), (2, .int (nI (st))), (3, .int (nI (e))), (4, .int (nI (b)))] dX10_readFrom_156 (by decide) rfl ?_
                                refine wa_iinc ((nI (i + 1))) [(8, .int (nI (i + 1))), (7, .int (wB (wAny (fun i => wornR C w h s st e (b + i)) (i + 1)))), (6, .int (wB (wAll (perR C w h s st e l b) (i + 1)))), (5, .int (wB (wAll (isR C w h s st e l b) (i + 1)))), (11, .int (wB (wornR C w h s st e (b + i)))), (0, wm_r G (96)), (1, .int (nI (l))), (2, .int (nI (st))), (3, .int (nI (e))), (4, .int (nI (b)))] dX10_readFrom_158 4 rfl (nI_inc _) (by decide) rfl ?_
                                refine wa_goto 12 dX10_readFrom_161 (by decide) ?_
                                refine wa_sub [0, 1, 2, 3, 5, 6, 7, 8, 9] rfl ?_
                                exact ih_12 (i + 1) (by omega) (by omega)
                          refine wa_sub [0, 1, 2, 4, 5, 6, 7, 8, 9, 10] rfl ?_
                          exact L_141  
                exact L_89  
          refine wa_sub [0, 2, 3, 4, 5, 6, 7, 8, 9, 10] rfl ?_
          exact L_59  
  exact L_12 _ 0 (Nat.lt_succ_self _) (Nat.zero_le _)

theorem x_readIn {G : wm_G} {M : wm_M} (C : wm_M) (w h s : Nat) (hQ : XQ C M w h s) (l z : Nat) (hL : LZ C l z) (st e : Nat) (hst : st < w + h) (he : e < 2) : MD G t_X10_readIn [wm_r G (96), .int (nI (l)), .int (nI (st)), .int (nI (e))] (M) (some (.int (nI (levIn w h (C.1 18) (C.1 19) (C.1 20) (C.1 21) (C.1 (31 + l)) z s st e)))) (M) := by
  obtain ⟨hW, hX, hXL, hCL, hCS, hLd⟩ := id hQ
  obtain ⟨x10, x11, x12, x103, x104, x105, x106⟩ := id hX
  have hn6 := TW_n hW
  have hw3 := hW.2.2.1
  have hh2 := hW.2.2.2
  have hz3 := hL.2.2.2
  have hl4 := hL.1
  have hlz : M.1 109 l = nI z := (hXL.1 l hl4).trans hL.2.1
  have hlw : ∀ i, i < z → M.1 110 (3 * l + i) = C.1 (31 + l) i := fun i hi => hXL.2 l hl4 z hz3 hL.2.1 i hi
  have hwd : ∀ i, i < z → ∃ x, x < 8 ∧ C.1 (31 + l) i = nI x := by
    rcases hCL l hl4 with q | ⟨z2, q, q2⟩
    · exact absurd (hL.2.1.symm.trans q) (nI_nem1 (by omega))
    · have e : z2 = z := (nI_eq (by have := q.2.2.2; omega) (by omega)).mp (q.2.1.symm.trans hL.2.1)
      subst e; exact q2
  have hlen : sLen w h st ≤ 3 := by unfold sLen; split <;> omega
  refine wm_met (by decide) (Nat.le_of_ble_eq_true rfl) ?_
  show WA G t_X10_readIn (fun v_ N_ => v_ = some (.int (nI (levIn w h (C.1 18) (C.1 19) (C.1 20) (C.1 21) (C.1 (31 + l)) z s st e))) ∧ N_ = M) 0 [(0, wm_r G (96)), (1, .int (nI (l))), (2, .int (nI (st))), (3, .int (nI (e)))] [] (M)
  refine wa_iconst (0) dX10_readIn_0 (by decide) ?_
  refine wa_eqi (y := (nI (maxF (levAt w h (C.1 18) (C.1 19) (C.1 20) (C.1 21) (C.1 (31 + l)) z s st e) 0))) (rfl) ?_
  refine wa_istore [(4, .int (nI (maxF (levAt w h (C.1 18) (C.1 19) (C.1 20) (C.1 21) (C.1 (31 + l)) z s st e) 0))), (0, wm_r G (96)), (1, .int (nI (l))), (2, .int (nI (st))), (3, .int (nI (e)))] dX10_readIn_1 (by decide) rfl ?_
  refine wa_iconst (0) dX10_readIn_3 (by decide) ?_
  refine wa_istore [(5, .int (0)), (4, .int (nI (maxF (levAt w h (C.1 18) (C.1 19) (C.1 20) (C.1 21) (C.1 (31 + l)) z s st e) 0))), (0, wm_r G (96)), (1, .int (nI (l))), (2, .int (nI (st))), (3, .int (nI (e)))] dX10_readIn_4 (by decide) rfl ?_
  have L_6 : ∀ (n_ : Nat) (b : Nat), (sLen w h st + 1 - z - b) < n_ → (b ≤ sLen w h st + 1 - z) → WA G t_X10_readIn (fun v_ N_ => v_ = some (.int (nI (levIn w h (C.1 18) (C.1 19) (C.1 20) (C.1 21) (C.1 (31 + l)) z s st e))) ∧ N_ = M) 6 [(5, .int (nI (b))), (4, .int (nI (maxF (levAt w h (C.1 18) (C.1 19) (C.1 20) (C.1 21) (C.1 (31 + l)) z s st e) b))), (0, wm_r G (96)), (1, .int (nI (l))), (2, .int (nI (st))), (3, .int (nI (e)))] [] (M) := by
    intro n_
    induction n_ with
    | zero => intro b h_; exact absurd h_ (Nat.not_lt_zero _)
    | succ n_ ih_6 =>
      intro b h_ hb
      refine wa_iload dX10_readIn_6 0 rfl ?_
      refine wa_aload_n dX10_readIn_8 rfl 2 rfl ?_
      refine wa_getr gX10_readIn_9 (rfl) rfl ?_
      refine wa_iload_n dX10_readIn_12 rfl 3 rfl ?_
      refine wa_ialdN (e := l) dX10_readIn_13 (rfl) (by omega) (by decide) ?_
      refine wa_eqi (y := (nI (z))) (hlz) ?_
      refine wa_iaddN (a := b) (b := z) dX10_readIn_14 ?_
      refine wa_aload_n dX10_readIn_15 rfl 2 rfl ?_
      refine wa_iload_n dX10_readIn_16 rfl 4 rfl ?_
      refine wa_cVi (x_longOf C w h hX hW st (by omega)) vX10_longOf iX10_readIn_17 (rfl) rfl rfl rfl (Nat.le_of_ble_eq_true rfl) ⟨by decide, by decide⟩ ?_
      refine wa_icmp_gtN (a := b + z) (b := sLen w h st) 56 dX10_readIn_20 (by decide) (by omega) (by omega) (fun c_20 => ?_) (fun c_20 => ?_)
      · refine wa_iload dX10_readIn_56 1 rfl ?_
        exact wa_iret dX10_readIn_58 rfl ⟨congrArg (fun z => some (Value.int z)) (by unfold levIn; rw [show b = sLen w h st + 1 - z by omega]), rfl⟩
      · refine wa_aload_n dX10_readIn_23 rfl 2 rfl ?_
        refine wa_iload_n dX10_readIn_24 rfl 3 rfl ?_
        refine wa_iload_n dX10_readIn_25 rfl 4 rfl ?_
        refine wa_iload_n dX10_readIn_26 rfl 5 rfl ?_
        refine wa_iload dX10_readIn_27 0 rfl ?_
        refine wa_cVi (x_readFrom C w h s hQ l z hL st e b hst he (by omega)) vX10_readFrom iX10_readIn_29 (rfl) rfl rfl rfl (Nat.le_of_ble_eq_true rfl) ⟨by decide, by decide⟩ ?_
        have hl1 : levAt w h (C.1 18) (C.1 19) (C.1 20) (C.1 21) (C.1 (31 + l)) z s st e b ≤ 3 := levAt_le
        have hl2 : maxF (levAt w h (C.1 18) (C.1 19) (C.1 20) (C.1 21) (C.1 (31 + l)) z s st e) b ≤ 3 := maxF_le (fun _ _ => levAt_le)
        refine wa_istore [(6, .int (nI (levAt w h (C.1 18) (C.1 19) (C.1 20) (C.1 21) (C.1 (31 + l)) z s st e b))), (5, .int (nI (b))), (4, .int (nI (maxF (levAt w h (C.1 18) (C.1 19) (C.1 20) (C.1 21) (C.1 (31 + l)) z s st e) b))), (0, wm_r G (96)), (1, .int (nI (l))), (2, .int (nI (st))), (3, .int (nI (e)))] dX10_readIn_32 (by decide) rfl ?_
        refine wa_iload dX10_readIn_34 0 rfl ?_
        refine wa_iload dX10_readIn_36 2 rfl ?_
        refine wa_icmp_leN (a := levAt w h (C.1 18) (C.1 19) (C.1 20) (C.1 21) (C.1 (31 + l)) z s st e b) (b := maxF (levAt w h (C.1 18) (C.1 19) (C.1 20) (C.1 21) (C.1 (31 + l)) z s st e) b) 46 dX10_readIn_38 (by decide) (by omega) (by omega) (fun c_38 => ?_) (fun c_38 => ?_)
        · refine wa_iload dX10_readIn_46 2 rfl ?_
          refine wa_eqi (y := (nI (maxF (levAt w h (C.1 18) (C.1 19) (C.1 20) (C.1 21) (C.1 (31 + l)) z s st e) (b + 1)))) (by simp only [maxF]; first | (rw [Nat.max_eq_left (by omega)]; done) | (rw [Nat.max_eq_right (by omega)]; done)) ?_
          refine wa_istore [(4, .int (nI (maxF (levAt w h (C.1 18) (C.1 19) (C.1 20) (C.1 21) (C.1 (31 + l)) z s st e) (b + 1)))), (6, .int (nI (levAt w h (C.1 18) (C.1 19) (C.1 20) (C.1 21) (C.1 (31 + l)) z s st e b))), (5, .int (nI (b))), (0, wm_r G (96)), (1, .int (nI (l))), (2, .int (nI (st))), (3, .int (nI (e)))] dX10_readIn_48 (by decide) rfl ?_
          refine wa_iinc ((nI (b + 1))) [(5, .int (nI (b + 1))), (4, .int (nI (maxF (levAt w h (C.1 18) (C.1 19) (C.1 20) (C.1 21) (C.1 (31 + l)) z s st e) (b + 1)))), (6, .int (nI (levAt w h (C.1 18) (C.1 19) (C.1 20) (C.1 21) (C.1 (31 + l)) z s st e b))), (0, wm_r G (96)), (1, .int (nI (l))), (2, .int (nI (st))), (3, .int (nI (e)))] dX10_readIn_50 2 rfl (nI_inc _) (by decide) rfl ?_
          refine wa_goto 6 dX10_readIn_53 (by decide) ?_
          refine wa_sub [0, 1, 3, 4, 5, 6] rfl ?_
          exact ih_6 (b + 1) (by omega) (by omega)
        · refine wa_iload dX10_readIn_41 0 rfl ?_
          refine wa_goto 48 dX10_readIn_43 (by decide) ?_
          refine wa_eqi (y := (nI (maxF (levAt w h (C.1 18) (C.1 19) (C.1 20) (C.1 21) (C.1 (31 + l)) z s st e) (b + 1)))) (by simp only [maxF]; first | (rw [Nat.max_eq_left (by omega)]; done) | (rw [Nat.max_eq_right (by omega)]; done)) ?_
          refine wa_istore [(4, .int (nI (maxF (levAt w h (C.1 18) (C.1 19) (C.1 20) (C.1 21) (C.1 (31 + l)) z s st e) (b + 1)))), (6, .int (nI (levAt w h (C.1 18) (C.1 19) (C.1 20) (C.1 21) (C.1 (31 + l)) z s st e b))), (5, .int (nI (b))), (0, wm_r G (96)), (1, .int (nI (l))), (2, .int (nI (st))), (3, .int (nI (e)))] dX10_readIn_48 (by decide) rfl ?_
          refine wa_iinc ((nI (b + 1))) [(5, .int (nI (b + 1))), (4, .int (nI (maxF (levAt w h (C.1 18) (C.1 19) (C.1 20) (C.1 21) (C.1 (31 + l)) z s st e) (b + 1)))), (6, .int (nI (levAt w h (C.1 18) (C.1 19) (C.1 20) (C.1 21) (C.1 (31 + l)) z s st e b))), (0, wm_r G (96)), (1, .int (nI (l))), (2, .int (nI (st))), (3, .int (nI (e)))] dX10_readIn_50 2 rfl (nI_inc _) (by decide) rfl ?_
          refine wa_goto 6 dX10_readIn_53 (by decide) ?_
          refine wa_sub [0, 1, 3, 4, 5, 6] rfl ?_
          exact ih_6 (b + 1) (by omega) (by omega)
  exact L_6 _ 0 (Nat.lt_succ_self _) (Nat.zero_le _)

theorem x_readBest1 {G : wm_G} {M : wm_M} (C : wm_M) (w h s : Nat) (hQ : XQ C M w h s) (l z : Nat) (hL : LZ C l z) : MD G t_X10_readBest [wm_r G (96), .int (nI (l))] (M) (some (.int (nI (levB w h (C.1 18) (C.1 19) (C.1 20) (C.1 21) (C.1 (31 + l)) z s)))) (M) := by
  obtain ⟨hW, hX, hXL, hCL, hCS, hLd⟩ := id hQ
  obtain ⟨x10, x11, x12, x103, x104, x105, x106⟩ := id hX
  have hn6 := TW_n hW
  have hw3 := hW.2.2.1
  have hh2 := hW.2.2.2
  have hz3 := hL.2.2.2
  have hl4 := hL.1
  have hlz : M.1 109 l = nI z := (hXL.1 l hl4).trans hL.2.1
  have hlw : ∀ i, i < z → M.1 110 (3 * l + i) = C.1 (31 + l) i := fun i hi => hXL.2 l hl4 z hz3 hL.2.1 i hi
  have hwd : ∀ i, i < z → ∃ x, x < 8 ∧ C.1 (31 + l) i = nI x := by
    rcases hCL l hl4 with q | ⟨z2, q, q2⟩
    · exact absurd (hL.2.1.symm.trans q) (nI_nem1 (by omega))
    · have e : z2 = z := (nI_eq (by have := q.2.2.2; omega) (by omega)).mp (q.2.1.symm.trans hL.2.1)
      subst e; exact q2
  refine wm_met (by decide) (Nat.le_of_ble_eq_true rfl) ?_
  show WA G t_X10_readBest (fun v_ N_ => v_ = some (.int (nI (levB w h (C.1 18) (C.1 19) (C.1 20) (C.1 21) (C.1 (31 + l)) z s))) ∧ N_ = M) 0 [(0, wm_r G (96)), (1, .int (nI (l)))] [] (M)
  refine wa_iconst (0) dX10_readBest_0 (by decide) ?_
  refine wa_eqi (y := (nI (maxF (fun st => maxF (fun e => levIn w h (C.1 18) (C.1 19) (C.1 20) (C.1 21) (C.1 (31 + l)) z s st e) 2) 0))) (rfl) ?_
  refine wa_istore_n [(2, .int (nI (maxF (fun st => maxF (fun e => levIn w h (C.1 18) (C.1 19) (C.1 20) (C.1 21) (C.1 (31 + l)) z s st e) 2) 0))), (0, wm_r G (96)), (1, .int (nI (l)))] dX10_readBest_1 rfl (by decide) rfl ?_
  refine wa_iconst (0) dX10_readBest_2 (by decide) ?_
  refine wa_istore_n [(3, .int (0)), (2, .int (nI (maxF (fun st => maxF (fun e => levIn w h (C.1 18) (C.1 19) (C.1 20) (C.1 21) (C.1 (31 + l)) z s st e) 2) 0))), (0, wm_r G (96)), (1, .int (nI (l)))] dX10_readBest_3 rfl (by decide) rfl ?_
  have L_4 : ∀ (n_ : Nat) (st : Nat), (w + h - st) < n_ → (st ≤ w + h) → WA G t_X10_readBest (fun v_ N_ => v_ = some (.int (nI (levB w h (C.1 18) (C.1 19) (C.1 20) (C.1 21) (C.1 (31 + l)) z s))) ∧ N_ = M) 4 [(3, .int (nI (st))), (2, .int (nI (maxF (fun st => maxF (fun e => levIn w h (C.1 18) (C.1 19) (C.1 20) (C.1 21) (C.1 (31 + l)) z s st e) 2) st))), (0, wm_r G (96)), (1, .int (nI (l)))] [] (M) := by
    intro n_
    induction n_ with
    | zero => intro st h_; exact absurd h_ (Nat.not_lt_zero _)
    | succ n_ ih_4 =>
      intro st h_ hst
      refine wa_iload_n dX10_readBest_4 rfl 0 rfl ?_
      refine wa_aload_n dX10_readBest_5 rfl 2 rfl ?_
      refine wa_cVi (x_streetMany C w h hX hW) vX10_streetMany iX10_readBest_6 (rfl) rfl rfl rfl (Nat.le_of_ble_eq_true rfl) ⟨by decide, by decide⟩ ?_
      refine wa_icmp_geN (a := st) (b := w + h) 65 dX10_readBest_9 (by decide) (by omega) (by omega) (fun c_9 => ?_) (fun c_9 => ?_)
      · refine wa_iload_n dX10_readBest_65 rfl 1 rfl ?_
        exact wa_iret dX10_readBest_66 rfl ⟨congrArg (fun z => some (Value.int z)) (by unfold levB; rw [show st = w + h by omega]), rfl⟩
      · refine wa_aload_n dX10_readBest_12 rfl 2 rfl ?_
        refine wa_getr gX10_readBest_13 (rfl) rfl ?_
        refine wa_iload_n dX10_readBest_16 rfl 3 rfl ?_
        refine wa_ialdN (e := l) dX10_readBest_17 (rfl) (by omega) (by decide) ?_
        refine wa_eqi (y := (nI (z))) (hlz) ?_
        refine wa_if_leN (a := z) 65 dX10_readBest_18 (by decide) (by omega) (fun c_18 => absurd c_18 (by have := hL.2.2.1; omega)) (fun c_18 => ?_)
        refine wa_iconst (0) dX10_readBest_21 (by decide) ?_
        refine wa_istore [(4, .int (0)), (3, .int (nI (st))), (2, .int (nI (maxF (fun st => maxF (fun e => levIn w h (C.1 18) (C.1 19) (C.1 20) (C.1 21) (C.1 (31 + l)) z s st e) 2) st))), (0, wm_r G (96)), (1, .int (nI (l)))] dX10_readBest_22 (by decide) rfl ?_
        have L_24 : ∀ (n_ : Nat) (e : Nat), (2 - e) < n_ → (e ≤ 2) → WA G t_X10_readBest (fun v_ N_ => v_ = some (.int (nI (levB w h (C.1 18) (C.1 19) (C.1 20) (C.1 21) (C.1 (31 + l)) z s))) ∧ N_ = M) 24 [(4, .int (nI (e))), (3, .int (nI (st))), (2, .int (nI (max (maxF (fun st => maxF (fun e => levIn w h (C.1 18) (C.1 19) (C.1 20) (C.1 21) (C.1 (31 + l)) z s st e) 2) st) (maxF (fun e => levIn w h (C.1 18) (C.1 19) (C.1 20) (C.1 21) (C.1 (31 + l)) z s st e) e)))), (0, wm_r G (96)), (1, .int (nI (l)))] [] (M) := by
          intro n_
          induction n_ with
          | zero => intro e h_; exact absurd h_ (Nat.not_lt_zero _)
          | succ n_ ih_24 =>
            intro e h_ he
            refine wa_iload dX10_readBest_24 0 rfl ?_
            refine wa_iconst (2) dX10_readBest_26 (by decide) ?_
            refine wa_icmp_geN (a := e) (b := 2) 59 dX10_readBest_27 (by decide) (by omega) (by omega) (fun c_27 => ?_) (fun c_27 => ?_)
            · refine wa_iinc ((nI (st + 1))) [(3, .int (nI (st + 1))), (4, .int (nI (e))), (2, .int (nI (max (maxF (fun st => maxF (fun e => levIn w h (C.1 18) (C.1 19) (C.1 20) (C.1 21) (C.1 (31 + l)) z s st e) 2) st) (maxF (fun e => levIn w h (C.1 18) (C.1 19) (C.1 20) (C.1 21) (C.1 (31 + l)) z s st e) e)))), (0, wm_r G (96)), (1, .int (nI (l)))] dX10_readBest_59 1 rfl (nI_inc _) (by decide) rfl ?_
              refine wa_goto 4 dX10_readBest_62 (by decide) ?_
              refine wa_sub [0, 2, 3, 4] rfl ?_
              rw [show max (maxF (fun st => maxF (fun e => levIn w h (C.1 18) (C.1 19) (C.1 20) (C.1 21) (C.1 (31 + l)) z s st e) 2) st) (maxF (fun e => levIn w h (C.1 18) (C.1 19) (C.1 20) (C.1 21) (C.1 (31 + l)) z s st e) e) = maxF (fun st => maxF (fun e => levIn w h (C.1 18) (C.1 19) (C.1 20) (C.1 21) (C.1 (31 + l)) z s st e) 2) (st + 1) by rw [show e = 2 by omega]; rfl]
              exact ih_4 (st + 1) (by omega) (by omega)
            · refine wa_aload_n dX10_readBest_30 rfl 3 rfl ?_
              refine wa_iload_n dX10_readBest_31 rfl 4 rfl ?_
              refine wa_iload_n dX10_readBest_32 rfl 1 rfl ?_
              refine wa_iload dX10_readBest_33 0 rfl ?_
              refine wa_cVi (x_readIn C w h s hQ l z hL st e (by omega) (by omega)) vX10_readIn iX10_readBest_35 (rfl) rfl rfl rfl (Nat.le_of_ble_eq_true rfl) ⟨by decide, by decide⟩ ?_
              have hl1 : levIn w h (C.1 18) (C.1 19) (C.1 20) (C.1 21) (C.1 (31 + l)) z s st e ≤ 3 := levIn_le
              have hl2 : maxF (fun st => maxF (fun e => levIn w h (C.1 18) (C.1 19) (C.1 20) (C.1 21) (C.1 (31 + l)) z s st e) 2) st ≤ 3 := maxF_le (fun _ _ => maxF_le (fun _ _ => levIn_le))
              have hl3 : maxF (fun e => levIn w h (C.1 18) (C.1 19) (C.1 20) (C.1 21) (C.1 (31 + l)) z s st e) e ≤ 3 := maxF_le (fun _ _ => levIn_le)
              refine wa_istore [(5, .int (nI (levIn w h (C.1 18) (C.1 19) (C.1 20) (C.1 21) (C.1 (31 + l)) z s st e))), (4, .int (nI (e))), (3, .int (nI (st))), (2, .int (nI (max (maxF (fun st => maxF (fun e => levIn w h (C.1 18) (C.1 19) (C.1 20) (C.1 21) (C.1 (31 + l)) z s st e) 2) st) (maxF (fun e => levIn w h (C.1 18) (C.1 19) (C.1 20) (C.1 21) (C.1 (31 + l)) z s st e) e)))), (0, wm_r G (96)), (1, .int (nI (l)))] dX10_readBest_38 (by decide) rfl ?_
              refine wa_iload dX10_readBest_40 0 rfl ?_
              refine wa_iload_n dX10_readBest_42 rfl 3 rfl ?_
              refine wa_icmp_leN (a := levIn w h (C.1 18) (C.1 19) (C.1 20) (C.1 21) (C.1 (31 + l)) z s st e) (b := max (maxF (fun st => maxF (fun e => levIn w h (C.1 18) (C.1 19) (C.1 20) (C.1 21) (C.1 (31 + l)) z s st e) 2) st) (maxF (fun e => levIn w h (C.1 18) (C.1 19) (C.1 20) (C.1 21) (C.1 (31 + l)) z s st e) e)) 51 dX10_readBest_43 (by decide) (by omega) (by omega) (fun c_43 => ?_) (fun c_43 => ?_)
              · refine wa_iload_n dX10_readBest_51 rfl 3 rfl ?_
                refine wa_eqi (y := (nI (max (maxF (fun st => maxF (fun e => levIn w h (C.1 18) (C.1 19) (C.1 20) (C.1 21) (C.1 (31 + l)) z s st e) 2) st) (maxF (fun e => levIn w h (C.1 18) (C.1 19) (C.1 20) (C.1 21) (C.1 (31 + l)) z s st e) (e + 1))))) (by refine congrArg nI ?_; rw [show maxF (fun e => levIn w h (C.1 18) (C.1 19) (C.1 20) (C.1 21) (C.1 (31 + l)) z s st e) (e + 1) = max (maxF (fun e => levIn w h (C.1 18) (C.1 19) (C.1 20) (C.1 21) (C.1 (31 + l)) z s st e) e) (levIn w h (C.1 18) (C.1 19) (C.1 20) (C.1 21) (C.1 (31 + l)) z s st e) from rfl]; omega) ?_
                refine wa_istore_n [(2, .int (nI (max (maxF (fun st => maxF (fun e => levIn w h (C.1 18) (C.1 19) (C.1 20) (C.1 21) (C.1 (31 + l)) z s st e) 2) st) (maxF (fun e => levIn w h (C.1 18) (C.1 19) (C.1 20) (C.1 21) (C.1 (31 + l)) z s st e) (e + 1))))), (5, .int (nI (levIn w h (C.1 18) (C.1 19) (C.1 20) (C.1 21) (C.1 (31 + l)) z s st e))), (4, .int (nI (e))), (3, .int (nI (st))), (0, wm_r G (96)), (1, .int (nI (l)))] dX10_readBest_52 rfl (by decide) rfl ?_
                refine wa_iinc ((nI (e + 1))) [(4, .int (nI (e + 1))), (2, .int (nI (max (maxF (fun st => maxF (fun e => levIn w h (C.1 18) (C.1 19) (C.1 20) (C.1 21) (C.1 (31 + l)) z s st e) 2) st) (maxF (fun e => levIn w h (C.1 18) (C.1 19) (C.1 20) (C.1 21) (C.1 (31 + l)) z s st e) (e + 1))))), (5, .int (nI (levIn w h (C.1 18) (C.1 19) (C.1 20) (C.1 21) (C.1 (31 + l)) z s st e))), (3, .int (nI (st))), (0, wm_r G (96)), (1, .int (nI (l)))] dX10_readBest_53 2 rfl (nI_inc _) (by decide) rfl ?_
                refine wa_goto 24 dX10_readBest_56 (by decide) ?_
                refine wa_sub [0, 3, 1, 4, 5] rfl ?_
                exact ih_24 (e + 1) (by omega) (by omega)
              · refine wa_iload dX10_readBest_46 0 rfl ?_
                refine wa_goto 52 dX10_readBest_48 (by decide) ?_
                refine wa_eqi (y := (nI (max (maxF (fun st => maxF (fun e => levIn w h (C.1 18) (C.1 19) (C.1 20) (C.1 21) (C.1 (31 + l)) z s st e) 2) st) (maxF (fun e => levIn w h (C.1 18) (C.1 19) (C.1 20) (C.1 21) (C.1 (31 + l)) z s st e) (e + 1))))) (by refine congrArg nI ?_; rw [show maxF (fun e => levIn w h (C.1 18) (C.1 19) (C.1 20) (C.1 21) (C.1 (31 + l)) z s st e) (e + 1) = max (maxF (fun e => levIn w h (C.1 18) (C.1 19) (C.1 20) (C.1 21) (C.1 (31 + l)) z s st e) e) (levIn w h (C.1 18) (C.1 19) (C.1 20) (C.1 21) (C.1 (31 + l)) z s st e) from rfl]; omega) ?_
                refine wa_istore_n [(2, .int (nI (max (maxF (fun st => maxF (fun e => levIn w h (C.1 18) (C.1 19) (C.1 20) (C.1 21) (C.1 (31 + l)) z s st e) 2) st) (maxF (fun e => levIn w h (C.1 18) (C.1 19) (C.1 20) (C.1 21) (C.1 (31 + l)) z s st e) (e + 1))))), (5, .int (nI (levIn w h (C.1 18) (C.1 19) (C.1 20) (C.1 21) (C.1 (31 + l)) z s st e))), (4, .int (nI (e))), (3, .int (nI (st))), (0, wm_r G (96)), (1, .int (nI (l)))] dX10_readBest_52 rfl (by decide) rfl ?_
                refine wa_iinc ((nI (e + 1))) [(4, .int (nI (e + 1))), (2, .int (nI (max (maxF (fun st => maxF (fun e => levIn w h (C.1 18) (C.1 19) (C.1 20) (C.1 21) (C.1 (31 + l)) z s st e) 2) st) (maxF (fun e => levIn w h (C.1 18) (C.1 19) (C.1 20) (C.1 21) (C.1 (31 + l)) z s st e) (e + 1))))), (5, .int (nI (levIn w h (C.1 18) (C.1 19) (C.1 20) (C.1 21) (C.1 (31 + l)) z s st e))), (3, .int (nI (st))), (0, wm_r G (96)), (1, .int (nI (l)))] dX10_readBest_53 2 rfl (nI_inc _) (by decide) rfl ?_
                refine wa_goto 24 dX10_readBest_56 (by decide) ?_
                refine wa_sub [0, 3, 1, 4, 5] rfl ?_
                exact ih_24 (e + 1) (by omega) (by omega)
        rw [show maxF (fun st => maxF (fun e => levIn w h (C.1 18) (C.1 19) (C.1 20) (C.1 21) (C.1 (31 + l)) z s st e) 2) st = max (maxF (fun st => maxF (fun e => levIn w h (C.1 18) (C.1 19) (C.1 20) (C.1 21) (C.1 (31 + l)) z s st e) 2) st) (maxF (fun e => levIn w h (C.1 18) (C.1 19) (C.1 20) (C.1 21) (C.1 (31 + l)) z s st e) 0) by rw [show maxF (fun e => levIn w h (C.1 18) (C.1 19) (C.1 20) (C.1 21) (C.1 (31 + l)) z s st e) 0 = 0 from rfl, Nat.max_zero]]
        exact L_24 _ 0 (Nat.lt_succ_self _) (Nat.zero_le _)
  exact L_4 _ 0 (Nat.lt_succ_self _) (Nat.zero_le _)

theorem x_readBest0 {G : wm_G} {M : wm_M} (C : wm_M) (w h s : Nat) (hQ : XQ C M w h s) (l : Nat) (hl : l < 4) (hz : C.1 35 l = -1) : MD G t_X10_readBest [wm_r G (96), .int (nI (l))] (M) (some (.int (0))) (M) := by
  obtain ⟨hW, hX, hXL, hCL, hCS, hLd⟩ := id hQ
  obtain ⟨x10, x11, x12, x103, x104, x105, x106⟩ := id hX
  have hn6 := TW_n hW
  have hw3 := hW.2.2.1
  have hh2 := hW.2.2.2
  refine wm_met (by decide) (Nat.le_of_ble_eq_true rfl) ?_
  show WA G t_X10_readBest (fun v_ N_ => v_ = some (.int (0)) ∧ N_ = M) 0 [(0, wm_r G (96)), (1, .int (nI (l)))] [] (M)
  refine wa_iconst (0) dX10_readBest_0 (by decide) ?_
  refine wa_istore_n [(2, .int (0)), (0, wm_r G (96)), (1, .int (nI (l)))] dX10_readBest_1 rfl (by decide) rfl ?_
  refine wa_iconst (0) dX10_readBest_2 (by decide) ?_
  refine wa_istore_n [(3, .int (0)), (2, .int (0)), (0, wm_r G (96)), (1, .int (nI (l)))] dX10_readBest_3 rfl (by decide) rfl ?_
  refine wa_iload_n dX10_readBest_4 rfl 0 rfl ?_
  refine wa_aload_n dX10_readBest_5 rfl 2 rfl ?_
  refine wa_cVi (x_streetMany C w h hX hW) vX10_streetMany iX10_readBest_6 (rfl) rfl rfl rfl (Nat.le_of_ble_eq_true rfl) ⟨by decide, by decide⟩ ?_
  refine wa_icmp_geN (a := 0) (b := w + h) 65 dX10_readBest_9 (by decide) (by omega) (by omega) (fun c_9 => ?_) (fun c_9 => ?_)
  · refine wa_iload_n dX10_readBest_65 rfl 1 rfl ?_
    exact wa_iret dX10_readBest_66 rfl ⟨congrArg (fun z => some (Value.int z)) (rfl), rfl⟩
  · refine wa_aload_n dX10_readBest_12 rfl 2 rfl ?_
    refine wa_getr gX10_readBest_13 (rfl) rfl ?_
    refine wa_iload_n dX10_readBest_16 rfl 3 rfl ?_
    refine wa_ialdN (e := l) dX10_readBest_17 (rfl) (by omega) (by decide) ?_
    refine wa_eqi (y := (-1)) ((hXL.1 l hl).trans hz) ?_
    refine wa_if_le 65 dX10_readBest_18 (by decide) (fun c_18 => ?_) (fun c_18 => absurd c_18 (by decide))
    refine wa_iload_n dX10_readBest_65 rfl 1 rfl ?_
    exact wa_iret dX10_readBest_66 rfl ⟨congrArg (fun z => some (Value.int z)) (rfl), rfl⟩

theorem x_readBest {G : wm_G} {M : wm_M} (C : wm_M) (w h s : Nat) (hQ : XQ C M w h s) (l : Nat) (hl : l < 4) : MD G t_X10_readBest [wm_r G 96, .int (nI l)] M (some (.int (nI (lvQ C w h s l)))) M := by
  unfold lvQ
  rcases hQ.2.2.2.1 l hl with q | ⟨z, q, -⟩
  · rw [if_pos q]; exact x_readBest0 C w h s hQ l hl q
  · have h1 : ¬ C.1 35 l = -1 := by rw [q.2.1]; exact nI_nem1 (by have := q.2.2.2; omega)
    rw [if_neg h1]; unfold lvl
    rw [q.2.1, nI_clamp (by have := q.2.2.2; omega)]
    exact x_readBest1 C w h s hQ l z q

theorem x_standing {G : wm_G} {M : wm_M} (C : wm_M) (w h s : Nat) (hQ : XQ C M w h s) : MD G t_X10_standing [wm_r G (96)] (M) (some (.int (nI (wBits (fun l => decide (2 ≤ lvQ C w h s l)) 4)))) (M) := by
  obtain ⟨hW, hX, hXL, hCL, hCS, hLd⟩ := id hQ
  obtain ⟨x10, x11, x12, x103, x104, x105, x106⟩ := id hX
  have hn6 := TW_n hW
  have hw3 := hW.2.2.1
  have hh2 := hW.2.2.2
  refine wm_met (by decide) (Nat.le_of_ble_eq_true rfl) ?_
  show WA G t_X10_standing (fun v_ N_ => v_ = some (.int (nI (wBits (fun l => decide (2 ≤ lvQ C w h s l)) 4))) ∧ N_ = M) 0 [(0, wm_r G (96))] [] (M)
  refine wa_iconst (0) dX10_standing_0 (by decide) ?_
  refine wa_eqi (y := (nI (wBits (fun l => decide (2 ≤ lvQ C w h s l)) 0))) (rfl) ?_
  refine wa_istore_n [(1, .int (nI (wBits (fun l => decide (2 ≤ lvQ C w h s l)) 0))), (0, wm_r G (96))] dX10_standing_1 rfl (by decide) rfl ?_
  refine wa_iconst (0) dX10_standing_2 (by decide) ?_
  refine wa_istore_n [(2, .int (0)), (1, .int (nI (wBits (fun l => decide (2 ≤ lvQ C w h s l)) 0))), (0, wm_r G (96))] dX10_standing_3 rfl (by decide) rfl ?_
  have L_4 : ∀ (n_ : Nat) (l : Nat), (4 - l) < n_ → (l ≤ 4) → WA G t_X10_standing (fun v_ N_ => v_ = some (.int (nI (wBits (fun l => decide (2 ≤ lvQ C w h s l)) 4))) ∧ N_ = M) 4 [(2, .int (nI (l))), (1, .int (nI (wBits (fun l => decide (2 ≤ lvQ C w h s l)) l))), (0, wm_r G (96))] [] (M) := by
    intro n_
    induction n_ with
    | zero => intro l h_; exact absurd h_ (Nat.not_lt_zero _)
    | succ n_ ih_4 =>
      intro l h_ hl
      refine wa_iload_n dX10_standing_4 rfl 0 rfl ?_
      refine wa_iconst (4) dX10_standing_5 (by decide) ?_
      refine wa_icmp_geN (a := l) (b := 4) 34 dX10_standing_6 (by decide) (by omega) (by omega) (fun c_6 => ?_) (fun c_6 => ?_)
      · refine wa_iload_n dX10_standing_34 rfl 1 rfl ?_
        exact wa_iret dX10_standing_35 rfl ⟨congrArg (fun z => some (Value.int z)) (by rw [show l = 4 by omega]), rfl⟩
      · refine wa_iload_n dX10_standing_9 rfl 1 rfl ?_
        refine wa_aload_n dX10_standing_10 rfl 2 rfl ?_
        refine wa_iload_n dX10_standing_11 rfl 0 rfl ?_
        refine wa_cVi (x_readBest C w h s hQ l (by omega)) vX10_readBest iX10_standing_12 (rfl) rfl rfl rfl (Nat.le_of_ble_eq_true rfl) ⟨by decide, by decide⟩ ?_
        have hlq := lvQ_le (C := C) (w := w) (h := h) (s := s) (l := l)
        refine wa_iconst (1) dX10_standing_15 (by decide) ?_
        refine wa_icmp_leN (a := lvQ C w h s l) (b := 1) 25 dX10_standing_16 (by decide) (by omega) (by omega) (fun c_16 => ?_) (fun c_16 => ?_)
        · refine wa_iconst (0) dX10_standing_25 (by decide) ?_
          refine wa_ior dX10_standing_26 ?_
          refine wa_eqi (y := (nI (wBits (fun l => decide (2 ≤ lvQ C w h s l)) (l + 1)))) (by first | exact wBits_t (p := fun l => decide (2 ≤ lvQ C w h s l)) (decide_eq_true (by omega)) (by omega) | exact Int32.or_zero.trans (wBits_f (p := fun l => decide (2 ≤ lvQ C w h s l)) (decide_eq_false (by omega)))) ?_
          refine wa_istore_n [(1, .int (nI (wBits (fun l => decide (2 ≤ lvQ C w h s l)) (l + 1)))), (2, .int (nI (l))), (0, wm_r G (96))] dX10_standing_27 rfl (by decide) rfl ?_
          refine wa_iinc ((nI (l + 1))) [(2, .int (nI (l + 1))), (1, .int (nI (wBits (fun l => decide (2 ≤ lvQ C w h s l)) (l + 1)))), (0, wm_r G (96))] dX10_standing_28 1 rfl (nI_inc _) (by decide) rfl ?_
          refine wa_goto 4 dX10_standing_31 (by decide) ?_
          exact ih_4 (l + 1) (by omega) (by omega)
        · refine wa_iconst (1) dX10_standing_19 (by decide) ?_
          refine wa_iload_n dX10_standing_20 rfl 0 rfl ?_
          refine wa_ishl dX10_standing_21 ?_
          refine wa_goto 26 dX10_standing_22 (by decide) ?_
          refine wa_ior dX10_standing_26 ?_
          refine wa_eqi (y := (nI (wBits (fun l => decide (2 ≤ lvQ C w h s l)) (l + 1)))) (by first | exact wBits_t (p := fun l => decide (2 ≤ lvQ C w h s l)) (decide_eq_true (by omega)) (by omega) | exact Int32.or_zero.trans (wBits_f (p := fun l => decide (2 ≤ lvQ C w h s l)) (decide_eq_false (by omega)))) ?_
          refine wa_istore_n [(1, .int (nI (wBits (fun l => decide (2 ≤ lvQ C w h s l)) (l + 1)))), (2, .int (nI (l))), (0, wm_r G (96))] dX10_standing_27 rfl (by decide) rfl ?_
          refine wa_iinc ((nI (l + 1))) [(2, .int (nI (l + 1))), (1, .int (nI (wBits (fun l => decide (2 ≤ lvQ C w h s l)) (l + 1)))), (0, wm_r G (96))] dX10_standing_28 1 rfl (nI_inc _) (by decide) rfl ?_
          refine wa_goto 4 dX10_standing_31 (by decide) ?_
          exact ih_4 (l + 1) (by omega) (by omega)
  exact L_4 _ 0 (Nat.lt_succ_self _) (Nat.zero_le _)

theorem x_layNow {G : wm_G} {M : wm_M} (n : Nat) (hn : n ≤ 6) (h12 : M.1 96 12 = nI n) : MD G t_X10_layNow [wm_r G (96)] (M) (none) (lyM M n (M.1 107)) := by
  refine wm_met (by decide) (Nat.le_of_ble_eq_true rfl) ?_
  show WA G t_X10_layNow (fun v_ N_ => v_ = none ∧ N_ = lyM M n (M.1 107)) 0 [(0, wm_r G (96))] [] (M)
  refine wa_iconst (0) dX10_layNow_0 (by decide) ?_
  refine wa_istore_n [(1, .int (0)), (0, wm_r G (96))] dX10_layNow_1 rfl (by decide) rfl ?_
  have L_2 : ∀ (n_ : Nat) (k : Nat), (n - k) < n_ → (k ≤ n) → WA G t_X10_layNow (fun v_ N_ => v_ = none ∧ N_ = lyM M n (M.1 107)) 2 [(1, .int (nI (k))), (0, wm_r G (96))] [] (wIa M 111 (wTo (M.1 107) (M.1 111) (k))) := by
    intro n_
    induction n_ with
    | zero => intro k h_; exact absurd h_ (Nat.not_lt_zero _)
    | succ n_ ih_2 =>
      intro k h_ hk
      refine wa_iload_n dX10_layNow_2 rfl 0 rfl ?_
      refine wa_aload_n dX10_layNow_3 rfl 1 rfl ?_
      refine wa_geti gX10_layNow_4 (rfl) rfl ?_
      refine wa_eqi (y := (nI (n))) (by rw [wIa_n (by decide)]; exact h12) ?_
      refine wa_icmp_geN (a := k) (b := n) 28 dX10_layNow_7 (by decide) (by omega) (by omega) (fun c_7 => ?_) (fun c_7 => ?_)
      · exact wa_vret dX10_layNow_28 rfl ⟨rfl, by rw [show k = n by omega]; rfl⟩
      · refine wa_aload_n dX10_layNow_10 rfl 1 rfl ?_
        refine wa_getr gX10_layNow_11 (rfl) rfl ?_
        refine wa_iload_n dX10_layNow_14 rfl 0 rfl ?_
        refine wa_aload_n dX10_layNow_15 rfl 1 rfl ?_
        refine wa_getr gX10_layNow_16 (rfl) rfl ?_
        refine wa_iload_n dX10_layNow_19 rfl 0 rfl ?_
        refine wa_ialdN (e := k) dX10_layNow_20 (rfl) (by omega) (by decide) ?_
        refine wa_eqi (y := (M.1 107 k)) (by rw [wIa_n (by decide)]) ?_
        refine wa_iastN (e := k) dX10_layNow_21 (rfl) (by omega) (by decide) ?_
        refine wa_eqm (M' := wIa M 111 (wTo (M.1 107) (M.1 111) (k + 1))) (wI_wIa.trans (congrArg (wIa M 111) (wTo_s rfl))) ?_
        refine wa_iinc ((nI (k + 1))) [(1, .int (nI (k + 1))), (0, wm_r G (96))] dX10_layNow_22 0 rfl (nI_inc _) (by decide) rfl ?_
        refine wa_goto 2 dX10_layNow_25 (by decide) ?_
        exact ih_2 (k + 1) (by omega) (by omega)
  refine wa_eqm (M' := wIa M 111 (wTo (M.1 107) (M.1 111) (0))) (wTo_start rfl) ?_
  exact L_2 _ 0 (Nat.lt_succ_self _) (Nat.zero_le _)

theorem x_layState {G : wm_G} {M : wm_M} (n s : Nat) (hn : n ≤ 6) (h12 : M.1 96 12 = nI n) (hs : s < 4096) : MD G t_X10_layState [wm_r G (96), .int (nI (s))] (M) (none) (lyM M n (fun k => nI (sQ s k))) := by
  refine wm_met (by decide) (Nat.le_of_ble_eq_true rfl) ?_
  show WA G t_X10_layState (fun v_ N_ => v_ = none ∧ N_ = lyM M n (fun k => nI (sQ s k))) 0 [(0, wm_r G (96)), (1, .int (nI (s)))] [] (M)
  refine wa_iconst (0) dX10_layState_0 (by decide) ?_
  refine wa_istore_n [(2, .int (0)), (0, wm_r G (96)), (1, .int (nI (s)))] dX10_layState_1 rfl (by decide) rfl ?_
  have L_2 : ∀ (n_ : Nat) (k : Nat), (n - k) < n_ → (k ≤ n) → WA G t_X10_layState (fun v_ N_ => v_ = none ∧ N_ = lyM M n (fun k => nI (sQ s k))) 2 [(2, .int (nI (k))), (0, wm_r G (96)), (1, .int (nI (s)))] [] (wIa M 111 (wTo (fun k => nI (sQ s k)) (M.1 111) (k))) := by
    intro n_
    induction n_ with
    | zero => intro k h_; exact absurd h_ (Nat.not_lt_zero _)
    | succ n_ ih_2 =>
      intro k h_ hk
      refine wa_iload_n dX10_layState_2 rfl 0 rfl ?_
      refine wa_aload_n dX10_layState_3 rfl 1 rfl ?_
      refine wa_geti gX10_layState_4 (rfl) rfl ?_
      refine wa_eqi (y := (nI (n))) (by rw [wIa_n (by decide)]; exact h12) ?_
      refine wa_icmp_geN (a := k) (b := n) 29 dX10_layState_7 (by decide) (by omega) (by omega) (fun c_7 => ?_) (fun c_7 => ?_)
      · exact wa_vret dX10_layState_29 rfl ⟨rfl, by rw [show k = n by omega]; rfl⟩
      · refine wa_aload_n dX10_layState_10 rfl 1 rfl ?_
        refine wa_getr gX10_layState_11 (rfl) rfl ?_
        refine wa_iload_n dX10_layState_14 rfl 0 rfl ?_
        refine wa_iload_n dX10_layState_15 rfl 2 rfl ?_
        refine wa_iconst (2) dX10_layState_16 (by decide) ?_
        refine wa_iload_n dX10_layState_17 rfl 0 rfl ?_
        refine wa_imulN (a := 2) (b := k) dX10_layState_18 ?_
        refine wa_ishr dX10_layState_19 ?_
        refine wa_eqi (y := (nI (s / 2 ^ (2 * k)))) (nI_shr (by omega) (by omega)) ?_
        refine wa_iconst (3) dX10_layState_20 (by decide) ?_
        refine wa_iand dX10_layState_21 ?_
        refine wa_eqi (y := (nI (sQ s k))) (by rw [nI_and3 (Nat.lt_of_le_of_lt (Nat.div_le_self _ _) (by omega)), p4]; rfl) ?_
        refine wa_iastN (e := k) dX10_layState_22 (rfl) (by omega) (by decide) ?_
        refine wa_eqm (M' := wIa M 111 (wTo (fun k => nI (sQ s k)) (M.1 111) (k + 1))) (wI_wIa.trans (congrArg (wIa M 111) (wTo_s (f := fun k => nI (sQ s k)) rfl))) ?_
        refine wa_iinc ((nI (k + 1))) [(2, .int (nI (k + 1))), (0, wm_r G (96)), (1, .int (nI (s)))] dX10_layState_23 0 rfl (nI_inc _) (by decide) rfl ?_
        refine wa_goto 2 dX10_layState_26 (by decide) ?_
        exact ih_2 (k + 1) (by omega) (by omega)
  refine wa_eqm (M' := wIa M 111 (wTo (fun k => nI (sQ s k)) (M.1 111) (0))) (wTo_start rfl) ?_
  exact L_2 _ 0 (Nat.lt_succ_self _) (Nat.zero_le _)
