/-! ===== the cells behind both constructors are the memory m0 ===== -/
def fW9 (X : wc_X) (u : Nat → Nat) : va_W := wX9 X (u 0) (u 1) (u 2) (u 3) (u 4) (u 5) (u 6) (u 7) (u 8) (u 9) (u 10) (u 11) (u 12) (u 13) (u 14) (u 15) (u 16) (u 17) (u 18) (u 19) (u 20) (u 21) (u 22) (u 23) (u 24) (u 25) (u 26) (u 27) (u 28) (u 29) (u 30) (u 31) (u 32) (u 33) (u 34) (u 35) (u 36) (u 37) (u 38) (u 39) (u 40) (u 41) (u 42) (u 43) (u 44) (u 45) (u 46) (u 47) (u 48) (u 49) (u 50) (u 51) (u 52) (u 53) (u 54) (u 55) (u 56) (u 57) (u 58) (u 59) (u 60) (u 61) (u 62) (u 63) (u 64) (u 65) (u 66) (u 67) (u 68) (u 69) (u 70) (u 71) (u 72) (u 73) (u 74) (u 75) (u 76) (u 77)
def fW10 (X : wc_X) (u : Nat → Nat) : va_W := wX10 X (u 78) (u 79) (u 80) (u 81) (u 82) (u 83) (u 84) (u 85) (u 86) (u 87) (u 88) (u 89) (u 90) (u 91) (u 92) (u 93) (u 94) (u 95) (u 96) (u 97) (u 98) (u 99) (u 100) (u 101) (u 102) (u 103)
def fL9 (X : wc_X) (u : Nat → Nat) : va_W := [((u 0), .inr (9, [.ref (u 1), .ref (u 4), .ref (u 7), .ref (u 12), .ref (u 17), .ref (u 18), .ref (u 32), .ref (u 40), .ref (u 47), .ref (u 74), .ref (u 76), .ref (u 77), .int (nI 0), .int (nI 0)])), ((u 1), .inr (5, [.int (nI 60), .ref (u 2), .ref (u 3)])), ((u 2), .inl (X.2.2 4, 6, .inr (.inr (.inr (.inr (fun i => if i < 6 then some ((u 2) + 1 + i) else none)))))), (((u 2) + 1 + 0), .inl (X.2.2 0, 60, .inl (fun _ => 0))), (((u 2) + 1 + 1), .inl (X.2.2 0, 60, .inl (fun _ => 0))), (((u 2) + 1 + 2), .inl (X.2.2 0, 60, .inl (fun _ => 0))), (((u 2) + 1 + 3), .inl (X.2.2 0, 60, .inl (fun _ => 0))), (((u 2) + 1 + 4), .inl (X.2.2 0, 60, .inl (fun _ => 0))), (((u 2) + 1 + 5), .inl (X.2.2 0, 60, .inl (fun _ => 0))), ((u 3), .inl (X.2.2 0, 6, .inl (fun _ => (-1)))), ((u 4), .inr (5, [.int (nI 80), .ref (u 5), .ref (u 6)])), ((u 5), .inl (X.2.2 4, 4, .inr (.inr (.inr (.inr (fun i => if i < 4 then some ((u 5) + 1 + i) else none)))))), (((u 5) + 1 + 0), .inl (X.2.2 0, 80, .inl (fun _ => 0))), (((u 5) + 1 + 1), .inl (X.2.2 0, 80, .inl (fun _ => 0))), (((u 5) + 1 + 2), .inl (X.2.2 0, 80, .inl (fun _ => 0))), (((u 5) + 1 + 3), .inl (X.2.2 0, 80, .inl (fun _ => 0))), ((u 6), .inl (X.2.2 0, 4, .inl (fun _ => (-1)))), ((u 7), .inr (4, [.int (nI 0), .int (nI 0), .ref (u 8), .ref (u 9), .ref (u 10), .ref (u 11)])), ((u 8), .inl (X.2.2 0, 6, .inl (fun _ => 0))), ((u 9), .inl (X.2.2 0, 24, .inl (fun _ => 0))), ((u 10), .inl (X.2.2 0, 6, .inl (fun _ => 0))), ((u 11), .inl (X.2.2 0, 6, .inl (fun _ => 0))), ((u 12), .inr (4, [.int (nI 0), .int (nI 0), .ref (u 13), .ref (u 14), .ref (u 15), .ref (u 16)])), ((u 13), .inl (X.2.2 0, 6, .inl (fun _ => 0))), ((u 14), .inl (X.2.2 0, 24, .inl (fun _ => 0))), ((u 15), .inl (X.2.2 0, 6, .inl (fun _ => 0))), ((u 16), .inl (X.2.2 0, 6, .inl (fun _ => 0))), ((u 17), .inr (7, [.ref (u 4), .ref (u 12), .int (nI 0), .int (nI 0), .int (nI 0)])), ((u 18), .inr (0, [.ref (u 19), .ref (u 22), .int (nI 0), .ref (u 7), .ref (u 23)])), ((u 19), .inr (5, [.int (nI 3), .ref (u 20), .ref (u 21)])), ((u 20), .inl (X.2.2 4, 4, .inr (.inr (.inr (.inr (fun i => if i < 4 then some ((u 20) + 1 + i) else none)))))), (((u 20) + 1 + 0), .inl (X.2.2 0, 3, .inl (fun _ => 0))), (((u 20) + 1 + 1), .inl (X.2.2 0, 3, .inl (fun _ => 0))), (((u 20) + 1 + 2), .inl (X.2.2 0, 3, .inl (fun _ => 0))), (((u 20) + 1 + 3), .inl (X.2.2 0, 3, .inl (fun _ => 0))), ((u 21), .inl (X.2.2 0, 4, .inl (fun _ => (-1)))), ((u 22), .inl (X.2.2 5, 4, .inr (.inr (.inr (.inr (va_up (va_up (va_up (va_up (fun _ => none) (nI 0).toNatClampNeg (some (u 24))) (nI 1).toNatClampNeg (some (u 26))) (nI 2).toNatClampNeg (some (u 28))) (nI 3).toNatClampNeg (some (u 30)))))))), ((u 23), .inl (X.2.2 0, 6, .inl (fun _ => 0))), ((u 24), .inr (3, [.ref (u 25)])), ((u 25), .inl (X.2.2 1, 64, .inr (.inl (fun _ => 0)))), ((u 26), .inr (3, [.ref (u 27)])), ((u 27), .inl (X.2.2 1, 64, .inr (.inl (fun _ => 0)))), ((u 28), .inr (3, [.ref (u 29)])), ((u 29), .inl (X.2.2 1, 64, .inr (.inl (fun _ => 0)))), ((u 30), .inr (3, [.ref (u 31)])), ((u 31), .inl (X.2.2 1, 64, .inr (.inl (fun _ => 0)))), ((u 32), .inr (8, [.int (nI 0), .int (-9), .ref (u 7), .ref (u 18), .ref (u 33), .ref (u 35), .ref (u 37), .ref (u 39)])), ((u 33), .inr (3, [.ref (u 34)])), ((u 34), .inl (X.2.2 1, 64, .inr (.inl (fun _ => 0)))), ((u 35), .inr (3, [.ref (u 36)])), ((u 36), .inl (X.2.2 1, 64, .inr (.inl (fun _ => 0)))), ((u 37), .inr (3, [.ref (u 38)])), ((u 38), .inl (X.2.2 1, 64, .inr (.inl (fun _ => 0)))), ((u 39), .inl (X.2.2 0, 6, .inl (fun _ => 0))), ((u 40), .inr (2, [.int (nI 0), .ref (u 7), .ref (u 41), .ref (u 42), .ref (u 43), .ref (u 44)])), ((u 41), .inl (X.2.2 0, 4, .inl (fun _ => 0))), ((u 42), .inl (X.2.2 0, 4, .inl (fun _ => 0))), ((u 43), .inl (X.2.2 0, 4, .inl (fun _ => 0))), ((u 44), .inr (5, [.int (nI 3), .ref (u 45), .ref (u 46)])), ((u 45), .inl (X.2.2 4, 4, .inr (.inr (.inr (.inr (fun i => if i < 4 then some ((u 45) + 1 + i) else none)))))), (((u 45) + 1 + 0), .inl (X.2.2 0, 3, .inl (fun _ => 0))), (((u 45) + 1 + 1), .inl (X.2.2 0, 3, .inl (fun _ => 0))), (((u 45) + 1 + 2), .inl (X.2.2 0, 3, .inl (fun _ => 0))), (((u 45) + 1 + 3), .inl (X.2.2 0, 3, .inl (fun _ => 0))), ((u 46), .inl (X.2.2 0, 4, .inl (fun _ => (-1)))), ((u 47), .inr (1, [.ref (u 48), .ref (u 7), .ref (u 40), .ref (u 49), .ref (u 51), .ref (u 52), .ref (u 53)])), ((u 48), .inl (X.2.2 5, 10, .inr (.inr (.inr (.inr (va_up (va_up (va_up (va_up (va_up (va_up (va_up (va_up (va_up (va_up (fun _ => none) (nI 0).toNatClampNeg (some (u 54))) (nI 1).toNatClampNeg (some (u 56))) (nI 2).toNatClampNeg (some (u 58))) (nI 3).toNatClampNeg (some (u 60))) (nI 4).toNatClampNeg (some (u 62))) (nI 5).toNatClampNeg (some (u 64))) (nI 6).toNatClampNeg (some (u 66))) (nI 7).toNatClampNeg (some (u 68))) (nI 8).toNatClampNeg (some (u 70))) (nI 9).toNatClampNeg (some (u 72)))))))), ((u 49), .inr (3, [.ref (u 50)])), ((u 50), .inl (X.2.2 1, 64, .inr (.inl (fun _ => 0)))), ((u 51), .inl (X.2.2 0, 6, .inl (fun _ => 0))), ((u 52), .inl (X.2.2 0, 4096, .inl (fun _ => 0))), ((u 53), .inl (X.2.2 0, 4096, .inl (fun _ => 0))), ((u 54), .inr (3, [.ref (u 55)])), ((u 55), .inl (X.2.2 1, 64, .inr (.inl (fun _ => 0)))), ((u 56), .inr (3, [.ref (u 57)])), ((u 57), .inl (X.2.2 1, 64, .inr (.inl (fun _ => 0)))), ((u 58), .inr (3, [.ref (u 59)])), ((u 59), .inl (X.2.2 1, 64, .inr (.inl (fun _ => 0)))), ((u 60), .inr (3, [.ref (u 61)])), ((u 61), .inl (X.2.2 1, 64, .inr (.inl (fun _ => 0)))), ((u 62), .inr (3, [.ref (u 63)])), ((u 63), .inl (X.2.2 1, 64, .inr (.inl (fun _ => 0)))), ((u 64), .inr (3, [.ref (u 65)])), ((u 65), .inl (X.2.2 1, 64, .inr (.inl (fun _ => 0)))), ((u 66), .inr (3, [.ref (u 67)])), ((u 67), .inl (X.2.2 1, 64, .inr (.inl (fun _ => 0)))), ((u 68), .inr (3, [.ref (u 69)])), ((u 69), .inl (X.2.2 1, 64, .inr (.inl (fun _ => 0)))), ((u 70), .inr (3, [.ref (u 71)])), ((u 71), .inl (X.2.2 1, 64, .inr (.inl (fun _ => 0)))), ((u 72), .inr (3, [.ref (u 73)])), ((u 73), .inl (X.2.2 1, 64, .inr (.inl (fun _ => 0)))), ((u 74), .inr (6, [.int (nI 0), .long 0, .long 1, .int (nI 0), .ref (u 75)])), ((u 75), .inl (X.2.2 0, 6, .inl (fun _ => 0))), ((u 76), .inl (X.2.2 0, 3, .inl (fun _ => 0))), ((u 77), .inl (X.2.2 0, 3, .inl (fun _ => (-1))))]
def fL10 (X : wc_X) (u : Nat → Nat) : va_W := [((u 78), .inr (10, [.int 0, .ref (u 79), .int 0, .long 0, .long 1, .ref (u 80), .ref (u 81), .ref (u 82), .ref (u 83), .ref (u 84), .int 0, .int 0, .int 0, .ref (u 85), .ref (u 86), .ref (u 87), .ref (u 88), .ref (u 89), .int 0, .int 0, .int 0, .int 0, .int 0, .int 0, .ref (u 90), .ref (u 91), .ref (u 92), .ref (u 93), .ref (u 94), .ref (u 95), .ref (u 96), .ref (u 97), .ref (u 98), .int 0, .ref (u 99), .ref (u 100), .int 0, .ref (u 101), .ref (u 102), .ref (u 103), .long 0])), ((u 79), .inl (X.2.2 0, 6, .inl (fun _ => 0))), ((u 80), .inl (X.2.2 0, 6, .inl (upd (upd (upd (upd (upd (upd (fun _ => 0) (nI 0).toNatClampNeg (-1)) (nI 1).toNatClampNeg (-1)) (nI 2).toNatClampNeg (-1)) (nI 3).toNatClampNeg (-1)) (nI 4).toNatClampNeg (-1)) (nI 5).toNatClampNeg (-1)))), ((u 81), .inl (X.2.2 0, 360, .inl (fun _ => 0))), ((u 82), .inl (X.2.2 0, 60, .inl (fun _ => 0))), ((u 83), .inl (X.2.2 0, 4, .inl (upd (upd (upd (upd (fun _ => 0) (nI 0).toNatClampNeg (-1)) (nI 1).toNatClampNeg (-1)) (nI 2).toNatClampNeg (-1)) (nI 3).toNatClampNeg (-1)))), ((u 84), .inl (X.2.2 2, 320, .inl (fun _ => 0))), ((u 85), .inl (X.2.2 0, 6, .inl (fun _ => 0))), ((u 86), .inl (X.2.2 0, 24, .inl (fun _ => 0))), ((u 87), .inl (X.2.2 0, 6, .inl (fun _ => 0))), ((u 88), .inl (X.2.2 0, 6, .inl (fun _ => 0))), ((u 89), .inl (X.2.2 0, 6, .inl (fun _ => 0))), ((u 90), .inl (X.2.2 0, 42, .inl (fun _ => 0))), ((u 91), .inl (X.2.2 0, 4, .inl (upd (upd (upd (upd (fun _ => 0) (nI 0).toNatClampNeg (-1)) (nI 1).toNatClampNeg (-1)) (nI 2).toNatClampNeg (-1)) (nI 3).toNatClampNeg (-1)))), ((u 92), .inl (X.2.2 0, 12, .inl (fun _ => 0))), ((u 93), .inl (X.2.2 0, 6, .inl (fun _ => 0))), ((u 94), .inl (X.2.2 0, 3, .inl (upd (upd (upd (fun _ => 0) (nI 0).toNatClampNeg (-1)) (nI 1).toNatClampNeg (-1)) (nI 2).toNatClampNeg (-1)))), ((u 95), .inl (X.2.2 0, 3, .inl (fun _ => 0))), ((u 96), .inl (X.2.2 0, 4096, .inl (fun _ => 0))), ((u 97), .inl (X.2.2 0, 4096, .inl (fun _ => 0))), ((u 98), .inl (X.2.2 0, 24, .inl (fun _ => 0))), ((u 99), .inl (X.2.2 3, 4096, .inl (fun _ => 0))), ((u 100), .inl (X.2.2 3, 4096, .inl (fun _ => 0))), ((u 101), .inl (X.2.2 0, 24, .inl (fun _ => 0))), ((u 102), .inl (X.2.2 1, 40960, .inr (.inl (fun _ => 0)))), ((u 103), .inl (X.2.2 1, 40960, .inr (.inl (fun _ => 0))))]
def fAd (u : Nat → Nat) : List Nat := [(u 0), (u 1), (u 2), ((u 2) + 1 + 0), ((u 2) + 1 + 1), ((u 2) + 1 + 2), ((u 2) + 1 + 3), ((u 2) + 1 + 4), ((u 2) + 1 + 5), (u 3), (u 4), (u 5), ((u 5) + 1 + 0), ((u 5) + 1 + 1), ((u 5) + 1 + 2), ((u 5) + 1 + 3), (u 6), (u 7), (u 8), (u 9), (u 10), (u 11), (u 12), (u 13), (u 14), (u 15), (u 16), (u 17), (u 18), (u 19), (u 20), ((u 20) + 1 + 0), ((u 20) + 1 + 1), ((u 20) + 1 + 2), ((u 20) + 1 + 3), (u 21), (u 22), (u 23), (u 24), (u 25), (u 26), (u 27), (u 28), (u 29), (u 30), (u 31), (u 32), (u 33), (u 34), (u 35), (u 36), (u 37), (u 38), (u 39), (u 40), (u 41), (u 42), (u 43), (u 44), (u 45), ((u 45) + 1 + 0), ((u 45) + 1 + 1), ((u 45) + 1 + 2), ((u 45) + 1 + 3), (u 46), (u 47), (u 48), (u 49), (u 50), (u 51), (u 52), (u 53), (u 54), (u 55), (u 56), (u 57), (u 58), (u 59), (u 60), (u 61), (u 62), (u 63), (u 64), (u 65), (u 66), (u 67), (u 68), (u 69), (u 70), (u 71), (u 72), (u 73), (u 74), (u 75), (u 76), (u 77), (u 78), (u 79), (u 80), (u 81), (u 82), (u 83), (u 84), (u 85), (u 86), (u 87), (u 88), (u 89), (u 90), (u 91), (u 92), (u 93), (u 94), (u 95), (u 96), (u 97), (u 98), (u 99), (u 100), (u 101), (u 102), (u 103)]
def fG (X : wc_X) (u : Nat → Nat) (A : Nat → Prop) (f : Nat) : wm_G := (X.1, X.2.1, fun k => (fAd u).getD k 0, X.2.2, A, f)
theorem ve_i {cA : ClassId} {n : Nat} {f g : Nat → Int32} (h : ∀ j, j < n → f j = g j) : vp_cell cA (n, .inl f) = vp_cell cA (n, .inl g) := by
  rw [vp_cell_i, vp_cell_i]
  unfold arrV
  congr 1
  apply Array.ext_getElem?
  intro j
  simp only [Array.getElem?_ofFn]
  by_cases hj : j < n
  · simp [hj, h j hj]
  · simp [hj]
theorem ve_l {cA : ClassId} {n : Nat} {f g : Nat → Int64} (h : ∀ j, j < n → f j = g j) : vp_cell cA (n, .inr (.inl f)) = vp_cell cA (n, .inr (.inl g)) := by
  rw [vp_cell_l, vp_cell_l]
  unfold arrV
  congr 1
  apply Array.ext_getElem?
  intro j
  simp only [Array.getElem?_ofFn]
  by_cases hj : j < n
  · simp [hj, h j hj]
  · simp [hj]
theorem ve_q {cA : ClassId} {n : Nat} {f g : Nat → Option Nat} (h : ∀ j, j < n → f j = g j) : vp_cell cA (n, .inr (.inr (.inr (.inr f)))) = vp_cell cA (n, .inr (.inr (.inr (.inr g)))) := by
  rw [vp_cell_q, vp_cell_q]
  unfold arrV
  congr 1
  apply Array.ext_getElem?
  intro j
  simp only [Array.getElem?_ofFn]
  by_cases hj : j < n
  · simp [hj, h j hj]
  · simp [hj]
theorem m0I_z {k : Nat} (h : ¬ (k = 9 ∨ k = 16 ∨ k = 35 ∨ k = 64 ∨ k = 95 ∨ k = 98 ∨ k = 101 ∨ k = 109 ∨ k = 112 ∨ k = 1 ∨ k = 10 ∨ k = 29 ∨ k = 58 ∨ k = 46)) (j : Nat) : m0I k j = 0 := by
  unfold m0I
  rw [if_neg (by omega)]
  by_cases hj : j = 0
  · rw [if_pos hj, if_neg (by omega), if_neg (by omega), if_neg (by omega)]
  · rw [if_neg hj, if_neg (by omega)]
theorem m0I_m {k : Nat} (h : k = 9 ∨ k = 16 ∨ k = 35 ∨ k = 64 ∨ k = 95 ∨ k = 98 ∨ k = 101 ∨ k = 109 ∨ k = 112) (j : Nat) : m0I k j = -1 := if_pos h
theorem m0J_z {k : Nat} (h : ¬ (k = 92 ∨ k = 96)) (j : Nat) : m0J k j = 0 := if_neg (by omega)
theorem ma_ws6 {X : wc_X} {w o : Nat} : ma_ws X 6 w o = [(o, .inl (X.2.2 4, 6, .inr (.inr (.inr (.inr (fun i => if i < 6 then some (o + 1 + i) else none)))))), (o + 1 + 0, .inl (X.2.2 0, w, .inl (fun _ => 0))), (o + 1 + 1, .inl (X.2.2 0, w, .inl (fun _ => 0))), (o + 1 + 2, .inl (X.2.2 0, w, .inl (fun _ => 0))), (o + 1 + 3, .inl (X.2.2 0, w, .inl (fun _ => 0))), (o + 1 + 4, .inl (X.2.2 0, w, .inl (fun _ => 0))), (o + 1 + 5, .inl (X.2.2 0, w, .inl (fun _ => 0)))] := rfl
theorem ma_ws4 {X : wc_X} {w o : Nat} : ma_ws X 4 w o = [(o, .inl (X.2.2 4, 4, .inr (.inr (.inr (.inr (fun i => if i < 4 then some (o + 1 + i) else none)))))), (o + 1 + 0, .inl (X.2.2 0, w, .inl (fun _ => 0))), (o + 1 + 1, .inl (X.2.2 0, w, .inl (fun _ => 0))), (o + 1 + 2, .inl (X.2.2 0, w, .inl (fun _ => 0))), (o + 1 + 3, .inl (X.2.2 0, w, .inl (fun _ => 0)))] := rfl
set_option maxRecDepth 100000 in
theorem fl_9 {X : wc_X} {u : Nat → Nat} : fW9 X u = fL9 X u := by
  simp only [fW9, wX9, wX5, wX4, wX7, wX0, wX3, wX8, wX2, wX1, wX6, fL9, ma_ws6, ma_ws4, List.nil_append, List.cons_append]
set_option maxRecDepth 100000 in
theorem fl_10 {X : wc_X} {u : Nat → Nat} : fW10 X u = fL10 X u := by
  simp only [fW10, wX10, fL10]
section FIN
variable {X : wc_X} {u : Nat → Nat} {A : Nat → Prop} {f : Nat} {H : Heap}
set_option maxRecDepth 100000 in
set_option maxHeartbeats 4000000 in
theorem fin_9 (hP : va_P X.2.1 classes (fL9 X u) H) (k : Nat) (hk : k < 96) : va_at X.2.1 classes (wm_a (fG X u A f) k, wm_cell (fG X u A f) m0 k) H := by
  match k, hk with
  | 0, _ => exact hP 0 _ rfl
  | 1, _ => exact hP 1 _ rfl
  | 2, _ => exact (show H[(u 2)]? = some (vp_cell (X.2.2 4) (6, .inr (.inr (.inr (.inr (fun i => if i < 6 then some ((u 2) + 1 + i) else none)))))) from hP 2 ((u 2), .inl (X.2.2 4, 6, .inr (.inr (.inr (.inr (fun i => if i < 6 then some ((u 2) + 1 + i) else none)))))) rfl).trans (congrArg some (ve_q (fun j hj => by match j, hj with | 0, _ => rfl | 1, _ => rfl | 2, _ => rfl | 3, _ => rfl | 4, _ => rfl | 5, _ => rfl | j + 6, hj => exact absurd hj (by omega))))
  | 3, _ => exact (show H[((u 2) + 1 + 0)]? = some (vp_cell (X.2.2 0) (60, .inl (fun _ => 0))) from hP 3 (((u 2) + 1 + 0), .inl (X.2.2 0, 60, .inl (fun _ => 0))) rfl).trans (congrArg some (ve_i (fun j _ => (m0I_z (k := 3) (by decide) j).symm)))
  | 4, _ => exact (show H[((u 2) + 1 + 1)]? = some (vp_cell (X.2.2 0) (60, .inl (fun _ => 0))) from hP 4 (((u 2) + 1 + 1), .inl (X.2.2 0, 60, .inl (fun _ => 0))) rfl).trans (congrArg some (ve_i (fun j _ => (m0I_z (k := 4) (by decide) j).symm)))
  | 5, _ => exact (show H[((u 2) + 1 + 2)]? = some (vp_cell (X.2.2 0) (60, .inl (fun _ => 0))) from hP 5 (((u 2) + 1 + 2), .inl (X.2.2 0, 60, .inl (fun _ => 0))) rfl).trans (congrArg some (ve_i (fun j _ => (m0I_z (k := 5) (by decide) j).symm)))
  | 6, _ => exact (show H[((u 2) + 1 + 3)]? = some (vp_cell (X.2.2 0) (60, .inl (fun _ => 0))) from hP 6 (((u 2) + 1 + 3), .inl (X.2.2 0, 60, .inl (fun _ => 0))) rfl).trans (congrArg some (ve_i (fun j _ => (m0I_z (k := 6) (by decide) j).symm)))
  | 7, _ => exact (show H[((u 2) + 1 + 4)]? = some (vp_cell (X.2.2 0) (60, .inl (fun _ => 0))) from hP 7 (((u 2) + 1 + 4), .inl (X.2.2 0, 60, .inl (fun _ => 0))) rfl).trans (congrArg some (ve_i (fun j _ => (m0I_z (k := 7) (by decide) j).symm)))
  | 8, _ => exact (show H[((u 2) + 1 + 5)]? = some (vp_cell (X.2.2 0) (60, .inl (fun _ => 0))) from hP 8 (((u 2) + 1 + 5), .inl (X.2.2 0, 60, .inl (fun _ => 0))) rfl).trans (congrArg some (ve_i (fun j _ => (m0I_z (k := 8) (by decide) j).symm)))
  | 9, _ => exact (show H[(u 3)]? = some (vp_cell (X.2.2 0) (6, .inl (fun _ => (-1)))) from hP 9 ((u 3), .inl (X.2.2 0, 6, .inl (fun _ => (-1)))) rfl).trans (congrArg some (ve_i (fun j _ => (m0I_m (k := 9) (by decide) j).symm)))
  | 10, _ => exact hP 10 _ rfl
  | 11, _ => exact (show H[(u 5)]? = some (vp_cell (X.2.2 4) (4, .inr (.inr (.inr (.inr (fun i => if i < 4 then some ((u 5) + 1 + i) else none)))))) from hP 11 ((u 5), .inl (X.2.2 4, 4, .inr (.inr (.inr (.inr (fun i => if i < 4 then some ((u 5) + 1 + i) else none)))))) rfl).trans (congrArg some (ve_q (fun j hj => by match j, hj with | 0, _ => rfl | 1, _ => rfl | 2, _ => rfl | 3, _ => rfl | j + 4, hj => exact absurd hj (by omega))))
  | 12, _ => exact (show H[((u 5) + 1 + 0)]? = some (vp_cell (X.2.2 0) (80, .inl (fun _ => 0))) from hP 12 (((u 5) + 1 + 0), .inl (X.2.2 0, 80, .inl (fun _ => 0))) rfl).trans (congrArg some (ve_i (fun j _ => (m0I_z (k := 12) (by decide) j).symm)))
  | 13, _ => exact (show H[((u 5) + 1 + 1)]? = some (vp_cell (X.2.2 0) (80, .inl (fun _ => 0))) from hP 13 (((u 5) + 1 + 1), .inl (X.2.2 0, 80, .inl (fun _ => 0))) rfl).trans (congrArg some (ve_i (fun j _ => (m0I_z (k := 13) (by decide) j).symm)))
  | 14, _ => exact (show H[((u 5) + 1 + 2)]? = some (vp_cell (X.2.2 0) (80, .inl (fun _ => 0))) from hP 14 (((u 5) + 1 + 2), .inl (X.2.2 0, 80, .inl (fun _ => 0))) rfl).trans (congrArg some (ve_i (fun j _ => (m0I_z (k := 14) (by decide) j).symm)))
  | 15, _ => exact (show H[((u 5) + 1 + 3)]? = some (vp_cell (X.2.2 0) (80, .inl (fun _ => 0))) from hP 15 (((u 5) + 1 + 3), .inl (X.2.2 0, 80, .inl (fun _ => 0))) rfl).trans (congrArg some (ve_i (fun j _ => (m0I_z (k := 15) (by decide) j).symm)))
  | 16, _ => exact (show H[(u 6)]? = some (vp_cell (X.2.2 0) (4, .inl (fun _ => (-1)))) from hP 16 ((u 6), .inl (X.2.2 0, 4, .inl (fun _ => (-1)))) rfl).trans (congrArg some (ve_i (fun j _ => (m0I_m (k := 16) (by decide) j).symm)))
  | 17, _ => exact hP 17 _ rfl
  | 18, _ => exact (show H[(u 8)]? = some (vp_cell (X.2.2 0) (6, .inl (fun _ => 0))) from hP 18 ((u 8), .inl (X.2.2 0, 6, .inl (fun _ => 0))) rfl).trans (congrArg some (ve_i (fun j _ => (m0I_z (k := 18) (by decide) j).symm)))
  | 19, _ => exact (show H[(u 9)]? = some (vp_cell (X.2.2 0) (24, .inl (fun _ => 0))) from hP 19 ((u 9), .inl (X.2.2 0, 24, .inl (fun _ => 0))) rfl).trans (congrArg some (ve_i (fun j _ => (m0I_z (k := 19) (by decide) j).symm)))
  | 20, _ => exact (show H[(u 10)]? = some (vp_cell (X.2.2 0) (6, .inl (fun _ => 0))) from hP 20 ((u 10), .inl (X.2.2 0, 6, .inl (fun _ => 0))) rfl).trans (congrArg some (ve_i (fun j _ => (m0I_z (k := 20) (by decide) j).symm)))
  | 21, _ => exact (show H[(u 11)]? = some (vp_cell (X.2.2 0) (6, .inl (fun _ => 0))) from hP 21 ((u 11), .inl (X.2.2 0, 6, .inl (fun _ => 0))) rfl).trans (congrArg some (ve_i (fun j _ => (m0I_z (k := 21) (by decide) j).symm)))
  | 22, _ => exact hP 22 _ rfl
  | 23, _ => exact (show H[(u 13)]? = some (vp_cell (X.2.2 0) (6, .inl (fun _ => 0))) from hP 23 ((u 13), .inl (X.2.2 0, 6, .inl (fun _ => 0))) rfl).trans (congrArg some (ve_i (fun j _ => (m0I_z (k := 23) (by decide) j).symm)))
  | 24, _ => exact (show H[(u 14)]? = some (vp_cell (X.2.2 0) (24, .inl (fun _ => 0))) from hP 24 ((u 14), .inl (X.2.2 0, 24, .inl (fun _ => 0))) rfl).trans (congrArg some (ve_i (fun j _ => (m0I_z (k := 24) (by decide) j).symm)))
  | 25, _ => exact (show H[(u 15)]? = some (vp_cell (X.2.2 0) (6, .inl (fun _ => 0))) from hP 25 ((u 15), .inl (X.2.2 0, 6, .inl (fun _ => 0))) rfl).trans (congrArg some (ve_i (fun j _ => (m0I_z (k := 25) (by decide) j).symm)))
  | 26, _ => exact (show H[(u 16)]? = some (vp_cell (X.2.2 0) (6, .inl (fun _ => 0))) from hP 26 ((u 16), .inl (X.2.2 0, 6, .inl (fun _ => 0))) rfl).trans (congrArg some (ve_i (fun j _ => (m0I_z (k := 26) (by decide) j).symm)))
  | 27, _ => exact hP 27 _ rfl
  | 28, _ => exact hP 28 _ rfl
  | 29, _ => exact hP 29 _ rfl
  | 30, _ => exact (show H[(u 20)]? = some (vp_cell (X.2.2 4) (4, .inr (.inr (.inr (.inr (fun i => if i < 4 then some ((u 20) + 1 + i) else none)))))) from hP 30 ((u 20), .inl (X.2.2 4, 4, .inr (.inr (.inr (.inr (fun i => if i < 4 then some ((u 20) + 1 + i) else none)))))) rfl).trans (congrArg some (ve_q (fun j hj => by match j, hj with | 0, _ => rfl | 1, _ => rfl | 2, _ => rfl | 3, _ => rfl | j + 4, hj => exact absurd hj (by omega))))
  | 31, _ => exact (show H[((u 20) + 1 + 0)]? = some (vp_cell (X.2.2 0) (3, .inl (fun _ => 0))) from hP 31 (((u 20) + 1 + 0), .inl (X.2.2 0, 3, .inl (fun _ => 0))) rfl).trans (congrArg some (ve_i (fun j _ => (m0I_z (k := 31) (by decide) j).symm)))
  | 32, _ => exact (show H[((u 20) + 1 + 1)]? = some (vp_cell (X.2.2 0) (3, .inl (fun _ => 0))) from hP 32 (((u 20) + 1 + 1), .inl (X.2.2 0, 3, .inl (fun _ => 0))) rfl).trans (congrArg some (ve_i (fun j _ => (m0I_z (k := 32) (by decide) j).symm)))
  | 33, _ => exact (show H[((u 20) + 1 + 2)]? = some (vp_cell (X.2.2 0) (3, .inl (fun _ => 0))) from hP 33 (((u 20) + 1 + 2), .inl (X.2.2 0, 3, .inl (fun _ => 0))) rfl).trans (congrArg some (ve_i (fun j _ => (m0I_z (k := 33) (by decide) j).symm)))
  | 34, _ => exact (show H[((u 20) + 1 + 3)]? = some (vp_cell (X.2.2 0) (3, .inl (fun _ => 0))) from hP 34 (((u 20) + 1 + 3), .inl (X.2.2 0, 3, .inl (fun _ => 0))) rfl).trans (congrArg some (ve_i (fun j _ => (m0I_z (k := 34) (by decide) j).symm)))
  | 35, _ => exact (show H[(u 21)]? = some (vp_cell (X.2.2 0) (4, .inl (fun _ => (-1)))) from hP 35 ((u 21), .inl (X.2.2 0, 4, .inl (fun _ => (-1)))) rfl).trans (congrArg some (ve_i (fun j _ => (m0I_m (k := 35) (by decide) j).symm)))
  | 36, _ => exact (show H[(u 22)]? = some (vp_cell (X.2.2 5) (4, .inr (.inr (.inr (.inr (va_up (va_up (va_up (va_up (fun _ => none) (nI 0).toNatClampNeg (some (u 24))) (nI 1).toNatClampNeg (some (u 26))) (nI 2).toNatClampNeg (some (u 28))) (nI 3).toNatClampNeg (some (u 30)))))))) from hP 36 ((u 22), .inl (X.2.2 5, 4, .inr (.inr (.inr (.inr (va_up (va_up (va_up (va_up (fun _ => none) (nI 0).toNatClampNeg (some (u 24))) (nI 1).toNatClampNeg (some (u 26))) (nI 2).toNatClampNeg (some (u 28))) (nI 3).toNatClampNeg (some (u 30)))))))) rfl).trans (congrArg some (ve_q (fun j hj => by match j, hj with | 0, _ => rfl | 1, _ => rfl | 2, _ => rfl | 3, _ => rfl | j + 4, hj => exact absurd hj (by omega))))
  | 37, _ => exact (show H[(u 23)]? = some (vp_cell (X.2.2 0) (6, .inl (fun _ => 0))) from hP 37 ((u 23), .inl (X.2.2 0, 6, .inl (fun _ => 0))) rfl).trans (congrArg some (ve_i (fun j _ => (m0I_z (k := 37) (by decide) j).symm)))
  | 38, _ => exact hP 38 _ rfl
  | 39, _ => exact (show H[(u 25)]? = some (vp_cell (X.2.2 1) (64, .inr (.inl (fun _ => 0)))) from hP 39 ((u 25), .inl (X.2.2 1, 64, .inr (.inl (fun _ => 0)))) rfl).trans (congrArg some (ve_l (fun j _ => (m0J_z (k := 39) (by decide) j).symm)))
  | 40, _ => exact hP 40 _ rfl
  | 41, _ => exact (show H[(u 27)]? = some (vp_cell (X.2.2 1) (64, .inr (.inl (fun _ => 0)))) from hP 41 ((u 27), .inl (X.2.2 1, 64, .inr (.inl (fun _ => 0)))) rfl).trans (congrArg some (ve_l (fun j _ => (m0J_z (k := 41) (by decide) j).symm)))
  | 42, _ => exact hP 42 _ rfl
  | 43, _ => exact (show H[(u 29)]? = some (vp_cell (X.2.2 1) (64, .inr (.inl (fun _ => 0)))) from hP 43 ((u 29), .inl (X.2.2 1, 64, .inr (.inl (fun _ => 0)))) rfl).trans (congrArg some (ve_l (fun j _ => (m0J_z (k := 43) (by decide) j).symm)))
  | 44, _ => exact hP 44 _ rfl
  | 45, _ => exact (show H[(u 31)]? = some (vp_cell (X.2.2 1) (64, .inr (.inl (fun _ => 0)))) from hP 45 ((u 31), .inl (X.2.2 1, 64, .inr (.inl (fun _ => 0)))) rfl).trans (congrArg some (ve_l (fun j _ => (m0J_z (k := 45) (by decide) j).symm)))
  | 46, _ => exact hP 46 _ rfl
  | 47, _ => exact hP 47 _ rfl
  | 48, _ => exact (show H[(u 34)]? = some (vp_cell (X.2.2 1) (64, .inr (.inl (fun _ => 0)))) from hP 48 ((u 34), .inl (X.2.2 1, 64, .inr (.inl (fun _ => 0)))) rfl).trans (congrArg some (ve_l (fun j _ => (m0J_z (k := 48) (by decide) j).symm)))
  | 49, _ => exact hP 49 _ rfl
  | 50, _ => exact (show H[(u 36)]? = some (vp_cell (X.2.2 1) (64, .inr (.inl (fun _ => 0)))) from hP 50 ((u 36), .inl (X.2.2 1, 64, .inr (.inl (fun _ => 0)))) rfl).trans (congrArg some (ve_l (fun j _ => (m0J_z (k := 50) (by decide) j).symm)))
  | 51, _ => exact hP 51 _ rfl
  | 52, _ => exact (show H[(u 38)]? = some (vp_cell (X.2.2 1) (64, .inr (.inl (fun _ => 0)))) from hP 52 ((u 38), .inl (X.2.2 1, 64, .inr (.inl (fun _ => 0)))) rfl).trans (congrArg some (ve_l (fun j _ => (m0J_z (k := 52) (by decide) j).symm)))
  | 53, _ => exact (show H[(u 39)]? = some (vp_cell (X.2.2 0) (6, .inl (fun _ => 0))) from hP 53 ((u 39), .inl (X.2.2 0, 6, .inl (fun _ => 0))) rfl).trans (congrArg some (ve_i (fun j _ => (m0I_z (k := 53) (by decide) j).symm)))
  | 54, _ => exact hP 54 _ rfl
  | 55, _ => exact (show H[(u 41)]? = some (vp_cell (X.2.2 0) (4, .inl (fun _ => 0))) from hP 55 ((u 41), .inl (X.2.2 0, 4, .inl (fun _ => 0))) rfl).trans (congrArg some (ve_i (fun j _ => (m0I_z (k := 55) (by decide) j).symm)))
  | 56, _ => exact (show H[(u 42)]? = some (vp_cell (X.2.2 0) (4, .inl (fun _ => 0))) from hP 56 ((u 42), .inl (X.2.2 0, 4, .inl (fun _ => 0))) rfl).trans (congrArg some (ve_i (fun j _ => (m0I_z (k := 56) (by decide) j).symm)))
  | 57, _ => exact (show H[(u 43)]? = some (vp_cell (X.2.2 0) (4, .inl (fun _ => 0))) from hP 57 ((u 43), .inl (X.2.2 0, 4, .inl (fun _ => 0))) rfl).trans (congrArg some (ve_i (fun j _ => (m0I_z (k := 57) (by decide) j).symm)))
  | 58, _ => exact hP 58 _ rfl
  | 59, _ => exact (show H[(u 45)]? = some (vp_cell (X.2.2 4) (4, .inr (.inr (.inr (.inr (fun i => if i < 4 then some ((u 45) + 1 + i) else none)))))) from hP 59 ((u 45), .inl (X.2.2 4, 4, .inr (.inr (.inr (.inr (fun i => if i < 4 then some ((u 45) + 1 + i) else none)))))) rfl).trans (congrArg some (ve_q (fun j hj => by match j, hj with | 0, _ => rfl | 1, _ => rfl | 2, _ => rfl | 3, _ => rfl | j + 4, hj => exact absurd hj (by omega))))
  | 60, _ => exact (show H[((u 45) + 1 + 0)]? = some (vp_cell (X.2.2 0) (3, .inl (fun _ => 0))) from hP 60 (((u 45) + 1 + 0), .inl (X.2.2 0, 3, .inl (fun _ => 0))) rfl).trans (congrArg some (ve_i (fun j _ => (m0I_z (k := 60) (by decide) j).symm)))
  | 61, _ => exact (show H[((u 45) + 1 + 1)]? = some (vp_cell (X.2.2 0) (3, .inl (fun _ => 0))) from hP 61 (((u 45) + 1 + 1), .inl (X.2.2 0, 3, .inl (fun _ => 0))) rfl).trans (congrArg some (ve_i (fun j _ => (m0I_z (k := 61) (by decide) j).symm)))
  | 62, _ => exact (show H[((u 45) + 1 + 2)]? = some (vp_cell (X.2.2 0) (3, .inl (fun _ => 0))) from hP 62 (((u 45) + 1 + 2), .inl (X.2.2 0, 3, .inl (fun _ => 0))) rfl).trans (congrArg some (ve_i (fun j _ => (m0I_z (k := 62) (by decide) j).symm)))
  | 63, _ => exact (show H[((u 45) + 1 + 3)]? = some (vp_cell (X.2.2 0) (3, .inl (fun _ => 0))) from hP 63 (((u 45) + 1 + 3), .inl (X.2.2 0, 3, .inl (fun _ => 0))) rfl).trans (congrArg some (ve_i (fun j _ => (m0I_z (k := 63) (by decide) j).symm)))
  | 64, _ => exact (show H[(u 46)]? = some (vp_cell (X.2.2 0) (4, .inl (fun _ => (-1)))) from hP 64 ((u 46), .inl (X.2.2 0, 4, .inl (fun _ => (-1)))) rfl).trans (congrArg some (ve_i (fun j _ => (m0I_m (k := 64) (by decide) j).symm)))
  | 65, _ => exact hP 65 _ rfl
  | 66, _ => exact (show H[(u 48)]? = some (vp_cell (X.2.2 5) (10, .inr (.inr (.inr (.inr (va_up (va_up (va_up (va_up (va_up (va_up (va_up (va_up (va_up (va_up (fun _ => none) (nI 0).toNatClampNeg (some (u 54))) (nI 1).toNatClampNeg (some (u 56))) (nI 2).toNatClampNeg (some (u 58))) (nI 3).toNatClampNeg (some (u 60))) (nI 4).toNatClampNeg (some (u 62))) (nI 5).toNatClampNeg (some (u 64))) (nI 6).toNatClampNeg (some (u 66))) (nI 7).toNatClampNeg (some (u 68))) (nI 8).toNatClampNeg (some (u 70))) (nI 9).toNatClampNeg (some (u 72)))))))) from hP 66 ((u 48), .inl (X.2.2 5, 10, .inr (.inr (.inr (.inr (va_up (va_up (va_up (va_up (va_up (va_up (va_up (va_up (va_up (va_up (fun _ => none) (nI 0).toNatClampNeg (some (u 54))) (nI 1).toNatClampNeg (some (u 56))) (nI 2).toNatClampNeg (some (u 58))) (nI 3).toNatClampNeg (some (u 60))) (nI 4).toNatClampNeg (some (u 62))) (nI 5).toNatClampNeg (some (u 64))) (nI 6).toNatClampNeg (some (u 66))) (nI 7).toNatClampNeg (some (u 68))) (nI 8).toNatClampNeg (some (u 70))) (nI 9).toNatClampNeg (some (u 72)))))))) rfl).trans (congrArg some (ve_q (fun j hj => by match j, hj with | 0, _ => rfl | 1, _ => rfl | 2, _ => rfl | 3, _ => rfl | 4, _ => rfl | 5, _ => rfl | 6, _ => rfl | 7, _ => rfl | 8, _ => rfl | 9, _ => rfl | j + 10, hj => exact absurd hj (by omega))))
  | 67, _ => exact hP 67 _ rfl
  | 68, _ => exact (show H[(u 50)]? = some (vp_cell (X.2.2 1) (64, .inr (.inl (fun _ => 0)))) from hP 68 ((u 50), .inl (X.2.2 1, 64, .inr (.inl (fun _ => 0)))) rfl).trans (congrArg some (ve_l (fun j _ => (m0J_z (k := 68) (by decide) j).symm)))
  | 69, _ => exact (show H[(u 51)]? = some (vp_cell (X.2.2 0) (6, .inl (fun _ => 0))) from hP 69 ((u 51), .inl (X.2.2 0, 6, .inl (fun _ => 0))) rfl).trans (congrArg some (ve_i (fun j _ => (m0I_z (k := 69) (by decide) j).symm)))
  | 70, _ => exact (show H[(u 52)]? = some (vp_cell (X.2.2 0) (4096, .inl (fun _ => 0))) from hP 70 ((u 52), .inl (X.2.2 0, 4096, .inl (fun _ => 0))) rfl).trans (congrArg some (ve_i (fun j _ => (m0I_z (k := 70) (by decide) j).symm)))
  | 71, _ => exact (show H[(u 53)]? = some (vp_cell (X.2.2 0) (4096, .inl (fun _ => 0))) from hP 71 ((u 53), .inl (X.2.2 0, 4096, .inl (fun _ => 0))) rfl).trans (congrArg some (ve_i (fun j _ => (m0I_z (k := 71) (by decide) j).symm)))
  | 72, _ => exact hP 72 _ rfl
  | 73, _ => exact (show H[(u 55)]? = some (vp_cell (X.2.2 1) (64, .inr (.inl (fun _ => 0)))) from hP 73 ((u 55), .inl (X.2.2 1, 64, .inr (.inl (fun _ => 0)))) rfl).trans (congrArg some (ve_l (fun j _ => (m0J_z (k := 73) (by decide) j).symm)))
  | 74, _ => exact hP 74 _ rfl
  | 75, _ => exact (show H[(u 57)]? = some (vp_cell (X.2.2 1) (64, .inr (.inl (fun _ => 0)))) from hP 75 ((u 57), .inl (X.2.2 1, 64, .inr (.inl (fun _ => 0)))) rfl).trans (congrArg some (ve_l (fun j _ => (m0J_z (k := 75) (by decide) j).symm)))
  | 76, _ => exact hP 76 _ rfl
  | 77, _ => exact (show H[(u 59)]? = some (vp_cell (X.2.2 1) (64, .inr (.inl (fun _ => 0)))) from hP 77 ((u 59), .inl (X.2.2 1, 64, .inr (.inl (fun _ => 0)))) rfl).trans (congrArg some (ve_l (fun j _ => (m0J_z (k := 77) (by decide) j).symm)))
  | 78, _ => exact hP 78 _ rfl
  | 79, _ => exact (show H[(u 61)]? = some (vp_cell (X.2.2 1) (64, .inr (.inl (fun _ => 0)))) from hP 79 ((u 61), .inl (X.2.2 1, 64, .inr (.inl (fun _ => 0)))) rfl).trans (congrArg some (ve_l (fun j _ => (m0J_z (k := 79) (by decide) j).symm)))
  | 80, _ => exact hP 80 _ rfl
  | 81, _ => exact (show H[(u 63)]? = some (vp_cell (X.2.2 1) (64, .inr (.inl (fun _ => 0)))) from hP 81 ((u 63), .inl (X.2.2 1, 64, .inr (.inl (fun _ => 0)))) rfl).trans (congrArg some (ve_l (fun j _ => (m0J_z (k := 81) (by decide) j).symm)))
  | 82, _ => exact hP 82 _ rfl
  | 83, _ => exact (show H[(u 65)]? = some (vp_cell (X.2.2 1) (64, .inr (.inl (fun _ => 0)))) from hP 83 ((u 65), .inl (X.2.2 1, 64, .inr (.inl (fun _ => 0)))) rfl).trans (congrArg some (ve_l (fun j _ => (m0J_z (k := 83) (by decide) j).symm)))
  | 84, _ => exact hP 84 _ rfl
  | 85, _ => exact (show H[(u 67)]? = some (vp_cell (X.2.2 1) (64, .inr (.inl (fun _ => 0)))) from hP 85 ((u 67), .inl (X.2.2 1, 64, .inr (.inl (fun _ => 0)))) rfl).trans (congrArg some (ve_l (fun j _ => (m0J_z (k := 85) (by decide) j).symm)))
  | 86, _ => exact hP 86 _ rfl
  | 87, _ => exact (show H[(u 69)]? = some (vp_cell (X.2.2 1) (64, .inr (.inl (fun _ => 0)))) from hP 87 ((u 69), .inl (X.2.2 1, 64, .inr (.inl (fun _ => 0)))) rfl).trans (congrArg some (ve_l (fun j _ => (m0J_z (k := 87) (by decide) j).symm)))
  | 88, _ => exact hP 88 _ rfl
  | 89, _ => exact (show H[(u 71)]? = some (vp_cell (X.2.2 1) (64, .inr (.inl (fun _ => 0)))) from hP 89 ((u 71), .inl (X.2.2 1, 64, .inr (.inl (fun _ => 0)))) rfl).trans (congrArg some (ve_l (fun j _ => (m0J_z (k := 89) (by decide) j).symm)))
  | 90, _ => exact hP 90 _ rfl
  | 91, _ => exact (show H[(u 73)]? = some (vp_cell (X.2.2 1) (64, .inr (.inl (fun _ => 0)))) from hP 91 ((u 73), .inl (X.2.2 1, 64, .inr (.inl (fun _ => 0)))) rfl).trans (congrArg some (ve_l (fun j _ => (m0J_z (k := 91) (by decide) j).symm)))
  | 92, _ => exact hP 92 _ rfl
  | 93, _ => exact (show H[(u 75)]? = some (vp_cell (X.2.2 0) (6, .inl (fun _ => 0))) from hP 93 ((u 75), .inl (X.2.2 0, 6, .inl (fun _ => 0))) rfl).trans (congrArg some (ve_i (fun j _ => (m0I_z (k := 93) (by decide) j).symm)))
  | 94, _ => exact (show H[(u 76)]? = some (vp_cell (X.2.2 0) (3, .inl (fun _ => 0))) from hP 94 ((u 76), .inl (X.2.2 0, 3, .inl (fun _ => 0))) rfl).trans (congrArg some (ve_i (fun j _ => (m0I_z (k := 94) (by decide) j).symm)))
  | 95, _ => exact (show H[(u 77)]? = some (vp_cell (X.2.2 0) (3, .inl (fun _ => (-1)))) from hP 95 ((u 77), .inl (X.2.2 0, 3, .inl (fun _ => (-1)))) rfl).trans (congrArg some (ve_i (fun j _ => (m0I_m (k := 95) (by decide) j).symm)))
  | k + 96, hk => exact absurd hk (by omega)
set_option maxRecDepth 100000 in
set_option maxHeartbeats 4000000 in
theorem fin_10 (hP : va_P X.2.1 classes (fL10 X u) H) (k : Nat) (hk : 96 ≤ k ∧ k < 122) : va_at X.2.1 classes (wm_a (fG X u A f) k, wm_cell (fG X u A f) m0 k) H := by
  obtain ⟨h1, h2⟩ := hk
  obtain ⟨i, rfl⟩ : ∃ i, k = 96 + i := ⟨k - 96, by omega⟩
  have hi : i < 26 := by omega
  clear h1 h2
  match i, hi with
  | 0, _ => exact hP 0 _ rfl
  | 1, _ => exact (show H[(u 79)]? = some (vp_cell (X.2.2 0) (6, .inl (fun _ => 0))) from hP 1 ((u 79), .inl (X.2.2 0, 6, .inl (fun _ => 0))) rfl).trans (congrArg some (ve_i (fun j _ => (m0I_z (k := 97) (by decide) j).symm)))
  | 2, _ => exact (show H[(u 80)]? = some (vp_cell (X.2.2 0) (6, .inl (upd (upd (upd (upd (upd (upd (fun _ => 0) (nI 0).toNatClampNeg (-1)) (nI 1).toNatClampNeg (-1)) (nI 2).toNatClampNeg (-1)) (nI 3).toNatClampNeg (-1)) (nI 4).toNatClampNeg (-1)) (nI 5).toNatClampNeg (-1)))) from hP 2 ((u 80), .inl (X.2.2 0, 6, .inl (upd (upd (upd (upd (upd (upd (fun _ => 0) (nI 0).toNatClampNeg (-1)) (nI 1).toNatClampNeg (-1)) (nI 2).toNatClampNeg (-1)) (nI 3).toNatClampNeg (-1)) (nI 4).toNatClampNeg (-1)) (nI 5).toNatClampNeg (-1)))) rfl).trans (congrArg some (ve_i (fun j hj => Eq.trans (by revert hj; revert j; decide +kernel) (m0I_m (k := 98) (by decide) j).symm)))
  | 3, _ => exact (show H[(u 81)]? = some (vp_cell (X.2.2 0) (360, .inl (fun _ => 0))) from hP 3 ((u 81), .inl (X.2.2 0, 360, .inl (fun _ => 0))) rfl).trans (congrArg some (ve_i (fun j _ => (m0I_z (k := 99) (by decide) j).symm)))
  | 4, _ => exact (show H[(u 82)]? = some (vp_cell (X.2.2 0) (60, .inl (fun _ => 0))) from hP 4 ((u 82), .inl (X.2.2 0, 60, .inl (fun _ => 0))) rfl).trans (congrArg some (ve_i (fun j _ => (m0I_z (k := 100) (by decide) j).symm)))
  | 5, _ => exact (show H[(u 83)]? = some (vp_cell (X.2.2 0) (4, .inl (upd (upd (upd (upd (fun _ => 0) (nI 0).toNatClampNeg (-1)) (nI 1).toNatClampNeg (-1)) (nI 2).toNatClampNeg (-1)) (nI 3).toNatClampNeg (-1)))) from hP 5 ((u 83), .inl (X.2.2 0, 4, .inl (upd (upd (upd (upd (fun _ => 0) (nI 0).toNatClampNeg (-1)) (nI 1).toNatClampNeg (-1)) (nI 2).toNatClampNeg (-1)) (nI 3).toNatClampNeg (-1)))) rfl).trans (congrArg some (ve_i (fun j hj => Eq.trans (by revert hj; revert j; decide +kernel) (m0I_m (k := 101) (by decide) j).symm)))
  | 6, _ => exact (show H[(u 84)]? = some (vp_cell (X.2.2 2) (320, .inl (fun _ => 0))) from hP 6 ((u 84), .inl (X.2.2 2, 320, .inl (fun _ => 0))) rfl).trans (congrArg some (ve_i (fun j _ => (m0I_z (k := 102) (by decide) j).symm)))
  | 7, _ => exact (show H[(u 85)]? = some (vp_cell (X.2.2 0) (6, .inl (fun _ => 0))) from hP 7 ((u 85), .inl (X.2.2 0, 6, .inl (fun _ => 0))) rfl).trans (congrArg some (ve_i (fun j _ => (m0I_z (k := 103) (by decide) j).symm)))
  | 8, _ => exact (show H[(u 86)]? = some (vp_cell (X.2.2 0) (24, .inl (fun _ => 0))) from hP 8 ((u 86), .inl (X.2.2 0, 24, .inl (fun _ => 0))) rfl).trans (congrArg some (ve_i (fun j _ => (m0I_z (k := 104) (by decide) j).symm)))
  | 9, _ => exact (show H[(u 87)]? = some (vp_cell (X.2.2 0) (6, .inl (fun _ => 0))) from hP 9 ((u 87), .inl (X.2.2 0, 6, .inl (fun _ => 0))) rfl).trans (congrArg some (ve_i (fun j _ => (m0I_z (k := 105) (by decide) j).symm)))
  | 10, _ => exact (show H[(u 88)]? = some (vp_cell (X.2.2 0) (6, .inl (fun _ => 0))) from hP 10 ((u 88), .inl (X.2.2 0, 6, .inl (fun _ => 0))) rfl).trans (congrArg some (ve_i (fun j _ => (m0I_z (k := 106) (by decide) j).symm)))
  | 11, _ => exact (show H[(u 89)]? = some (vp_cell (X.2.2 0) (6, .inl (fun _ => 0))) from hP 11 ((u 89), .inl (X.2.2 0, 6, .inl (fun _ => 0))) rfl).trans (congrArg some (ve_i (fun j _ => (m0I_z (k := 107) (by decide) j).symm)))
  | 12, _ => exact (show H[(u 90)]? = some (vp_cell (X.2.2 0) (42, .inl (fun _ => 0))) from hP 12 ((u 90), .inl (X.2.2 0, 42, .inl (fun _ => 0))) rfl).trans (congrArg some (ve_i (fun j _ => (m0I_z (k := 108) (by decide) j).symm)))
  | 13, _ => exact (show H[(u 91)]? = some (vp_cell (X.2.2 0) (4, .inl (upd (upd (upd (upd (fun _ => 0) (nI 0).toNatClampNeg (-1)) (nI 1).toNatClampNeg (-1)) (nI 2).toNatClampNeg (-1)) (nI 3).toNatClampNeg (-1)))) from hP 13 ((u 91), .inl (X.2.2 0, 4, .inl (upd (upd (upd (upd (fun _ => 0) (nI 0).toNatClampNeg (-1)) (nI 1).toNatClampNeg (-1)) (nI 2).toNatClampNeg (-1)) (nI 3).toNatClampNeg (-1)))) rfl).trans (congrArg some (ve_i (fun j hj => Eq.trans (by revert hj; revert j; decide +kernel) (m0I_m (k := 109) (by decide) j).symm)))
  | 14, _ => exact (show H[(u 92)]? = some (vp_cell (X.2.2 0) (12, .inl (fun _ => 0))) from hP 14 ((u 92), .inl (X.2.2 0, 12, .inl (fun _ => 0))) rfl).trans (congrArg some (ve_i (fun j _ => (m0I_z (k := 110) (by decide) j).symm)))
  | 15, _ => exact (show H[(u 93)]? = some (vp_cell (X.2.2 0) (6, .inl (fun _ => 0))) from hP 15 ((u 93), .inl (X.2.2 0, 6, .inl (fun _ => 0))) rfl).trans (congrArg some (ve_i (fun j _ => (m0I_z (k := 111) (by decide) j).symm)))
  | 16, _ => exact (show H[(u 94)]? = some (vp_cell (X.2.2 0) (3, .inl (upd (upd (upd (fun _ => 0) (nI 0).toNatClampNeg (-1)) (nI 1).toNatClampNeg (-1)) (nI 2).toNatClampNeg (-1)))) from hP 16 ((u 94), .inl (X.2.2 0, 3, .inl (upd (upd (upd (fun _ => 0) (nI 0).toNatClampNeg (-1)) (nI 1).toNatClampNeg (-1)) (nI 2).toNatClampNeg (-1)))) rfl).trans (congrArg some (ve_i (fun j hj => Eq.trans (by revert hj; revert j; decide +kernel) (m0I_m (k := 112) (by decide) j).symm)))
  | 17, _ => exact (show H[(u 95)]? = some (vp_cell (X.2.2 0) (3, .inl (fun _ => 0))) from hP 17 ((u 95), .inl (X.2.2 0, 3, .inl (fun _ => 0))) rfl).trans (congrArg some (ve_i (fun j _ => (m0I_z (k := 113) (by decide) j).symm)))
  | 18, _ => exact (show H[(u 96)]? = some (vp_cell (X.2.2 0) (4096, .inl (fun _ => 0))) from hP 18 ((u 96), .inl (X.2.2 0, 4096, .inl (fun _ => 0))) rfl).trans (congrArg some (ve_i (fun j _ => (m0I_z (k := 114) (by decide) j).symm)))
  | 19, _ => exact (show H[(u 97)]? = some (vp_cell (X.2.2 0) (4096, .inl (fun _ => 0))) from hP 19 ((u 97), .inl (X.2.2 0, 4096, .inl (fun _ => 0))) rfl).trans (congrArg some (ve_i (fun j _ => (m0I_z (k := 115) (by decide) j).symm)))
  | 20, _ => exact (show H[(u 98)]? = some (vp_cell (X.2.2 0) (24, .inl (fun _ => 0))) from hP 20 ((u 98), .inl (X.2.2 0, 24, .inl (fun _ => 0))) rfl).trans (congrArg some (ve_i (fun j _ => (m0I_z (k := 116) (by decide) j).symm)))
  | 21, _ => exact (show H[(u 99)]? = some (vp_cell (X.2.2 3) (4096, .inl (fun _ => 0))) from hP 21 ((u 99), .inl (X.2.2 3, 4096, .inl (fun _ => 0))) rfl).trans (congrArg some (ve_i (fun j _ => (m0I_z (k := 117) (by decide) j).symm)))
  | 22, _ => exact (show H[(u 100)]? = some (vp_cell (X.2.2 3) (4096, .inl (fun _ => 0))) from hP 22 ((u 100), .inl (X.2.2 3, 4096, .inl (fun _ => 0))) rfl).trans (congrArg some (ve_i (fun j _ => (m0I_z (k := 118) (by decide) j).symm)))
  | 23, _ => exact (show H[(u 101)]? = some (vp_cell (X.2.2 0) (24, .inl (fun _ => 0))) from hP 23 ((u 101), .inl (X.2.2 0, 24, .inl (fun _ => 0))) rfl).trans (congrArg some (ve_i (fun j _ => (m0I_z (k := 119) (by decide) j).symm)))
  | 24, _ => exact (show H[(u 102)]? = some (vp_cell (X.2.2 1) (40960, .inr (.inl (fun _ => 0)))) from hP 24 ((u 102), .inl (X.2.2 1, 40960, .inr (.inl (fun _ => 0)))) rfl).trans (congrArg some (ve_l (fun j _ => (m0J_z (k := 120) (by decide) j).symm)))
  | 25, _ => exact (show H[(u 103)]? = some (vp_cell (X.2.2 1) (40960, .inr (.inl (fun _ => 0)))) from hP 25 ((u 103), .inl (X.2.2 1, 40960, .inr (.inl (fun _ => 0)))) rfl).trans (congrArg some (ve_l (fun j _ => (m0J_z (k := 121) (by decide) j).symm)))
  | i + 26, hi => exact absurd hi (by omega)
theorem fin_P (hP : va_P X.2.1 classes (fW9 X u ++ fW10 X u) H) : va_P X.2.1 classes (wm_ws (fG X u A f) m0) H := by
  intro k q hq
  have hk : k < wm_n := by
    have := (List.getElem?_eq_some_iff.mp hq).1
    simpa [wm_ws] using this
  rw [wm_at hk] at hq
  cases hq
  have hk : k < 122 := hk
  rcases Nat.lt_or_ge k 96 with h | h
  · exact fin_9 (wc_P_l (by rw [fl_9, fl_10] at hP; exact hP)) k h
  · exact fin_10 (wc_P_r (by rw [fl_9, fl_10] at hP; exact hP)) k ⟨h, hk⟩
set_option maxRecDepth 100000 in
theorem fin_ad : (fW9 X u ++ fW10 X u).map (fun q => q.1) = fAd u := by
  rw [fl_9, fl_10]
  simp only [fL9, fL10, fAd, List.cons_append, List.nil_append, List.map_cons, List.map_nil]
theorem fin_at {k : Nat} (hk : k < wm_n) : ∃ q : Nat × va_E, (fW9 X u ++ fW10 X u)[k]? = some q ∧ q.1 = wm_a (fG X u A f) k := by
  have hl : (fW9 X u ++ fW10 X u).length = 122 := by
    have := congrArg List.length (fin_ad (X := X) (u := u))
    rw [List.length_map] at this
    exact this
  have hk2 : k < (fW9 X u ++ fW10 X u).length := by rw [hl]; exact hk
  refine ⟨_, List.getElem?_eq_getElem hk2, ?_⟩
  show _ = (fAd u).getD k 0
  rw [← fin_ad (X := X) (u := u), List.getD_eq_getElem?_getD, List.getElem?_map, List.getElem?_eq_getElem hk2]
  rfl
theorem fin_F {s : State} (hK : va_K X.2.1 classes (wc_tys X.2.2) s) (hZ : va_Z RX3 "FIRST" "[J" (.ref f) A s s.heap) (hT : va_T .long f 3 (fun j => .long (wm_first j)) A s s.heap) (hD : va_D A (fW9 X u ++ fW10 X u)) : wm_F (fG X u A f) s := by
  refine ⟨hK, hZ, hT, fun i j hi hj hij => ?_, fun k hk => ?_⟩
  · obtain ⟨x, hx, ex⟩ := fin_at (X := X) (u := u) (A := A) (f := f) hi
    obtain ⟨y, hy, ey⟩ := fin_at (X := X) (u := u) (A := A) (f := f) hj
    exact hD.1 i j x y hx hy (by rw [ex, ey]; exact hij)
  · obtain ⟨x, hx, ex⟩ := fin_at (X := X) (u := u) (A := A) (f := f) hk
    rw [← ex]
    exact hD.2 k x hx
end FIN
