theorem wTo_fill {f g : Nat → Int32} {s : Nat} : wTo g (wFill f 0 s 0) s = wTo g f s := by
  funext j
  by_cases h : j < s
  · rw [wTo_in h, wTo_in h]
  · rw [wTo_out (by omega), wTo_out (by omega), wFill_out (Or.inr (by omega))]
