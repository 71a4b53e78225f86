/-! make: what both sides answer -/
theorem mk58 (q : Nat) (x1 x3 x4 : Int32) (h : ph_H) : (FX12_make_58 q x1 x3 x4 h).1 = 0 := by
  induction q generalizing x4 h with
  | zero => rfl
  | succ q ih =>
    unfold FX12_make_58
    split
    · rfl
    · exact ih _ _
theorem FX12_make_eq (a0 a1 a2 : Int32) (h : ph_H) : (FX12_make a0 a1 a2 h).1 = FX11_make a0 a1 a2 := by
  have h2 : (2 : Int32).toInt = 2 := by decide
  have h3 : (3 : Int32).toInt = 3 := by decide
  unfold FX12_make FX11_make
  rw [show FX12_isShelf a0 = FX11_isShelf a0 from rfl]
  by_cases s : FX11_isShelf a0 = 0
  · rw [if_pos s, if_pos s]
  rw [if_neg s, if_neg s]
  by_cases i : FX12_isIn a1.toInt64 2 3 = 0
  · rw [if_pos i]
    have w := isIn_no i (a := 2) (b := 3) rfl
    unfold in_ at w
    by_cases c : a1 < 2
    · rw [if_pos c]
    · rw [if_neg c, if_pos]
      rw [Int32.lt_iff_toInt_lt] at c ⊢
      omega
  rw [if_neg i]
  have f := isIn_iv (lo := 2) (hi := 3) (iv_any a1) (lw_lit (lo := 2) (hi := 2) (x := 2) rfl) (lw_lit (lo := 3) (hi := 3) (x := 3) rfl) i rfl
  unfold iv at f
  rw [if_neg (show ¬ a1 < 2 from by rw [Int32.lt_iff_toInt_lt]; omega), if_neg (show ¬ 3 < a1 from by rw [Int32.lt_iff_toInt_lt]; omega)]
  by_cases c1 : a2 ≤ 60
  · rw [if_pos c1, if_pos c1]
    by_cases c2 : 0 ≤ a2
    · rw [if_pos c2, if_pos c2]
      exact mk58 ..
    · rw [if_neg c2, if_neg c2]
  · rw [if_neg c1, if_neg c1]
