/-! floorMod by a small number -/
theorem xor_nn {x n : Int32} (hn : 0 ≤ n.toInt) : 0 ≤ (x ^^^ n).toInt ↔ 0 ≤ x.toInt := by
  have h1 : (x ^^^ n).toBitVec.msb = (x.toBitVec.msb ^^ n.toBitVec.msb) := by rw [Int32.toBitVec_xor, BitVec.msb_xor]
  rw [BitVec.msb_eq_toInt, BitVec.msb_eq_toInt, BitVec.msb_eq_toInt] at h1
  have e : ∀ y : Int32, y.toBitVec.toInt = y.toInt := fun _ => rfl
  rw [e, e, e] at h1
  have h2 : decide (n.toInt < 0) = false := by
    rw [decide_eq_false_iff_not]
    omega
  rw [h2, Bool.xor_false] at h1
  have h3 := decide_eq_decide.mp h1
  omega
theorem irem_np {b : Int} {x n : Int32} {m : Int} (hn : n.toInt = m) (h1 : 1 ≤ m) (h2 : m ≤ 1000) (hx : x.toInt ≤ 0) : iv (1 - m) 0 (x - x / n * n) := by
  obtain ⟨e1, e2⟩ := irem_ti (x := x) hn h1 h2
  have hr1 : -m < x.toInt.tmod m := Int.lt_tmod_of_pos x.toInt (by omega)
  have hs := Int.tmod_nonneg (a := -x.toInt) m (by omega)
  rw [Int.neg_tmod] at hs
  unfold iv
  rw [e1, e2]
  omega
theorem fmod_p {x n : Int32} {m : Int} (hn : n.toInt = m) (hm : 1 ≤ m) : PJ9_floorMod_7cf53 x n := by
  have h : ¬ n = 0 := fun e => by
    subst e
    have : (0 : Int32).toInt = 0 := by decide
    omega
  exact ⟨h, fun _ => trivial, fun _ => ⟨fun _ => trivial, fun _ => trivial⟩⟩
theorem fmod_iv {x n : Int32} {m hi : Int} (q : (decide (n.toInt = m) && decide (1 ≤ m) && decide (m ≤ 1000) && decide (m = hi + 1)) = true) : iv 0 hi (FJ9_floorMod_7cf53 x n) := by
  simp only [Bool.and_eq_true, decide_eq_true_eq] at q
  obtain ⟨⟨⟨hn, h1⟩, h2⟩, h3⟩ := q
  have h0 : (0 : Int32).toInt = 0 := by decide
  have xn := xor_nn (x := x) (n := n) (by omega)
  have e : hi = m - 1 := by omega
  rw [e]
  unfold FJ9_floorMod_7cf53
  split
  · rename_i c
    rw [Int32.le_iff_toInt_le, h0] at c
    exact irem_nn (a := 0) (b := 2147483647) hn h1 h2 (by have := iv_any x; unfold iv at *; exact ⟨xn.mp c, this.2⟩) (by omega)
  · rename_i c
    rw [Int32.le_iff_toInt_le, h0] at c
    have f := irem_np (b := 0) (x := x) hn h1 h2 (by
      have : ¬ 0 ≤ x.toInt := fun z => c (xn.mpr z)
      omega)
    split
    · rename_i d
      rw [d]
      unfold iv
      rw [h0]
      omega
    · rename_i d
      have d2 := ti_ne d
      rw [h0] at d2
      unfold iv at *
      rw [ti_add (by omega) (by omega)]
      omega
