/-! EQUALITY of the two runs: small numbers, floorMod = modulo, places -/
theorem tI {x y : Int32} (e : x.toInt = y.toInt) : x = y := Int32.toInt_inj.mp e
theorem fm_eq {x n : Int32} {m : Int} (q : (decide (n.toInt = m) && decide (1 ≤ m) && decide (m ≤ 1000)) = true) : FJ9_floorMod_7cf53 x n = FX12_modulo x n := by
  simp only [Bool.and_eq_true, decide_eq_true_eq] at q
  obtain ⟨⟨hn, h1⟩, h2⟩ := q
  have h0 : (0 : Int32).toInt = 0 := by decide
  have xn := xor_nn (x := x) (n := n) (by omega)
  obtain ⟨e1, e2⟩ := irem_ti (x := x) hn h1 h2
  have hr := irem_iv (x := x) hn h1 h2
  unfold iv at hr
  have hs : ((x - x / n * n) + n).toInt = (x - x / n * n).toInt + m := by
    rw [ti_add (by omega) (by omega), hn]
  obtain ⟨e3, e4⟩ := irem_ti (x := (x - x / n * n) + n) hn h1 h2
  have e5 : (FX12_modulo x n).toInt = ((x - x / n * n).toInt + m) % m := by
    unfold FX12_modulo
    rw [e3, e4, hs, Int.tmod_eq_emod_of_nonneg (by omega)]
  rw [Int.add_emod_right] at e5
  apply tI
  rw [e5]
  unfold FJ9_floorMod_7cf53
  split
  · rename_i c
    rw [Int32.le_iff_toInt_le, h0] at c
    have := irem_nn (a := 0) (b := 2147483647) (x := x) hn h1 h2 (by have := iv_any x; unfold iv at *; exact ⟨xn.mp c, this.2⟩) (by omega)
    unfold iv at this
    rw [Int.emod_eq_of_lt (by omega) (by omega)]
  · rename_i c
    rw [Int32.le_iff_toInt_le, h0] at c
    have f := irem_np (b := 0) (x := x) hn h1 h2 (by
      have : ¬ 0 ≤ x.toInt := fun z => c (xn.mpr z)
      omega)
    unfold iv at f
    split
    · rename_i d
      rw [d, h0]
      rfl
    · rename_i d
      have d2 : ¬ (x - x / n * n).toInt = 0 := fun z => d (tI (z.trans h0.symm))
      rw [hs, ← Int.add_emod_right, Int.emod_eq_of_lt (by omega) (by omega)]
theorem fmo4 (x : Int32) : FJ9_floorMod_7cf53 x 4 = FX12_modulo x 4 := fm_eq (m := 4) (by decide)
theorem fmo10 (x : Int32) : FJ9_floorMod_7cf53 x 10 = FX12_modulo x 10 := fm_eq (m := 10) (by decide)
theorem fmo12 (x : Int32) : FJ9_floorMod_7cf53 x 12 = FX12_modulo x 12 := fm_eq (m := 12) (by decide)
theorem hs_get (h : ph_H) (k i : Nat) (v : Int32) (k' i' : Nat) : hs h k i v k' i' = if k' = k then (if i' = i then v else h k' i') else h k' i' := by
  by_cases c : k' = k
  · rw [if_pos c]
    by_cases d : i' = i
    · rw [if_pos d, c, d, hz_e]
    · rw [if_neg d, hs_o (fun z => d z.2)]
  · rw [if_neg c, hs_o (fun z => c z.1)]
theorem hs_ext {a b : ph_H} (e : ∀ k i, a k i = b k i) : a = b := funext fun k => funext fun i => e k i
theorem hs_hs (h : ph_H) (k i : Nat) (v w : Int32) : hs (hs h k i v) k i w = hs h k i w := by
  apply hs_ext
  intro k' i'
  simp only [hs_get]
  repeat' split
  all_goals rfl
theorem hs_comm (h : ph_H) (k i : Nat) (v : Int32) (k2 i2 : Nat) (w : Int32) (c : k ≠ k2 ∨ i ≠ i2) : hs (hs h k i v) k2 i2 w = hs (hs h k2 i2 w) k i v := by
  apply hs_ext
  intro k' i'
  simp only [hs_get]
  rcases c with c | c
  · by_cases a : k' = k
    · have b : ¬ k' = k2 := fun e => c (a.symm.trans e)
      simp [b]
    · simp [a]
  · by_cases a : i' = i
    · have b : ¬ i' = i2 := fun e => c (a.symm.trans e)
      simp [b]
    · simp [a]
theorem hs_id (h : ph_H) (k i : Nat) : hs h k i (h k i) = h := by
  apply hs_ext
  intro k' i'
  rw [hs_get]
  split
  · rename_i a
    split
    · rename_i b
      rw [a, b]
    · rfl
  · rfl
def nrm (m a : Int32) : Int32 := if a < 0 then 24 else if a < m then a else 24
theorem goTo_eq (t a : Int32) (g : ph_H) : FX12_goTo t a g = hs g 12 t.toNatClampNeg (nrm (g 1 t.toNatClampNeg) a) := by
  unfold FX12_goTo FX12_goTo_19 nrm
  split
  · rfl
  · split <;> rfl
theorem iv_nat {lo hi : Int} {x : Int32} (f : iv lo hi x) (q : decide (0 ≤ lo) = true) : (x.toNatClampNeg : Int) = x.toInt := by
  simp only [decide_eq_true_eq] at q
  unfold iv at f
  rw [← Int32.toNat_toInt]
  omega
theorem slot_eq (t a : Int32) (g : ph_H) : FX3_slotOf t a = FX12_local t a g := by
  unfold FX3_slotOf FX12_local
  rw [fmo4, Int32.mul_comm t 4]
theorem slot_iv {t a : Int32} {g : ph_H} (ht : iv 0 3 t) : iv 12 27 (FX12_local t a g) := by
  unfold FX12_local
  exact iv_add (iv_add (a := 12) (b := 12) (iv_lit rfl) (iv_mul (c := 4) (lo := 0) (hi := 12) rfl ht rfl) (lo := 12) (hi := 24) rfl) (modulo_iv (m := 4) (hi := 3) rfl) rfl
theorem nrm_in {m a : Int32} (hm : iv 0 24 m) : iv 0 24 (nrm m a) := by
  unfold nrm
  split
  · exact ⟨by decide, by decide⟩
  · split
    · rename_i c d
      have c1 := nlt c
      rw [Int32.le_iff_toInt_le] at c1
      rw [Int32.lt_iff_toInt_lt] at d
      have h0 : (0 : Int32).toInt = 0 := by decide
      unfold iv at *
      omega
    · exact ⟨by decide, by decide⟩
/-- not ended: the number itself, and it is below the length -/
theorem nrm_id {m a : Int32} (hm : iv 0 24 m) (h : ¬ nrm m a = 24) : nrm m a = a ∧ 0 ≤ a.toInt ∧ a.toInt < m.toInt ∧ a.toInt < 24 := by
  unfold nrm at *
  have h0 : (0 : Int32).toInt = 0 := by decide
  split at h
  · exact absurd rfl h
  · rename_i c
    split at h
    · rename_i d
      have c1 := nlt c
      rw [Int32.le_iff_toInt_le] at c1
      rw [Int32.lt_iff_toInt_lt] at d
      unfold iv at hm
      rw [if_neg c, if_pos (by rw [Int32.lt_iff_toInt_lt]; exact d)]
      exact ⟨rfl, by omega, by omega, by omega⟩
    · exact absurd rfl h
theorem part_ix {t a : Int32} {j : Nat} {v : Int32} (ht : iv 0 3 t) (ha : iv 0 23 a) (hv : v.toInt = j) (hj : j < 4) : ((((t * 24) + a) * 4) + v).toNatClampNeg = 4 * ((24 * t) + a).toNatClampNeg + j ∧ ((24 * t) + a).toNatClampNeg < 96 := by
  have k24 : (24 : Int32).toInt = 24 := by decide
  have k4 : (4 : Int32).toInt = 4 := by decide
  unfold iv at *
  have e1 : (24 * t).toInt = 24 * t.toInt := by rw [ti_mul (by rw [k24]; omega) (by rw [k24]; omega), k24]
  have e2 : (24 * t + a).toInt = 24 * t.toInt + a.toInt := by rw [ti_add (by omega) (by omega), e1]
  have e3 : (t * 24 + a) = 24 * t + a := by rw [Int32.mul_comm]
  have e4 : ((24 * t + a) * 4).toInt = 4 * (24 * t.toInt + a.toInt) := by rw [ti_mul (by rw [k4, e2]; omega) (by rw [k4, e2]; omega), k4, e2]; omega
  have e5 : ((24 * t + a) * 4 + v).toInt = 4 * (24 * t.toInt + a.toInt) + j := by rw [ti_add (by omega) (by omega), e4, hv]
  rw [e3]
  rw [← Int32.toNat_toInt, ← Int32.toNat_toInt, e5, e2]
  omega
theorem part_ix0 {t a : Int32} (ht : iv 0 3 t) (ha : iv 0 23 a) : (((t * 24) + a) * 4).toNatClampNeg = 4 * ((24 * t) + a).toNatClampNeg := by
  have := (part_ix (j := 0) (v := 0) ht ha (by decide) (by decide)).1
  rw [Int32.add_zero] at this
  exact this
