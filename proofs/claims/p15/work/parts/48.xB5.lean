/-! what told, change and step answer -/
theorem told_ans {z : zT} {h g : ph_H} (P : LR h g) (J : IT z g) (a : Int32) : FX11_told a h = (FX12_told a g).1 := by
  obtain ⟨-, Q, q⟩ := P
  unfold FX11_told FX12_told
  rw [Q]
  by_cases c : g 0 36 = 0
  · rw [if_pos c, if_pos c]
  · obtain ⟨q1, q2, q3, q4, q5, q6, q7, q8, q9, q10⟩ := q c
    rw [if_neg c, if_neg c, q1, q2, q3, q5, q6, q7]
    repeat' split
    all_goals first | rfl | (rw [q4]; simp [*])
theorem change_ans {z : zT} {h g : ph_H} (P : LR h g) (J : IT z g) (a b : Int32) : FX11_change a b h = (FX12_change a b g).1 := by
  obtain ⟨-, Q, q⟩ := P
  have k0 : (0 : Int32).toInt = 0 := by decide
  have k1 : (1 : Int32).toInt = 1 := by decide
  unfold FX11_change FX12_change FX12_change_36
  rw [Q]
  by_cases c : g 0 36 = 0
  · rw [if_pos c, if_pos c]
  · obtain ⟨q1, q2, q3, q4, q5, q6, q7, q8, q9, q10⟩ := q c
    rw [if_neg c, if_neg c, q6]
    by_cases d : a < 0
    · rw [if_pos d, if_pos d]
    · rw [if_neg d, if_neg d]
      by_cases e : g 0 60 ≤ a
      · rw [if_pos e, if_pos e]
      · rw [if_neg e, if_neg e]
        rw [Int32.lt_iff_toInt_lt, k0] at d
        rw [Int32.le_iff_toInt_le] at e
        have an : (a.toNatClampNeg : Int) = a.toInt := by
          rw [← Int32.toNat_toInt]
          omega
        obtain ⟨r1, r2⟩ := q10 a.toNatClampNeg (by omega)
        rw [r1, r2]
        by_cases f : 0 ≤ b.toInt ∧ b.toInt ≤ 1
        · rw [if_neg (fun w => isIn_iff.mp w (by rw [l0, l1]; exact f)), if_neg (by rw [Int32.lt_iff_toInt_lt, k0]; omega), if_pos (by rw [Int32.le_iff_toInt_le, k1]; omega)]
          split <;> rfl
        · rw [if_pos (isIn_iff.mpr (by rw [l0, l1]; exact f))]
          by_cases u : b < 0
          · rw [if_pos u]
          · rw [if_neg u, if_neg (by
              rw [Int32.lt_iff_toInt_lt, k0] at u
              rw [Int32.le_iff_toInt_le, k1]
              omega)]
theorem step_ans {z : zT} {h g : ph_H} (P : LR h g) (J : IT z g) (a b : Int32) : FX11_step a b h = (FX12_step_ a b g).1 := by
  obtain ⟨-, Q, q⟩ := P
  have k0 : (0 : Int32).toInt = 0 := by decide
  have k1 : (1 : Int32).toInt = 1 := by decide
  unfold FX11_step FX12_step_
  rw [Q]
  by_cases c : g 0 36 = 0
  · rw [if_pos c, if_pos c]
  · obtain ⟨q1, q2, q3, q4, q5, q6, q7, q8, q9, q10⟩ := q c
    rw [if_neg c, if_neg c, q2]
    by_cases f : 1 ≤ a.toInt ∧ a.toInt ≤ (g 0 38).toInt
    · have an : (a.toNatClampNeg : Int) = a.toInt := by
        rw [← Int32.toNat_toInt]
        omega
      obtain ⟨r1, r2, r3, r4, r5, r6, r7, r8⟩ := q9 a.toNatClampNeg (by omega) (by omega)
      rw [if_neg (by rw [Int32.lt_iff_toInt_lt, k1]; omega), if_pos (by rw [Int32.le_iff_toInt_le]; omega), if_neg (fun w => isIn_iff.mp w (by rw [l1, Int32.toInt_toInt64]; exact f)), r1, r2, r3, r4, r5, r6]
      repeat' split
      all_goals rfl
    · rw [if_pos (c := FX12_isIn a.toInt64 1 ((g 0 38).toInt64) = 0) (isIn_iff.mpr (by rw [l1, Int32.toInt_toInt64]; exact f))]
      by_cases u : a < 1
      · rw [if_pos u]
      · rw [if_neg u, if_neg (by
          rw [Int32.lt_iff_toInt_lt, k1] at u
          rw [Int32.le_iff_toInt_le]
          omega)]
