theorem gate_eq {h g : ph_H} {k : Int32} (R : RC h g) (hk : k.toNatClampNeg < 28) : FX3_gateIn_s k h = if g 10 k.toNatClampNeg = 3 then g 11 k.toNatClampNeg else -1 := by
  obtain ⟨e1, e2⟩ := R.1 _ hk
  unfold FX3_gateIn_s
  rw [e1, e2]
theorem le_n1 : ¬ (0 : Int32) ≤ -1 := by decide
theorem op_12 {z : zT} {h g : ph_H} {t : Int32} (R : RC h g) (I : IM z g) (ht : iv 0 3 t) (S : S0c t h g) (e18 : h 18 t.toNatClampNeg = g 12 t.toNatClampNeg) {i : Int32} (q0 : h 10 (FX5_firstPart_t t (h 18 t.toNatClampNeg) h).toNatClampNeg = g 2 i.toNatClampNeg) (q1 : h 10 ((FX5_firstPart_t t (h 18 t.toNatClampNeg) h) + 1).toNatClampNeg = g 3 i.toNatClampNeg) (q2 : h 10 ((FX5_firstPart_t t (h 18 t.toNatClampNeg) h) + 2).toNatClampNeg = g 4 i.toNatClampNeg) (q3 : h 10 ((FX5_firstPart_t t (h 18 t.toNatClampNeg) h) + 3).toNatClampNeg = g 5 i.toNatClampNeg) (o : g 2 i.toNatClampNeg = 12) : SIM t (FX3_perform_s t h) (FX12_instruct t i g) := by
  rw [pf_12 (q0.trans o) q1 q2 q3, slot_eq t _ g]
  unfold FX3_takeLock_s FX3_own_s
  rw [lock_eq R (sl_lt ht)]
  by_cases l : FX12_isLock (FX12_local t (g 3 i.toNatClampNeg) g) g = 0
  · rw [ins_f (w := 1) (by rw [o]; decide) (by rw [o]; unfold FX12_why; simp (decide := true) only [l, ↓reduceIte]) (by decide)]
    simp (decide := true) only [l, le_n1, ↓reduceIte]
    exact fin_fail R S (by decide) (by decide)
  · have l0 := isLock_t l
    have lo := own_at R (sl_lt ht) l0
    obtain ⟨a, b, c⟩ := refs R (sl_lt ht) l0
    have nn := nn_le (x := g 11 (FX12_local t (g 3 i.toNatClampNeg) g).toNatClampNeg) (by omega)
    simp (decide := true) only [l, nn, ↓reduceIte]
    by_cases u : g 17 (g 11 (FX12_local t (g 3 i.toNatClampNeg) g).toNatClampNeg).toNatClampNeg = t
    · rw [ins_f (w := 5) (by rw [o]; decide) (by rw [o]; unfold FX12_why; simp (decide := true) only [l, u, ↓reduceIte]) (by decide), if_pos ((OW_own lo ht).mpr u)]
      exact fin_fail R S (by decide) (by decide)
    · rw [if_neg (fun w => u ((OW_own lo ht).mp w)), ins_12 o l u]
      obtain ⟨s1, s2, s3, s4, s5, s6, s7⟩ := S
      refine fin_go (((((R.rs rfl).own (Or.inr ⟨rfl, ht⟩)).cs (by decide)).cs (by decide)).rs rfl |>.rs rfl) ?_ (by simp [hs_get]) (by simp [PLp, hs_get, s5, s6]) ?_
      · simp [EF, hs_get, s2, s3, s4, s5, s6, s7]
      · simp [hs_get, s1, e18]
theorem op_13 {z : zT} {h g : ph_H} {t : Int32} (R : RC h g) (I : IM z g) (ht : iv 0 3 t) (S : S0c t h g) (e18 : h 18 t.toNatClampNeg = g 12 t.toNatClampNeg) {i : Int32} (q0 : h 10 (FX5_firstPart_t t (h 18 t.toNatClampNeg) h).toNatClampNeg = g 2 i.toNatClampNeg) (q1 : h 10 ((FX5_firstPart_t t (h 18 t.toNatClampNeg) h) + 1).toNatClampNeg = g 3 i.toNatClampNeg) (q2 : h 10 ((FX5_firstPart_t t (h 18 t.toNatClampNeg) h) + 2).toNatClampNeg = g 4 i.toNatClampNeg) (q3 : h 10 ((FX5_firstPart_t t (h 18 t.toNatClampNeg) h) + 3).toNatClampNeg = g 5 i.toNatClampNeg) (o : g 2 i.toNatClampNeg = 13) : SIM t (FX3_perform_s t h) (FX12_instruct t i g) := by
  rw [pf_13 (q0.trans o) q1 q2 q3, slot_eq t _ g]
  unfold FX3_leaveLock_s FX3_free_s
  rw [lock_eq R (sl_lt ht)]
  by_cases l : FX12_isLock (FX12_local t (g 3 i.toNatClampNeg) g) g = 0
  · rw [ins_f (w := 1) (by rw [o]; decide) (by rw [o]; unfold FX12_why; simp (decide := true) only [l, ↓reduceIte]) (by decide)]
    simp (decide := true) only [l, le_n1, ↓reduceIte]
    exact fin_fail R S (by decide) (by decide)
  · have l0 := isLock_t l
    have lo := own_at R (sl_lt ht) l0
    obtain ⟨a, b, c⟩ := refs R (sl_lt ht) l0
    have nn := nn_le (x := g 11 (FX12_local t (g 3 i.toNatClampNeg) g).toNatClampNeg) (by omega)
    simp (decide := true) only [l, nn, ↓reduceIte]
    by_cases u : g 17 (g 11 (FX12_local t (g 3 i.toNatClampNeg) g).toNatClampNeg).toNatClampNeg = t
    · rw [if_pos ((OW_own lo ht).mpr u), ins_13 o l u]
      obtain ⟨s1, s2, s3, s4, s5, s6, s7⟩ := S
      refine fin_go (((((R.rs rfl).own (Or.inl ⟨rfl, rfl⟩)).cs (by decide)).cs (by decide)).rs rfl |>.rs rfl) ?_ (by simp [hs_get]) (by simp [PLp, hs_get, s5, s6]) ?_
      · simp [EF, hs_get, s2, s3, s4, s5, s6, s7]
      · simp [hs_get, s1, e18]
    · rw [ins_f (w := 6) (by rw [o]; decide) (by rw [o]; unfold FX12_why; simp (decide := true) only [l, u, ↓reduceIte]) (by decide), if_neg (fun w => u ((OW_own lo ht).mp w))]
      exact fin_fail R S (by decide) (by decide)
theorem op_14 {z : zT} {h g : ph_H} {t : Int32} (R : RC h g) (I : IM z g) (ht : iv 0 3 t) (S : S0c t h g) (e18 : h 18 t.toNatClampNeg = g 12 t.toNatClampNeg) (m1 : h 19 t.toNatClampNeg = 1) {i : Int32} (q0 : h 10 (FX5_firstPart_t t (h 18 t.toNatClampNeg) h).toNatClampNeg = g 2 i.toNatClampNeg) (q1 : h 10 ((FX5_firstPart_t t (h 18 t.toNatClampNeg) h) + 1).toNatClampNeg = g 3 i.toNatClampNeg) (q2 : h 10 ((FX5_firstPart_t t (h 18 t.toNatClampNeg) h) + 2).toNatClampNeg = g 4 i.toNatClampNeg) (q3 : h 10 ((FX5_firstPart_t t (h 18 t.toNatClampNeg) h) + 3).toNatClampNeg = g 5 i.toNatClampNeg) (o : g 2 i.toNatClampNeg = 14) : SIM t (FX3_perform_s t h) (FX12_instruct t i g) := by
  rw [pf_14 (q0.trans o) q1 q2 q3, slot_eq t _ g]
  unfold FX3_lieDown_s FX3_free_s
  rw [gate_eq R (sl_lt ht)]
  by_cases l : g 10 (FX12_local t (g 3 i.toNatClampNeg) g).toNatClampNeg = 3
  · have l0 : ¬ g 10 (FX12_local t (g 3 i.toNatClampNeg) g).toNatClampNeg = 0 := fun w => absurd (w.symm.trans l) (by decide)
    have lo := own_at R (sl_lt ht) l0
    obtain ⟨a, b, c⟩ := refs R (sl_lt ht) l0
    have nn := nn_le (x := g 11 (FX12_local t (g 3 i.toNatClampNeg) g).toNatClampNeg) (by omega)
    have tn := th_nn I
    simp (decide := true) only [l, nn, ↓reduceIte]
    by_cases u : g 17 (g 11 (FX12_local t (g 3 i.toNatClampNeg) g).toNatClampNeg).toNatClampNeg = t
    · rw [if_pos ((OW_own lo ht).mpr u), ins_14 o l u]
      have s1 := S.1
      obtain ⟨s1, s2, s3, s4, s5, s6, s7⟩ := S
      have R1 := (R.rs (i := 25) (v := 0) rfl).lie (z := z) (q := g 11 (FX12_local t (g 3 i.toNatClampNeg) g).toNatClampNeg) (IMs I (iv_any _) rfl) (t_lt ht) m1 ⟨by omega, by omega⟩ (by rw [hs_o (by simp)]; omega)
      have R2 := (R1.cs (i := 13) (v := h 18 t.toNatClampNeg) (by decide)).own (x := (g 11 (FX12_local t (g 3 i.toNatClampNeg) g).toNatClampNeg).toNatClampNeg) (c := -2) (r := -1) (Or.inl ⟨rfl, rfl⟩)
      have R3 := (((R2.cs (i := 16) (v := 2) (by decide)).cs (i := 17) (v := g 11 (FX12_local t (g 3 i.toNatClampNeg) g).toNatClampNeg) (by decide)).rs (i := 31) (v := 2) rfl).rs (i := 32) (v := g 11 (FX12_local t (g 3 i.toNatClampNeg) g).toNatClampNeg) rfl
      rw [hs_comm _ 14 _ _ 17 _ _ (Or.inl (by decide))] at R3
      refine fin_stay R3 ?_ (by simp [hs_get]) (by simp [PLp, hs_get, s5, s6]) ?_
      · simp [EF, hs_get, s2, s3, s4, s5, s6, s7]
      · have := R.2.1 _ (t_lt ht)
        simpa [hs_get] using this
    · rw [ins_f (w := 6) (by rw [o]; decide) (by rw [o]; unfold FX12_why; simp (decide := true) only [l, u, ↓reduceIte]) (by decide), if_neg (fun w => u ((OW_own lo ht).mp w))]
      exact fin_fail R S (by decide) (by decide)
  · rw [ins_f (w := 1) (by rw [o]; decide) (by rw [o]; unfold FX12_why; simp (decide := true) only [l, ↓reduceIte]) (by decide)]
    simp (decide := true) only [l, le_n1, ↓reduceIte]
    exact fin_fail R S (by decide) (by decide)
theorem op_16 {z : zT} {h g : ph_H} {t : Int32} (R : RC h g) (I : IM z g) (ht : iv 0 3 t) (S : S0c t h g) (e18 : h 18 t.toNatClampNeg = g 12 t.toNatClampNeg) (kk : ¬ g 0 33 = 0 → ¬ g 0 23 = g 0 34) {i : Int32} (q0 : h 10 (FX5_firstPart_t t (h 18 t.toNatClampNeg) h).toNatClampNeg = g 2 i.toNatClampNeg) (q1 : h 10 ((FX5_firstPart_t t (h 18 t.toNatClampNeg) h) + 1).toNatClampNeg = g 3 i.toNatClampNeg) (q2 : h 10 ((FX5_firstPart_t t (h 18 t.toNatClampNeg) h) + 2).toNatClampNeg = g 4 i.toNatClampNeg) (q3 : h 10 ((FX5_firstPart_t t (h 18 t.toNatClampNeg) h) + 3).toNatClampNeg = g 5 i.toNatClampNeg) (o : g 2 i.toNatClampNeg = 16) : SIM t (FX3_perform_s t h) (FX12_instruct t i g) := by
  rw [pf_16 (q0.trans o) q1 q2 q3, slot_eq t _ g]
  unfold FX3_takeInput_s FX3_hold_s
  obtain ⟨i1, i2, i3, i4⟩ := R.2.2.2.2.1
  rw [i1, i2]
  have t30 : iv 0 30 (g 0 23) := IMv I 0 23
  have t7 : iv 0 30 (g 0 7) := IMv I 0 7
  have t34 : iv 0 30 (g 0 34) := IMv I 0 34
  have k1 : (1 : Int32).toInt = 1 := by decide
  have k30 : (30 : Int32).toInt = 30 := by decide
  have tn := iv_nat t30 rfl
  unfold iv at t30 t7 t34
  have e1 : g 0 23 + 1 - 1 = g 0 23 := tI (by rw [ti_sub, ti_add] <;> (try rw [ti_add]) <;> omega)
  have e2 : (g 0 23 + 1).toInt = (g 0 23).toInt + 1 := by rw [ti_add (by omega) (by omega), k1]
  have kb : (kn g).toInt ≤ 30 := by unfold kn; split <;> omega
  rw [e1]
  by_cases f : kn g ≤ g 0 23
  · rw [if_pos f]
    rw [Int32.le_iff_toInt_le] at f
    have eq : g 0 23 = kn g := tI (by omega)
    by_cases c : g 0 33 = 0
    · have : g 0 23 = g 0 7 := by rw [eq]; unfold kn; rw [if_pos c]
      rw [ins_f (w := 7) (by rw [o]; decide) (by rw [o]; unfold FX12_why; simp (decide := true) only [c, this, ↓reduceIte]) (by decide)]
      exact fin_fail R S (by decide) (by decide)
    · exact absurd (by rw [eq]; unfold kn; rw [if_neg c]) (kk c)
  · rw [if_neg f]
    rw [Int32.le_iff_toInt_le] at f
    have lt : g 0 23 < 30 := by rw [Int32.lt_iff_toInt_lt, k30]; omega
    rw [if_pos lt, i4 _ (by omega)]
    obtain ⟨s1, s2, s3, s4, s5, s6, s7⟩ := S
    by_cases c : g 0 33 = 0
    · have n7 : ¬ g 0 23 = g 0 7 := fun w => f (by unfold kn; rw [if_pos c, w]; omega)
      rw [ins_16u o c n7]
      unfold vi
      rw [if_pos c]
      have R1 := ((R.rs (i := 25) (v := 0) rfl).take (v := g 0 23 + 1) (by
        have : kn (hs g 0 25 0) = kn g := by unfold kn; simp [hs_get]
        rw [this]; omega)).slot (k := (FX12_local t (g 3 i.toNatClampNeg) g).toNatClampNeg) (kd := 0) (v := g 7 (g 0 23).toNatClampNeg) (Or.inl rfl)
      rw [hs_comm _ 0 23 _ 10 _ _ (Or.inl (by decide)), hs_comm _ 0 23 _ 11 _ _ (Or.inl (by decide))] at R1
      refine fin_go R1 ?_ (by simp [hs_get]) (by simp [PLp, hs_get, s5, s6]) ?_
      · simp [EF, hs_get, s2, s3, s4, s5, s6, s7]
      · simp [hs_get, s1, e18]
    · rw [ins_16k o c]
      unfold vi
      rw [if_neg c]
      have R1 := ((R.rs (i := 25) (v := 0) rfl).take (v := g 0 23 + 1) (by
        have : kn (hs g 0 25 0) = kn g := by unfold kn; simp [hs_get]
        rw [this]; omega)).slot (k := (FX12_local t (g 3 i.toNatClampNeg) g).toNatClampNeg) (kd := 0) (v := g 36 (g 0 23).toNatClampNeg) (Or.inl rfl)
      rw [hs_comm _ 0 23 _ 10 _ _ (Or.inl (by decide)), hs_comm _ 0 23 _ 11 _ _ (Or.inl (by decide))] at R1
      refine fin_go R1 ?_ (by simp [hs_get]) (by simp [PLp, hs_get, s5, s6]) ?_
      · simp [EF, hs_get, s2, s3, s4, s5, s6, s7]
      · simp [hs_get, s1, e18]
theorem m4_lt (x : Int32) : (FX12_modulo x 4).toNatClampNeg < 4 := by
  have f : iv 0 3 (FX12_modulo x 4) := modulo_iv (m := 4) rfl
  have := iv_nat f rfl
  unfold iv at f
  omega
theorem op_17 {z : zT} {h g : ph_H} {t : Int32} (R : RC h g) (I : IM z g) (ht : iv 0 3 t) (S : S0c t h g) (e18 : h 18 t.toNatClampNeg = g 12 t.toNatClampNeg) {i : Int32} (q0 : h 10 (FX5_firstPart_t t (h 18 t.toNatClampNeg) h).toNatClampNeg = g 2 i.toNatClampNeg) (q1 : h 10 ((FX5_firstPart_t t (h 18 t.toNatClampNeg) h) + 1).toNatClampNeg = g 3 i.toNatClampNeg) (q2 : h 10 ((FX5_firstPart_t t (h 18 t.toNatClampNeg) h) + 2).toNatClampNeg = g 4 i.toNatClampNeg) (q3 : h 10 ((FX5_firstPart_t t (h 18 t.toNatClampNeg) h) + 3).toNatClampNeg = g 5 i.toNatClampNeg) (o : g 2 i.toNatClampNeg = 17) : SIM t (FX3_perform_s t h) (FX12_instruct t i g) := by
  rw [pf_17 (q0.trans o) q1 q2 q3, fmo4]
  unfold FX3_startThread_s
  by_cases c : h 19 (FX12_modulo (g 3 i.toNatClampNeg) 4).toNatClampNeg = 0
  · have m := MD0 (R.2.2.1 _ (m4_lt (g 3 i.toNatClampNeg))) c
    rw [if_pos c, ins_17 o m.1]
    obtain ⟨s1, s2, s3, s4, s5, s6, s7⟩ := S
    have R1 := ((((R.rs (i := 25) (v := 0) rfl).start (z := z) (IMs I (iv_any _) rfl) (m4_lt (g 3 i.toNatClampNeg)) c).cs (i := 16) (v := 4) (by decide)).cs (i := 17) (v := FX12_modulo (g 3 i.toNatClampNeg) 4) (by decide)).rs (i := 31) (v := 4) rfl |>.rs (i := 32) (v := FX12_modulo (g 3 i.toNatClampNeg) 4) rfl
    refine fin_go R1 ?_ (by simp [hs_get]) (by simp [PLp, hs_get, s5, s6]) ?_
    · simp [EF, hs_get, s2, s3, s4, s5, s6, s7]
    · simp [hs_get, s1, e18]
  · rw [if_neg c, ins_17f o (by
      rcases R.2.2.1 _ (m4_lt (g 3 i.toNatClampNeg)) with ⟨a, b⟩ | ⟨a, b, _⟩ | ⟨a, b, _⟩ | ⟨a, b, _⟩
      · exact absurd a c
      all_goals rw [b]; decide)]
    exact fin_fail R S (by decide) (by decide)
