/-! WHAT HOLDS BETWEEN TWO CALLS: the same program told, the same record of the latest run -/
def QF (h g : ph_H) : Prop := h 35 13 = g 0 37 ∧ h 35 11 = g 0 38 ∧ h 35 14 = g 0 39 ∧ g 0 40 = (if g 0 39 = 0 then -1 else FX10_latestThread h) ∧ h 35 15 = g 24 (g 0 38).toNatClampNeg ∧ h 35 12 = g 0 60 ∧ h 35 16 = g 0 41 ∧ h 0 10 = g 0 42 ∧ (∀ s : Nat, 0 < s → (s : Int) ≤ (g 0 38).toInt → TRs h g s) ∧ (∀ i : Nat, (i : Int) < (g 0 60).toInt → h 45 i = g 37 i ∧ h 46 i = g 38 i)
def QR (h g : ph_H) : Prop := h 0 8 = g 0 36 ∧ (¬ g 0 36 = 0 → QF h g)
def LR (h g : ph_H) : Prop := PN h g ∧ QR h g
theorem EQ_sub {W W' : Nat → Nat → Bool} {h0 h : ph_H} (q : ∀ k i, W' k i = true → W k i = true) (e : EQ W h0 h) : EQ W' h0 h := fun k i w => e k i (q k i w)
theorem pN_pC (k i : Nat) (q : pN k i = true) : pC k i = true := by
  unfold pN at q
  split at q <;> first | rfl | exact q | (exact absurd q (by decide))
theorem pCR_pC (k i : Nat) (q : pCR k i = true) : pC k i = true := by
  unfold pCR at q
  split at q <;> first | rfl | exact q | (exact absurd q (by decide))
theorem pVN_pV (k i : Nat) (q : pVN k i = true) : pV k i = true := by
  unfold pVN at q
  split at q
  · unfold pV
    simp only [Bool.or_eq_true, beq_iff_eq] at q ⊢
    omega
  all_goals first | rfl | (exact absurd q (by decide))
theorem pVR_pV (k i : Nat) (q : pVR k i = true) : pV k i = true := by
  unfold pVR at q
  split at q
  · unfold pV
    simp only [Bool.or_eq_true, beq_iff_eq] at q ⊢
    omega
  all_goals first | rfl | (exact absurd q (by decide))
theorem PN_fr {h h' g g' : ph_H} (P : PN h g) (e : EQ pN h h') (d : EQ pVN g g') : PN h' g' := by
  have c1 : ∀ i, h' 2 i = h 2 i := fun i => e _ _ rfl
  have c2 : ∀ i, h' 3 i = h 3 i := fun i => e _ _ rfl
  have c3 : ∀ i, h' 4 i = h 4 i := fun i => e _ _ rfl
  have c4 : ∀ i, h' 5 i = h 5 i := fun i => e _ _ rfl
  have c5 : ∀ i, h' 6 i = h 6 i := fun i => e _ _ rfl
  have c6 : ∀ i, h' 7 i = h 7 i := fun i => e _ _ rfl
  have c7 : h' 1 6 = h 1 6 := e _ _ rfl
  have c8 : h' 1 7 = h 1 7 := e _ _ rfl
  have d1 : ∀ i, g' 1 i = g 1 i := fun i => d _ _ rfl
  have d2 : ∀ i, g' 2 i = g 2 i := fun i => d _ _ rfl
  have d3 : ∀ i, g' 3 i = g 3 i := fun i => d _ _ rfl
  have d4 : ∀ i, g' 4 i = g 4 i := fun i => d _ _ rfl
  have d5 : ∀ i, g' 5 i = g 5 i := fun i => d _ _ rfl
  have d6 : ∀ i, g' 6 i = g 6 i := fun i => d _ _ rfl
  have d7 : ∀ i, g' 7 i = g 7 i := fun i => d _ _ rfl
  have d8 : ∀ i, g' 8 i = g 8 i := fun i => d _ _ rfl
  have d9 : ∀ i, g' 9 i = g 9 i := fun i => d _ _ rfl
  have e1 : g' 0 7 = g 0 7 := d _ _ rfl
  have e2 : g' 0 9 = g 0 9 := d _ _ rfl
  simpa only [PN, c1, c2, c3, c4, c5, c6, c7, c8, d1, d2, d3, d4, d5, d6, d7, d8, d9, e1, e2] using P
theorem QR_fr {h h' g g' : ph_H} (P : QR h g) (e : EQ pCR h h') (d : EQ pVR g g') : QR h' g' := by
  have c1 : ∀ i, h' 35 i = h 35 i := fun i => e _ _ rfl
  have c2 : ∀ i, h' 36 i = h 36 i := fun i => e _ _ rfl
  have c3 : ∀ i, h' 37 i = h 37 i := fun i => e _ _ rfl
  have c4 : ∀ i, h' 38 i = h 38 i := fun i => e _ _ rfl
  have c5 : ∀ i, h' 39 i = h 39 i := fun i => e _ _ rfl
  have c6 : ∀ i, h' 40 i = h 40 i := fun i => e _ _ rfl
  have c7 : ∀ i, h' 41 i = h 41 i := fun i => e _ _ rfl
  have c8 : ∀ i, h' 42 i = h 42 i := fun i => e _ _ rfl
  have c9 : ∀ i, h' 43 i = h 43 i := fun i => e _ _ rfl
  have c10 : ∀ i, h' 44 i = h 44 i := fun i => e _ _ rfl
  have c11 : ∀ i, h' 45 i = h 45 i := fun i => e _ _ rfl
  have c12 : ∀ i, h' 46 i = h 46 i := fun i => e _ _ rfl
  have c13 : h' 0 8 = h 0 8 := e _ _ rfl
  have c14 : h' 0 10 = h 0 10 := e _ _ rfl
  have d1 : ∀ i, g' 20 i = g 20 i := fun i => d _ _ rfl
  have d2 : ∀ i, g' 21 i = g 21 i := fun i => d _ _ rfl
  have d3 : ∀ i, g' 24 i = g 24 i := fun i => d _ _ rfl
  have d4 : ∀ i, g' 29 i = g 29 i := fun i => d _ _ rfl
  have d5 : ∀ i, g' 30 i = g 30 i := fun i => d _ _ rfl
  have d6 : ∀ i, g' 31 i = g 31 i := fun i => d _ _ rfl
  have d7 : ∀ i, g' 32 i = g 32 i := fun i => d _ _ rfl
  have d8 : ∀ i, g' 33 i = g 33 i := fun i => d _ _ rfl
  have d9 : ∀ i, g' 34 i = g 34 i := fun i => d _ _ rfl
  have d10 : ∀ i, g' 35 i = g 35 i := fun i => d _ _ rfl
  have d11 : ∀ i, g' 37 i = g 37 i := fun i => d _ _ rfl
  have d12 : ∀ i, g' 38 i = g 38 i := fun i => d _ _ rfl
  have e36 : g' 0 36 = g 0 36 := d _ _ rfl
  have e37 : g' 0 37 = g 0 37 := d _ _ rfl
  have e38 : g' 0 38 = g 0 38 := d _ _ rfl
  have e39 : g' 0 39 = g 0 39 := d _ _ rfl
  have e40 : g' 0 40 = g 0 40 := d _ _ rfl
  have e41 : g' 0 41 = g 0 41 := d _ _ rfl
  have e42 : g' 0 42 = g 0 42 := d _ _ rfl
  have e60 : g' 0 60 = g 0 60 := d _ _ rfl
  simpa only [QR, QF, TRs, FX10_latestThread, c1, c2, c3, c4, c5, c6, c7, c8, c9, c10, c11, c12, c13, c14, d1, d2, d3, d4, d5, d6, d7, d8, d9, d10, d11, d12, e36, e37, e38, e39, e40, e41, e42, e60] using P
theorem LR_fr {h h' g g' : ph_H} (P : LR h g) (e : EQ pC h h') (d : EQ pV g g') : LR h' g' := ⟨PN_fr P.1 (EQ_sub pN_pC e) (EQ_sub pVN_pV d), QR_fr P.2 (EQ_sub pCR_pC e) (EQ_sub pVR_pV d)⟩
theorem EQ_low {W : Nat → Nat → Bool} {h h' : ph_H} (q : ∀ k i, 60 ≤ k → W k i = false) (e : ∀ k, k < 60 → h' k = h k) : EQ W h h' := fun k i w => by
  by_cases c : k < 60
  · rw [e k c]
  · rw [q k i (by omega)] at w
    exact absurd w (by decide)
theorem pC_60 (k i : Nat) (q : 60 ≤ k) : pC k i = false := by
  unfold pC
  split <;> first | omega | rfl
theorem LR_low {h h' g : ph_H} (P : LR h g) (e : ∀ k, k < 60 → h' k = h k) : LR h' g := LR_fr P (EQ_low pC_60 e) (EQ_r g)
/-! the calls that tell a program -/
theorem isIn_iff {x : Int32} {l u : Int64} : FX12_isIn x.toInt64 l u = 0 ↔ ¬ (l.toInt ≤ x.toInt ∧ x.toInt ≤ u.toInt) := by
  constructor
  · intro h
    have := isIn_f h
    rw [Int64.le_iff_toInt_le, Int64.le_iff_toInt_le, Int32.toInt_toInt64] at this
    exact this
  · intro h
    apply Classical.byContradiction
    intro c
    have := isIn_t c
    rw [Int64.le_iff_toInt_le, Int64.le_iff_toInt_le, Int32.toInt_toInt64] at this
    exact h this
theorem isT_iff (x : Int32) : FX11_isThread x = 0 ↔ ¬ (0 ≤ x.toInt ∧ x.toInt ≤ 3) := by
  have h0 : (0 : Int32).toInt = 0 := by decide
  have h4 : (4 : Int32).toInt = 4 := by decide
  unfold FX11_isThread
  by_cases a : x < 0
  · rw [if_pos a]
    rw [Int32.lt_iff_toInt_lt, h0] at a
    exact ⟨fun _ => by omega, fun _ => rfl⟩
  · rw [if_neg a]
    rw [Int32.lt_iff_toInt_lt, h0] at a
    by_cases b : 4 ≤ x
    · rw [if_pos b]
      rw [Int32.le_iff_toInt_le, h4] at b
      exact ⟨fun _ => by omega, fun _ => rfl⟩
    · rw [if_neg b]
      rw [Int32.le_iff_toInt_le, h4] at b
      exact ⟨fun w => absurd w (by decide), fun w => by omega⟩
theorem isC_iff (x : Int32) : FX11_isCell x = 0 ↔ ¬ (0 ≤ x.toInt ∧ x.toInt ≤ 11) := by
  have h0 : (0 : Int32).toInt = 0 := by decide
  have h4 : (12 : Int32).toInt = 12 := by decide
  unfold FX11_isCell
  by_cases a : x < 0
  · rw [if_pos a]
    rw [Int32.lt_iff_toInt_lt, h0] at a
    exact ⟨fun _ => by omega, fun _ => rfl⟩
  · rw [if_neg a]
    rw [Int32.lt_iff_toInt_lt, h0] at a
    by_cases b : 12 ≤ x
    · rw [if_pos b]
      rw [Int32.le_iff_toInt_le, h4] at b
      exact ⟨fun _ => by omega, fun _ => rfl⟩
    · rw [if_neg b]
      rw [Int32.le_iff_toInt_le, h4] at b
      exact ⟨fun w => absurd w (by decide), fun w => by omega⟩
theorem PN_00 {h g : ph_H} (P : PN h g) : PN h (hs g 0 0 0) := PN_fr P (EQ_r h) (EQ_s rfl (EQ_r g))
theorem l0 : (0 : Int64).toInt = 0 := by decide
theorem l1 : (1 : Int64).toInt = 1 := by decide
theorem l3 : (3 : Int64).toInt = 3 := by decide
theorem l11 : (11 : Int64).toInt = 11 := by decide
theorem l19 : (19 : Int64).toInt = 19 := by decide
theorem l100 : (100 : Int64).toInt = 100 := by decide
theorem PN_clear {h g : ph_H} (P : PN h g) (a : Int32) : PN (FX11_clear a h).2 (FX12_clear a g).2 := by
  unfold FX11_clear FX12_clear
  by_cases c : 0 ≤ a.toInt ∧ a.toInt ≤ 3
  · rw [if_neg (fun w => (isT_iff a).mp w c), if_neg (fun w => isIn_iff.mp w (by rw [l0, l3]; exact c))]
    obtain ⟨p1, p2, p3, p4, p5, p6⟩ := PN_00 P
    refine ⟨fun t ht => ?_, ?_, ?_, ?_, ?_, ?_⟩
    · by_cases e : t = a.toNatClampNeg
      · simp [hs_get, e]
      · simpa [hs_get, e] using p1 t ht
    · simpa [hs_get] using p2
    · simpa [hs_get] using p3
    · simpa [hs_get] using p4
    · simpa [hs_get] using p5
    · simpa [hs_get] using p6
  · rw [if_pos ((isT_iff a).mpr c), if_pos (isIn_iff.mpr (by rw [l0, l3]; exact c))]
    exact PN_00 P
theorem PN_cell {h g : ph_H} (P : PN h g) (a v : Int32) : PN (FX11_cell a v h).2 (FX12_cell a v g).2 := by
  unfold FX11_cell FX12_cell
  by_cases c : 0 ≤ a.toInt ∧ a.toInt ≤ 11
  · rw [if_neg (fun w => (isC_iff a).mp w c), if_neg (fun w => isIn_iff.mp w (by rw [l0, l11]; exact c))]
    obtain ⟨p1, p2, p3, p4, p5, p6⟩ := PN_00 P
    refine ⟨?_, ?_, fun t ht => ?_, ?_, ?_, ?_⟩
    · simpa [hs_get] using p1
    · simpa [hs_get] using p2
    · by_cases e : t = a.toNatClampNeg
      · simp [hs_get, e]
      · simpa [hs_get, e] using p3 t ht
    · simpa [hs_get] using p4
    · simpa [hs_get] using p5
    · simpa [hs_get] using p6
  · rw [if_pos ((isC_iff a).mpr c), if_pos (isIn_iff.mpr (by rw [l0, l11]; exact c))]
    exact PN_00 P
theorem PN_freely {h g : ph_H} (P : PN h g) : PN (FX11_freely h).2 (FX12_freely g).2 := by
  unfold FX11_freely FX12_freely
  obtain ⟨p1, p2, p3, p4, p5, p6⟩ := PN_00 P
  have k0 : (0 : Int32).toInt = 0 := by decide
  dsimp only
  refine ⟨?_, ?_, ?_, ?_, ⟨?_, fun k hk => ?_⟩, ?_⟩
  · simpa [hs_get] using p1
  · simpa [hs_get] using p2
  · simpa [hs_get] using p3
  · simpa [hs_get] using p4
  · simp [hs_get]
  · rw [hs_self, k0] at hk
    omega
  · simpa [hs_get] using p6
theorem PN_input {z : zT} {h g : ph_H} (P : PN h g) (J : IT z g) (a : Int32) : PN (FX11_input a h).2 (FX12_input a g).2 := by
  unfold FX11_input FX12_input
  have P' := PN_00 P
  obtain ⟨p1, p2, p3, p4, p5, p6⟩ := P
  have f : iv 0 30 (g 0 7) := ITv J 0 7
  have fn := iv_nat f rfl
  unfold iv at f
  have k30 : (30 : Int32).toInt = 30 := by decide
  have k1 : (1 : Int32).toInt = 1 := by decide
  rw [p4.1]
  by_cases c : g 0 7 = 30
  · rw [if_pos c, if_neg (by rw [c]; decide)]
    exact P'
  · have c' : ¬ (g 0 7).toInt = 30 := fun w => c (tI (w.trans k30.symm))
    have e1 : (g 0 7 + 1).toInt = (g 0 7).toInt + 1 := by rw [ti_add (by omega) (by omega), k1]
    rw [if_neg c, if_pos (by rw [Int32.lt_iff_toInt_lt, k30]; omega)]
    dsimp only
    refine ⟨?_, ?_, ?_, ⟨?_, fun k hk => ?_⟩, ?_, ?_⟩
    · simpa [hs_get] using p1
    · simpa [hs_get] using p2
    · simpa [hs_get] using p3
    · simp [hs_get]
    · rw [hs_self, e1] at hk
      by_cases e : k = (g 0 7).toNatClampNeg
      · simp [hs_get, e]
      · simpa [hs_get, e] using p4.2 k (by omega)
    · simpa [hs_get] using p5
    · simpa [hs_get] using p6
theorem PN_turn {z : zT} {h g : ph_H} (P : PN h g) (J : IT z g) (a n : Int32) : PN (FX11_turn a n h).2 (FX12_turn a n g).2 := by
  unfold FX11_turn FX12_turn
  have P' := PN_00 P
  obtain ⟨p1, p2, p3, p4, p5, p6⟩ := P
  have f : iv 0 40 (g 0 9) := ITv J 0 9
  have fn := iv_nat f rfl
  unfold iv at f
  have k40 : (40 : Int32).toInt = 40 := by decide
  have k1 : (1 : Int32).toInt = 1 := by decide
  have k100 : (100 : Int32).toInt = 100 := by decide
  rw [p5.1]
  by_cases c : 0 ≤ a.toInt ∧ a.toInt ≤ 3
  · rw [if_neg (fun w => (isT_iff a).mp w c), if_neg (fun w => isIn_iff.mp w (by rw [l0, l3]; exact c))]
    by_cases d : 1 ≤ n.toInt ∧ n.toInt ≤ 100
    · rw [if_neg (by rw [Int32.lt_iff_toInt_lt, k1]; omega), if_pos (by rw [Int32.le_iff_toInt_le, k100]; omega), if_neg (fun w => isIn_iff.mp w (by rw [l1, l100]; exact d))]
      by_cases e : g 0 9 = 40
      · rw [if_pos e, if_neg (by rw [e]; decide)]
        exact P'
      · have e' : ¬ (g 0 9).toInt = 40 := fun w => e (tI (w.trans k40.symm))
        have e1 : (g 0 9 + 1).toInt = (g 0 9).toInt + 1 := by rw [ti_add (by omega) (by omega), k1]
        rw [if_neg e, if_pos (by rw [Int32.lt_iff_toInt_lt, k40]; omega)]
        dsimp only
        refine ⟨?_, ?_, ?_, ?_, ⟨?_, fun k hk => ?_⟩, ?_⟩
        · simpa [hs_get] using p1
        · simpa [hs_get] using p2
        · simpa [hs_get] using p3
        · simpa [hs_get] using p4
        · simp [hs_get]
        · rw [hs_self, e1] at hk
          by_cases e : k = (g 0 9).toNatClampNeg
          · simp [hs_get, e]
          · simpa [hs_get, e] using p5.2 k (by omega)
        · simpa [hs_get] using p6
    · rw [if_pos (isIn_iff.mpr (by rw [l1, l100]; exact d))]
      by_cases e : n < 1
      · rw [if_pos e]
        exact P'
      · rw [if_neg e, if_neg (by
          rw [Int32.lt_iff_toInt_lt, k1] at e
          rw [Int32.le_iff_toInt_le, k100]
          omega)]
        exact P'
  · rw [if_pos ((isT_iff a).mpr c), if_pos (isIn_iff.mpr (by rw [l0, l3]; exact c))]
    exact P'
theorem PN_code {z : zT} {h g : ph_H} (P : PN h g) (J : IT z g) (a o x y w : Int32) : PN (FX11_code a o x y w h).2 (FX12_code a o x y w g).2 := by
  unfold FX11_code FX12_code
  have P' := PN_00 P
  obtain ⟨p1, p2, p3, p4, p5, p6⟩ := P
  have f : iv 0 24 (g 1 a.toNatClampNeg) := ITv J 1 _
  have k24 : (24 : Int32).toInt = 24 := by decide
  have k0 : (0 : Int32).toInt = 0 := by decide
  have k19 : (19 : Int32).toInt = 19 := by decide
  by_cases c : 0 ≤ a.toInt ∧ a.toInt ≤ 3
  · have fa : iv 0 3 a := c
    have an := iv_nat fa rfl
    rw [if_neg (fun w => (isT_iff a).mp w c), if_neg (fun w => isIn_iff.mp w (by rw [l0, l3]; exact c)), p1 a.toNatClampNeg (by omega)]
    by_cases d : 0 ≤ o.toInt ∧ o.toInt ≤ 19
    · rw [if_neg (by rw [Int32.lt_iff_toInt_lt, k0]; omega), if_pos (by rw [Int32.le_iff_toInt_le, k19]; omega), if_neg (fun w => isIn_iff.mp w (by rw [l0, l19]; exact d))]
      by_cases e : g 1 a.toNatClampNeg = 24
      · rw [if_pos e, if_neg (by rw [e]; decide)]
        exact P'
      · have e' : ¬ (g 1 a.toNatClampNeg).toInt = 24 := fun w => e (tI (w.trans k24.symm))
        unfold iv at f
        have f3 : iv 0 23 (g 1 a.toNatClampNeg) := ⟨f.1, by omega⟩
        rw [if_neg e, if_pos (by rw [Int32.lt_iff_toInt_lt, k24]; omega)]
        unfold FX5_firstPart_n
        obtain ⟨i1, i96⟩ := part_ix (j := 1) (v := 1) fa f3 (by decide) (by decide)
        obtain ⟨i2, -⟩ := part_ix (j := 2) (v := 2) fa f3 (by decide) (by decide)
        obtain ⟨i3, -⟩ := part_ix (j := 3) (v := 3) fa f3 (by decide) (by decide)
        have i0 := part_ix0 fa f3
        rw [i0, i1, i2, i3]
        generalize ((24 * a) + g 1 a.toNatClampNeg).toNatClampNeg = N at *
        dsimp only
        refine ⟨fun t ht => ?_, fun k hk => ?_, ?_, ?_, ?_, fun k => ?_⟩
        · by_cases q : t = a.toNatClampNeg
          · simp [hs_get, q]
          · simpa [hs_get, q] using p1 t ht
        · obtain ⟨u0, u1, u2, u3⟩ := p2 k hk
          by_cases q : k = N
          · subst q
            refine ⟨?_, ?_, ?_, ?_⟩
            · rw [hs_o (by simp), hs_o (by omega), hs_o (by omega), hs_o (by omega), hs_self, hs_o (by simp), hs_o (by simp), hs_o (by simp), hs_o (by simp), hs_self]
            · rw [hs_o (by simp), hs_o (by omega), hs_o (by omega), hs_self, hs_o (by simp), hs_o (by simp), hs_o (by simp), hs_self]
            · rw [hs_o (by simp), hs_o (by omega), hs_self, hs_o (by simp), hs_o (by simp), hs_self]
            · rw [hs_o (by simp), hs_self, hs_o (by simp), hs_self]
          · refine ⟨?_, ?_, ?_, ?_⟩
            · rw [hs_o (by simp), hs_o (by omega), hs_o (by omega), hs_o (by omega), hs_o (by omega), hs_o (by simp), hs_o (by simp), hs_o (by simp), hs_o (by simp), hs_o (by omega), hs_o (by simp)]
              exact u0
            · rw [hs_o (by simp), hs_o (by omega), hs_o (by omega), hs_o (by omega), hs_o (by omega), hs_o (by simp), hs_o (by simp), hs_o (by simp), hs_o (by omega), hs_o (by simp), hs_o (by simp)]
              exact u1
            · rw [hs_o (by simp), hs_o (by omega), hs_o (by omega), hs_o (by omega), hs_o (by omega), hs_o (by simp), hs_o (by simp), hs_o (by omega), hs_o (by simp), hs_o (by simp), hs_o (by simp)]
              exact u2
            · rw [hs_o (by simp), hs_o (by omega), hs_o (by omega), hs_o (by omega), hs_o (by omega), hs_o (by simp), hs_o (by omega), hs_o (by simp), hs_o (by simp), hs_o (by simp), hs_o (by simp)]
              exact u3
        · simpa [hs_get] using p3
        · simpa [hs_get] using p4
        · simpa [hs_get] using p5
        · by_cases q : k = N
          · rw [hs_o (by simp), hs_o (by simp), hs_o (by simp), hs_o (by simp), q, hs_self]
            exact d
          · rw [hs_o (by simp), hs_o (by simp), hs_o (by simp), hs_o (by simp), hs_o (by omega), hs_o (by simp)]
            exact p6 k
    · rw [if_pos (isIn_iff.mpr (by rw [l0, l19]; exact d))]
      by_cases e : o < 0
      · rw [if_pos e]
        exact P'
      · rw [if_neg e, if_neg (by
          rw [Int32.lt_iff_toInt_lt, k0] at e
          rw [Int32.le_iff_toInt_le, k19]
          omega)]
        exact P'
  · rw [if_pos ((isT_iff a).mpr c), if_pos (isIn_iff.mpr (by rw [l0, l3]; exact c))]
    exact P'
theorem LR_code {z : zT} {h g : ph_H} (P : LR h g) (J : IT z g) (a o x y w : Int32) : LR (FX11_code a o x y w h).2 (FX12_code a o x y w g).2 := ⟨PN_code P.1 J a o x y w, QR_fr P.2 (frCR_FX11_code _ _ _ _ _ _ (EQ_r h)) (frVR_FX12_code _ _ _ _ _ _ (EQ_r g))⟩
theorem LR_clear {z : zT} {h g : ph_H} (P : LR h g) (J : IT z g) (a : Int32) : LR (FX11_clear a h).2 (FX12_clear a g).2 := ⟨PN_clear P.1 a, QR_fr P.2 (frCR_FX11_clear _ _ (EQ_r h)) (frVR_FX12_clear _ _ (EQ_r g))⟩
theorem LR_cell {z : zT} {h g : ph_H} (P : LR h g) (J : IT z g) (a v : Int32) : LR (FX11_cell a v h).2 (FX12_cell a v g).2 := ⟨PN_cell P.1 a v, QR_fr P.2 (frCR_FX11_cell _ _ _ (EQ_r h)) (frVR_FX12_cell _ _ _ (EQ_r g))⟩
theorem LR_input {z : zT} {h g : ph_H} (P : LR h g) (J : IT z g) (a : Int32) : LR (FX11_input a h).2 (FX12_input a g).2 := ⟨PN_input P.1 J a, QR_fr P.2 (frCR_FX11_input _ _ (EQ_r h)) (frVR_FX12_input _ _ (EQ_r g))⟩
theorem LR_turn {z : zT} {h g : ph_H} (P : LR h g) (J : IT z g) (a n : Int32) : LR (FX11_turn a n h).2 (FX12_turn a n g).2 := ⟨PN_turn P.1 J a n, QR_fr P.2 (frCR_FX11_turn _ _ _ (EQ_r h)) (frVR_FX12_turn _ _ _ (EQ_r g))⟩
theorem LR_freely {z : zT} {h g : ph_H} (P : LR h g) (J : IT z g) : LR (FX11_freely h).2 (FX12_freely g).2 := ⟨PN_freely P.1, QR_fr P.2 (frCR_FX11_freely _ (EQ_r h)) (frVR_FX12_freely _ (EQ_r g))⟩
theorem LR_run {z : zT} {h g : ph_H} (P : LR h g) (J : IT z g) : LR (FX11_run h).2 (FX12_run g).2 := by
  refine ⟨PN_fr P.1 (frN_FX11_run _ (EQ_r h)) (frVN_FX12_run _ (EQ_r g)), ?_⟩
  obtain ⟨hE, gE, U, e1, e2⟩ := run_sim P.1 J
  have o := run_over U
  obtain ⟨R, T, H, N, F, KK⟩ := U
  obtain ⟨t1, t2, t3, t4, t5, t6⟩ := T
  have k0 : (0 : Int32).toInt = 0 := by decide
  rw [e1, e2]
  have X : (FX11_run_40 (FX10_record_s_29 hE)).2 = hs (hs (hs (hs (hs (hs (hs hE 35 13 (FX10_howOver_s hE)) 35 15 (hE 15 10)) 35 16 (hE 15 12)) 47 6 0) 0 8 1) 0 9 (hE 35 11)) 0 10 (hE 35 11) := by
    unfold FX11_run_40 FX11_run_47 FX4_forget FX10_record_s_29
    simp [hs_get]
  have Y : (FX12_run_150 gE).2 = hs (hs (hs (hs (hs (hs (hs gE 0 36 1) 0 37 (FX12_ending (hs gE 0 36 1))) 0 38 (gE 0 24)) 0 39 (gE 0 25)) 0 40 (if gE 0 25 ≤ 0 then -1 else gE 0 26)) 0 41 (gE 0 23)) 0 42 (gE 0 24) := by
    unfold FX12_run_150 FX12_run_195
    split <;> simp [hs_get]
  rw [X, Y]
  have L : FX10_latestThread (hs (hs (hs (hs (hs (hs (hs hE 35 13 (FX10_howOver_s hE)) 35 15 (hE 15 10)) 35 16 (hE 15 12)) 47 6 0) 0 8 1) 0 9 (hE 35 11)) 0 10 (hE 35 11)) = FX10_latestThread hE := by
    unfold FX10_latestThread
    simp [hs_get]
  refine ⟨by simp [hs_get], fun _ => ⟨?_, ?_, ?_, ?_, ?_, ?_, ?_, ?_, ?_, ?_⟩⟩
  · simp [hs_get, o]
  · simp [hs_get, t1]
  · simp [hs_get, t3]
  · rw [L, t6]
    simp only [hs_get]
    by_cases c : gE 0 25 = 0
    · simp (decide := true) [c]
    · have : ¬ gE 0 25 ≤ 0 := fun w => c (tI (by rw [Int32.le_iff_toInt_le, k0] at w; omega))
      simp [c, this]
  · simp only [hs_get]
    simp [KK, R.2.2.2.1.1]
  · simp [hs_get, t2]
  · simp [hs_get, R.2.2.2.2.1.1]
  · simp [hs_get, t1]
  · intro s a b
    have := t4 s a (by simpa [hs_get] using b)
    simpa [TRs, hs_get] using this
  · intro i hi
    have := t5 i (by simpa [hs_get] using hi)
    simpa [hs_get] using this
theorem isM_iff {h : ph_H} (x : Int32) : FX11_isMoment x h = 0 ↔ ¬ (0 ≤ x.toInt ∧ x.toInt ≤ (h 35 11).toInt) := by
  have h0 : (0 : Int32).toInt = 0 := by decide
  unfold FX11_isMoment
  by_cases a : x < 0
  · rw [if_pos a]
    rw [Int32.lt_iff_toInt_lt, h0] at a
    exact ⟨fun _ => by omega, fun _ => rfl⟩
  · rw [if_neg a]
    rw [Int32.lt_iff_toInt_lt, h0] at a
    by_cases b : h 35 11 < x
    · rw [if_pos b]
      rw [Int32.lt_iff_toInt_lt] at b
      exact ⟨fun _ => by omega, fun _ => rfl⟩
    · rw [if_neg b]
      rw [Int32.lt_iff_toInt_lt] at b
      exact ⟨fun w => absurd w (by decide), fun w => by omega⟩
theorem LR_00 {h g : ph_H} (P : LR h g) : LR h (hs g 0 0 0) := LR_fr P (EQ_r h) (EQ_s rfl (EQ_r g))
theorem LR_view {h g : ph_H} (P : LR h g) (n : ¬ g 0 36 = 0) (v : Int32) : LR (hs h 0 10 v) (hs g 0 42 v) := by
  obtain ⟨P, Q, q⟩ := P
  refine ⟨PN_fr P (EQ_s rfl (EQ_r h)) (EQ_s rfl (EQ_r g)), by simpa [hs_get] using Q, fun _ => ?_⟩
  obtain ⟨q1, q2, q3, q4, q5, q6, q7, q8, q9, q10⟩ := q n
  refine ⟨by simpa [hs_get] using q1, by simpa [hs_get] using q2, by simpa [hs_get] using q3, ?_, by simpa [hs_get] using q5, by simpa [hs_get] using q6, by simpa [hs_get] using q7, by simp [hs_get], fun s a b => ?_, fun i hi => ?_⟩
  · have : FX10_latestThread (hs h 0 10 v) = FX10_latestThread h := by
      unfold FX10_latestThread
      simp [hs_get]
    rw [this]
    simpa [hs_get] using q4
  · have := q9 s a (by simpa [hs_get] using b)
    simpa [TRs, hs_get] using this
  · have := q10 i (by simpa [hs_get] using hi)
    simpa [hs_get] using this
theorem to_both {h g : ph_H} (P : LR h g) (s : Int32) : (FX11_to s h).1 = (FX12_to s g).1 ∧ LR (FX11_to s h).2 (FX12_to s g).2 := by
  have Pz := LR_00 P
  have Q := P.2
  unfold FX11_to FX12_to
  rw [Q.1]
  by_cases c : g 0 36 = 0
  · rw [if_pos c, if_pos c]
    exact ⟨rfl, Pz⟩
  · rw [if_neg c, if_neg c]
    have q := Q.2 c
    have e : FX11_isMoment s h = 0 ↔ FX12_isIn s.toInt64 0 ((g 0 38).toInt64) = 0 := by
      rw [isM_iff, isIn_iff, l0, Int32.toInt_toInt64, q.2.1]
    by_cases d : FX12_isIn s.toInt64 0 ((g 0 38).toInt64) = 0
    · rw [if_pos d, if_pos (e.mpr d)]
      exact ⟨rfl, Pz⟩
    · rw [if_neg d, if_neg (fun w => d (e.mp w))]
      exact ⟨rfl, LR_view Pz (by rw [hs_o (by simp)]; exact c) s⟩
theorem back_both {h g : ph_H} (P : LR h g) (n : Int32) : (FX11_back n h).1 = (FX12_back n g).1 ∧ LR (FX11_back n h).2 (FX12_back n g).2 := by
  have Pz := LR_00 P
  have Q := P.2
  unfold FX11_back FX12_back
  rw [Q.1]
  by_cases c : g 0 36 = 0
  · rw [if_pos c, if_pos c]
    exact ⟨rfl, Pz⟩
  · rw [if_neg c, if_neg c]
    have q := Q.2 c
    rw [q.2.2.2.2.2.2.2.1]
    by_cases d : n < 0
    · rw [if_pos d, if_pos d]
      exact ⟨rfl, Pz⟩
    · rw [if_neg d, if_neg d]
      by_cases e : n ≤ g 0 42
      · rw [if_pos e, if_pos e]
        exact ⟨rfl, LR_view Pz (by rw [hs_o (by simp)]; exact c) _⟩
      · rw [if_neg e, if_neg e]
        exact ⟨rfl, Pz⟩
