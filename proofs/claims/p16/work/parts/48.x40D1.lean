/-! what value and place answer -/
abbrev okV (a b : Int32) : Prop := (a = -1 ∧ 0 ≤ b.toInt ∧ b.toInt ≤ 11) ∨ (¬ a = -1 ∧ (0 ≤ a.toInt ∧ a.toInt ≤ 3) ∧ 0 ≤ b.toInt ∧ b.toInt ≤ 3)
theorem vSlot_ok {a b : Int32} (c : okV a b) : ¬ vSlot a b < 0 ∧ iv 0 27 (vSlot a b) ∧ vSlot a b = if a = -1 then b else (12 + (4 * a)) + b := by
  have k0 : (0 : Int32).toInt = 0 := by decide
  have k12 : (12 : Int32).toInt = 12 := by decide
  have k4 : (4 : Int32).toInt = 4 := by decide
  unfold vSlot FX11_cellSlot FX11_localSlot
  rcases c with ⟨e, c⟩ | ⟨e, c, d⟩
  · rw [if_pos e, if_pos e, if_neg (fun w => (isC_iff b).mp w c)]
    exact ⟨by rw [Int32.lt_iff_toInt_lt, k0]; omega, ⟨c.1, by omega⟩, rfl⟩
  · rw [if_neg e, if_neg e, if_neg (fun w => (isT_iff a).mp w c), if_neg (by rw [Int32.lt_iff_toInt_lt, k0]; omega), if_pos (by rw [Int32.lt_iff_toInt_lt, k4]; omega), Int32.mul_comm a 4]
    have e1 : (4 * a).toInt = 4 * a.toInt := by rw [ti_mul (by rw [k4]; omega) (by rw [k4]; omega), k4]
    have e2 : (12 + 4 * a).toInt = 12 + 4 * a.toInt := by rw [ti_add (by omega) (by omega), k12, e1]
    have e3 : (12 + 4 * a + b).toInt = 12 + 4 * a.toInt + b.toInt := by rw [ti_add (by omega) (by omega), e2]
    exact ⟨by rw [Int32.lt_iff_toInt_lt, k0]; omega, ⟨by omega, by omega⟩, rfl⟩
theorem vSlot_no {a b : Int32} (c : ¬ okV a b) : vSlot a b < 0 := by
  have k0 : (0 : Int32).toInt = 0 := by decide
  have k4 : (4 : Int32).toInt = 4 := by decide
  unfold okV at c
  unfold vSlot FX11_cellSlot FX11_localSlot
  by_cases e : a = -1
  · rw [if_pos e, if_pos ((isC_iff b).mpr (fun w => c (Or.inl ⟨e, w⟩)))]
    decide
  · rw [if_neg e]
    by_cases t : 0 ≤ a.toInt ∧ a.toInt ≤ 3
    · rw [if_neg (fun w => (isT_iff a).mp w t)]
      by_cases u : b < 0
      · rw [if_pos u]
        decide
      · rw [if_neg u]
        rw [Int32.lt_iff_toInt_lt, k0] at u
        rw [if_neg (fun w => c (Or.inr ⟨e, t, by omega, by rw [Int32.lt_iff_toInt_lt, k4] at w; omega⟩))]
        decide
    · rw [if_pos ((isT_iff a).mpr t)]
      decide
/-- what value answers, and what it throws -/
theorem value_ref (a b c : Int32) (g : ph_H) : FX12_value a b c g = (if g 0 36 = 0 then (0, hs g 0 0 2) else if okV a b ∧ (c = 0 ∨ c = 1) then (if c = 0 then g 20 ((28 * g 0 42) + (if a = -1 then b else (12 + 4 * a) + b)).toNatClampNeg else g 21 ((28 * g 0 42) + (if a = -1 then b else (12 + 4 * a) + b)).toNatClampNeg, hs g 0 0 0) else (0, hs g 0 0 1)) := by
  have V58 : FX12_value_58 a b c g = if g 0 36 = 0 then (0, hs g 0 0 2) else (0, hs g 0 0 1) := by
    unfold FX12_value_58 FX12_value_59 FX12_value_83
    simp (decide := true) only [↓reduceIte]
  have V54 : FX12_value_54 a b c g = if g 0 36 = 0 then (0, hs g 0 0 2) else (if c = 0 then g 20 ((28 * g 0 42) + (if a = -1 then b else (12 + 4 * a) + b)).toNatClampNeg else g 21 ((28 * g 0 42) + (if a = -1 then b else (12 + 4 * a) + b)).toNatClampNeg, hs g 0 0 0) := by
    unfold FX12_value_54 FX12_value_59 FX12_value_83 FX12_value_119
    have e20 : ∀ i, hs g 0 0 0 20 i = g 20 i := fun i => hs_o (by simp)
    have e21 : ∀ i, hs g 0 0 0 21 i = g 21 i := fun i => hs_o (by simp)
    by_cases n : g 0 36 = 0
    · simp (decide := true) only [n, ↓reduceIte]
    · by_cases e : a = -1
      · by_cases d : c = 0 <;> simp (decide := true) only [n, e, d, e20, e21, ↓reduceIte]
      · by_cases d : c = 0 <;> simp (decide := true) only [n, e, d, e20, e21, ↓reduceIte]
  unfold FX12_value
  rw [V58, V54]
  by_cases n : g 0 36 = 0
  · rw [if_pos n, if_pos n, if_pos n]
    repeat' split
    all_goals rfl
  · rw [if_neg n, if_neg n, if_neg n]
    by_cases d : c = 0 ∨ c = 1
    · rw [if_neg (fun w => in01.mp w d)]
      by_cases e : a = -1
      · rw [if_pos e]
        by_cases t : 0 ≤ b.toInt ∧ b.toInt ≤ 11
        · rw [if_neg (fun w => isIn_iff.mp w (by rw [l0, l11]; exact t)), if_pos (show okV a b ∧ (c = 0 ∨ c = 1) from ⟨Or.inl ⟨e, t⟩, d⟩)]
        · rw [if_pos (isIn_iff.mpr (by rw [l0, l11]; exact t)), if_neg (fun w => w.1.elim (fun x => t x.2) (fun x => x.1 e))]
      · rw [if_neg e]
        by_cases t : 0 ≤ a.toInt ∧ a.toInt ≤ 3
        · rw [if_neg (fun w => isIn_iff.mp w (by rw [l0, l3]; exact t))]
          by_cases u : 0 ≤ b.toInt ∧ b.toInt ≤ 3
          · rw [if_neg (fun w => isIn_iff.mp w (by rw [l0, l3]; exact u)), if_pos (show okV a b ∧ (c = 0 ∨ c = 1) from ⟨Or.inr ⟨e, t, u⟩, d⟩)]
          · rw [if_pos (isIn_iff.mpr (by rw [l0, l3]; exact u)), if_neg (fun w => w.1.elim (fun x => e x.1) (fun x => u x.2.2))]
        · rw [if_pos (isIn_iff.mpr (by rw [l0, l3]; exact t)), if_neg (fun w => w.1.elim (fun x => e x.1) (fun x => t x.2.1))]
    · rw [if_pos (in01.mpr d), if_neg (fun w => d w.2)]
theorem value_both {z : zT} {h g : ph_H} (P : LR h g) (J : IT z g) (a b c : Int32) : Int32.ofNat (vCode a b c h) = (FX12_value a b c g).2 0 0 ∧ (vCode a b c h = 0 → vR a b c h = (FX12_value a b c g).1) := by
  have k0 : (0 : Int32).toInt = 0 := by decide
  have k1 : (1 : Int32).toInt = 1 := by decide
  have E := P.2.1.1
  rw [value_ref]
  unfold vCode vR
  rw [E]
  by_cases n : g 0 36 = 0
  · rw [if_pos n, if_pos n]
    refine ⟨?_, fun w => absurd w (by decide)⟩
    dsimp only
    rw [hs_self]
    rfl
  · rw [if_neg n, if_neg n]
    by_cases o : okV a b
    · obtain ⟨o1, o2, o3⟩ := vSlot_ok o
      rw [if_neg o1]
      by_cases d : c = 0 ∨ c = 1
      · rw [if_pos (show okV a b ∧ (c = 0 ∨ c = 1) from ⟨o, d⟩)]
        have c1 : ¬ c < 0 := by rcases d with rfl | rfl <;> decide
        have c2 : c ≤ 1 := by rcases d with rfl | rfl <;> decide
        rw [if_neg c1, if_pos c2]
        refine ⟨?_, fun _ => ?_⟩
        · dsimp only
          rw [hs_self]
          rfl
        · obtain ⟨f42, e10, G, ⟨z', I⟩, nw, K, R⟩ := sbG_at P J n
          have o2' := o2
          have sn := iv_nat o2 rfl
          unfold iv at o2'
          have f200 : iv 0 200 (vSlot a b) := ⟨o2'.1, by omega⟩
          dsimp only
          rw [← o3, ixm (c := 28) (m := 28) f42 f200 rfl, (K.1 _ (by omega)).1, (K.1 _ (by omega)).2, (R.1 _ (by omega)).1, (R.1 _ (by omega)).2]
      · rw [if_neg (show ¬ (okV a b ∧ (c = 0 ∨ c = 1)) from fun w => d w.2)]
        by_cases u : c < 0
        · rw [if_pos u]
          refine ⟨?_, fun w => absurd w (by decide)⟩
          dsimp only
          rw [hs_self]
          rfl
        · rw [if_neg u, if_neg (fun w => by
            rw [Int32.lt_iff_toInt_lt, k0] at u
            rw [Int32.le_iff_toInt_le, k1] at w
            by_cases o : c.toInt = 0
            · exact d (Or.inl (tI (o.trans k0.symm)))
            · exact d (Or.inr (tI (by rw [k1]; omega))))]
          refine ⟨?_, fun w => absurd w (by decide)⟩
          dsimp only
          rw [hs_self]
          rfl
    · rw [if_pos (vSlot_no o), if_neg (show ¬ (okV a b ∧ (c = 0 ∨ c = 1)) from fun w => o w.1)]
      refine ⟨?_, fun w => absurd w (by decide)⟩
      dsimp only
      rw [hs_self]
      rfl
theorem place_ref (a b : Int32) (g : ph_H) : FX12_place a b g = (if g 0 36 = 0 then (0, hs g 0 0 2) else if a < 0 then (0, hs g 0 0 1) else if g 24 (g 0 42).toNatClampNeg ≤ a then (0, hs g 0 0 1) else if g 25 ((12 * g 0 42) + a).toNatClampNeg = 1 then (if FX12_isIn b.toInt64 0 ((g 27 ((12 * g 0 42) + a).toNatClampNeg - 1).toInt64) = 0 then (0, hs g 0 0 1) else (g 28 (((192 * g 0 42) + (16 * a)) + b).toNatClampNeg, hs g 0 0 0)) else (0, hs g 0 0 1)) := by
  unfold FX12_place FX12_isThing FX12_place_56 FX12_place_57 FX12_place_79
  by_cases n : g 0 36 = 0
  · simp (decide := true) only [n, ↓reduceIte]
  · by_cases u : a < 0
    · simp (decide := true) only [n, u, ↓reduceIte]
    · by_cases t : g 24 (g 0 42).toNatClampNeg ≤ a
      · simp (decide := true) only [n, u, t, ↓reduceIte]
      · simp (decide := true) only [n, u, t, ↓reduceIte]
theorem place_both {z : zT} {h g : ph_H} (P : LR h g) (J : IT z g) (a b : Int32) : Int32.ofNat (pCode a b h) = (FX12_place a b g).2 0 0 ∧ (pCode a b h = 0 → pR a b h = (FX12_place a b g).1) := by
  have k0 : (0 : Int32).toInt = 0 := by decide
  have E := P.2.1.1
  have fin : ∀ x : Int32, (x = 1 ∨ x = 2) → ∀ c : Nat, Int32.ofNat c = x → Int32.ofNat c = ((0 : Int32), hs g 0 0 x).2 0 0 := fun x _ c e => by
    dsimp only
    rw [hs_self]
    exact e
  rw [place_ref]
  unfold pCode pR FX3_hasRowPlace_s
  rw [E]
  by_cases n : g 0 36 = 0
  · rw [if_pos n, if_pos n]
    exact ⟨fin 2 (Or.inr rfl) 2 rfl, fun w => absurd w (by decide)⟩
  · obtain ⟨f42, e10, G, ⟨z', I⟩, nw, K, R⟩ := sbG_at P J n
    obtain ⟨t1, t2⟩ := R.2.2.2.1
    obtain ⟨k20, k22, k24, k25, k28⟩ := K
    have n42 := iv_nat f42 rfl
    rw [if_neg n, if_neg n, k24, t1]
    by_cases u : a < 0
    · rw [if_pos u, if_pos u, if_pos rfl]
      exact ⟨fin 1 (Or.inl rfl) 1 rfl, fun w => absurd w (by decide)⟩
    · rw [if_neg u, if_neg u]
      by_cases t : G 0 18 ≤ a
      · rw [if_pos t, if_pos t, if_pos rfl]
        exact ⟨fin 1 (Or.inl rfl) 1 rfl, fun w => absurd w (by decide)⟩
      · rw [if_neg t, if_neg t]
        have tn := th_nn I
        rw [Int32.lt_iff_toInt_lt, k0] at u
        rw [Int32.le_iff_toInt_le] at t
        have fa : iv 0 200 a := ⟨by omega, by omega⟩
        have an := iv_nat fa rfl
        rw [ixm (c := 12) (m := 12) f42 fa rfl]
        obtain ⟨x1, x2, x3⟩ := k25 a.toNatClampNeg (by omega)
        obtain ⟨y1, y2, y3, y4⟩ := t2 a.toNatClampNeg (by omega)
        rw [x1, x3, y1, y2]
        by_cases o : G 16 a.toNatClampNeg = 1
        · rw [if_pos o, if_pos o]
          have fs : iv 0 16 (G 18 a.toNatClampNeg) := IMv I 18 _
          by_cases d : 0 ≤ b.toInt ∧ b.toInt < (G 18 a.toNatClampNeg).toInt
          · have b1 : ¬ b < 0 := by rw [Int32.lt_iff_toInt_lt, k0]; omega
            have b2 : ¬ G 18 a.toNatClampNeg ≤ b := by rw [Int32.le_iff_toInt_le]; omega
            rw [if_neg (fun w => (rowp_iff fs).mp w d), if_neg b1, if_neg b2, if_neg (show ¬ (1 : Int32) = 0 by decide)]
            refine ⟨by dsimp only; rw [hs_self]; rfl, fun _ => ?_⟩
            unfold iv at fs f42
            have k16 : (16 : Int32).toInt = 16 := by decide
            have k192 : (192 : Int32).toInt = 192 := by decide
            have bn : (b.toNatClampNeg : Int) = b.toInt := by
              rw [← Int32.toNat_toInt]
              omega
            have e1 : (16 * a).toInt = 16 * a.toInt := by rw [ti_mul (by rw [k16]; omega) (by rw [k16]; omega), k16]
            have e2 : (192 * g 0 42).toInt = 192 * (g 0 42).toInt := by rw [ti_mul (by rw [k192]; omega) (by rw [k192]; omega), k192]
            have e3 : (192 * g 0 42 + 16 * a).toInt = 192 * (g 0 42).toInt + 16 * a.toInt := by rw [ti_add (by omega) (by omega), e1, e2]
            have e4 : (192 * g 0 42 + 16 * a + b).toInt = 192 * (g 0 42).toInt + 16 * a.toInt + b.toInt := by rw [ti_add (by omega) (by omega), e3]
            have e5 : (16 * a + b).toInt = 16 * a.toInt + b.toInt := by rw [ti_add (by omega) (by omega), e1]
            have n4 : (192 * g 0 42 + 16 * a + b).toNatClampNeg = 192 * (g 0 42).toNatClampNeg + (16 * a.toNatClampNeg + b.toNatClampNeg) := by
              have : ((192 * g 0 42 + 16 * a + b).toNatClampNeg : Int) = (192 * g 0 42 + 16 * a + b).toInt := by
                rw [← Int32.toNat_toInt]
                omega
              omega
            have n5 : (a * 16 + b).toNatClampNeg = 16 * a.toNatClampNeg + b.toNatClampNeg := by
              rw [Int32.mul_comm a 16]
              have : ((16 * a + b).toNatClampNeg : Int) = (16 * a + b).toInt := by
                rw [← Int32.toNat_toInt]
                omega
              omega
            dsimp only
            rw [n4, n5, k28 _ (by omega)]
            exact y4 _ (by omega)
          · rw [if_pos ((rowp_iff fs).mpr d)]
            have w : (if b < 0 then (0 : Int32) else if G 18 a.toNatClampNeg ≤ b then 0 else 1) = 0 := by
              by_cases v : b < 0
              · rw [if_pos v]
              · rw [if_neg v]
                rw [Int32.lt_iff_toInt_lt, k0] at v
                rw [if_pos (by rw [Int32.le_iff_toInt_le]; omega)]
            rw [w, if_pos rfl]
            exact ⟨fin 1 (Or.inl rfl) 1 rfl, fun w => absurd w (by decide)⟩
        · rw [if_neg o, if_neg o, if_pos rfl]
          exact ⟨fin 1 (Or.inl rfl) 1 rfl, fun w => absurd w (by decide)⟩
