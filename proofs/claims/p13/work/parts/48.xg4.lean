section MG_48_x40D1
/-! what value and place answer -/
abbrev okV (a b : Int32) : Prop := (a = -1 ∧ 0 ≤ b.toInt ∧ b.toInt ≤ 11) ∨ (¬ a = -1 ∧ (0 ≤ a.toInt ∧ a.toInt ≤ 3) ∧ 0 ≤ b.toInt ∧ b.toInt ≤ 3)
theorem vSlot_ok {a b : Int32} (c : okV a b) : ¬ vSlot a b < 0 ∧ iv 0 27 (vSlot a b) ∧ vSlot a b = if a = -1 then b else (12 + (4 * a)) + b := by
  have k0 : (0 : Int32).toInt = 0 := by decide
  have k12 : (12 : Int32).toInt = 12 := by decide
  have k4 : (4 : Int32).toInt = 4 := by decide
  unfold vSlot FX11_cellSlot FX11_localSlot
  rcases c with ⟨e, c⟩ | ⟨e, c, d⟩
  · rw [if_pos e, if_pos e, if_neg (fun w => (isC_iff b).mp w c)]
    exact ⟨by rw [Int32.lt_iff_toInt_lt, k0]; omega, ⟨c.1, by omega⟩, rfl⟩
  · rw [if_neg e, if_neg e, if_neg (fun w => (isT_iff a).mp w c), if_neg (by rw [Int32.lt_iff_toInt_lt, k0]; omega), if_pos (by rw [Int32.lt_iff_toInt_lt, k4]; omega), Int32.mul_comm a 4]
    have e1 : (4 * a).toInt = 4 * a.toInt := by rw [ti_mul (by rw [k4]; omega) (by rw [k4]; omega), k4]
    have e2 : (12 + 4 * a).toInt = 12 + 4 * a.toInt := by rw [ti_add (by omega) (by omega), k12, e1]
    have e3 : (12 + 4 * a + b).toInt = 12 + 4 * a.toInt + b.toInt := by rw [ti_add (by omega) (by omega), e2]
    exact ⟨by rw [Int32.lt_iff_toInt_lt, k0]; omega, ⟨by omega, by omega⟩, rfl⟩
theorem vSlot_no {a b : Int32} (c : ¬ okV a b) : vSlot a b < 0 := by
  have k0 : (0 : Int32).toInt = 0 := by decide
  have k4 : (4 : Int32).toInt = 4 := by decide
  unfold okV at c
  unfold vSlot FX11_cellSlot FX11_localSlot
  by_cases e : a = -1
  · rw [if_pos e, if_pos ((isC_iff b).mpr (fun w => c (Or.inl ⟨e, w⟩)))]
    decide
  · rw [if_neg e]
    by_cases t : 0 ≤ a.toInt ∧ a.toInt ≤ 3
    · rw [if_neg (fun w => (isT_iff a).mp w t)]
      by_cases u : b < 0
      · rw [if_pos u]
        decide
      · rw [if_neg u]
        rw [Int32.lt_iff_toInt_lt, k0] at u
        rw [if_neg (fun w => c (Or.inr ⟨e, t, by omega, by rw [Int32.lt_iff_toInt_lt, k4] at w; omega⟩))]
        decide
    · rw [if_pos ((isT_iff a).mpr t)]
      decide
/-- what value answers, and what it throws -/
theorem value_ref (a b c : Int32) (g : ph_H) : FX12_value a b c g = (if g 0 36 = 0 then (0, hs g 0 0 2) else if okV a b ∧ (c = 0 ∨ c = 1) then (if c = 0 then g 20 ((28 * g 0 42) + (if a = -1 then b else (12 + 4 * a) + b)).toNatClampNeg else g 21 ((28 * g 0 42) + (if a = -1 then b else (12 + 4 * a) + b)).toNatClampNeg, hs g 0 0 0) else (0, hs g 0 0 1)) := by
  have V58 : FX12_value_58 a b c g = if g 0 36 = 0 then (0, hs g 0 0 2) else (0, hs g 0 0 1) := by
    unfold FX12_value_58 FX12_value_59 FX12_value_83
    simp (decide := true) only [↓reduceIte]
  have V54 : FX12_value_54 a b c g = if g 0 36 = 0 then (0, hs g 0 0 2) else (if c = 0 then g 20 ((28 * g 0 42) + (if a = -1 then b else (12 + 4 * a) + b)).toNatClampNeg else g 21 ((28 * g 0 42) + (if a = -1 then b else (12 + 4 * a) + b)).toNatClampNeg, hs g 0 0 0) := by
    unfold FX12_value_54 FX12_value_59 FX12_value_83 FX12_value_119
    have e20 : ∀ i, hs g 0 0 0 20 i = g 20 i := fun i => hs_o (by simp)
    have e21 : ∀ i, hs g 0 0 0 21 i = g 21 i := fun i => hs_o (by simp)
    by_cases n : g 0 36 = 0
    · simp (decide := true) only [n, ↓reduceIte]
    · by_cases e : a = -1
      · by_cases d : c = 0 <;> simp (decide := true) only [n, e, d, e20, e21, ↓reduceIte]
      · by_cases d : c = 0 <;> simp (decide := true) only [n, e, d, e20, e21, ↓reduceIte]
  unfold FX12_value
  rw [V58, V54]
  by_cases n : g 0 36 = 0
  · rw [if_pos n, if_pos n, if_pos n]
    repeat' split
    all_goals rfl
  · rw [if_neg n, if_neg n, if_neg n]
    by_cases d : c = 0 ∨ c = 1
    · rw [if_neg (fun w => in01.mp w d)]
      by_cases e : a = -1
      · rw [if_pos e]
        by_cases t : 0 ≤ b.toInt ∧ b.toInt ≤ 11
        · rw [if_neg (fun w => isIn_iff.mp w (by rw [l0, l11]; exact t)), if_pos (show okV a b ∧ (c = 0 ∨ c = 1) from ⟨Or.inl ⟨e, t⟩, d⟩)]
        · rw [if_pos (isIn_iff.mpr (by rw [l0, l11]; exact t)), if_neg (fun w => w.1.elim (fun x => t x.2) (fun x => x.1 e))]
      · rw [if_neg e]
        by_cases t : 0 ≤ a.toInt ∧ a.toInt ≤ 3
        · rw [if_neg (fun w => isIn_iff.mp w (by rw [l0, l3]; exact t))]
          by_cases u : 0 ≤ b.toInt ∧ b.toInt ≤ 3
          · rw [if_neg (fun w => isIn_iff.mp w (by rw [l0, l3]; exact u)), if_pos (show okV a b ∧ (c = 0 ∨ c = 1) from ⟨Or.inr ⟨e, t, u⟩, d⟩)]
          · rw [if_pos (isIn_iff.mpr (by rw [l0, l3]; exact u)), if_neg (fun w => w.1.elim (fun x => e x.1) (fun x => u x.2.2))]
        · rw [if_pos (isIn_iff.mpr (by rw [l0, l3]; exact t)), if_neg (fun w => w.1.elim (fun x => e x.1) (fun x => t x.2.1))]
    · rw [if_pos (in01.mpr d), if_neg (fun w => d w.2)]
theorem value_both {z : zT} {h g : ph_H} (P : LR h g) (J : IT z g) (a b c : Int32) : Int32.ofNat (vCode a b c h) = (FX12_value a b c g).2 0 0 ∧ (vCode a b c h = 0 → vR a b c h = (FX12_value a b c g).1) := by
  have k0 : (0 : Int32).toInt = 0 := by decide
  have k1 : (1 : Int32).toInt = 1 := by decide
  have E := P.2.1.1
  rw [value_ref]
  unfold vCode vR
  rw [E]
  by_cases n : g 0 36 = 0
  · rw [if_pos n, if_pos n]
    refine ⟨?_, fun w => absurd w (by decide)⟩
    dsimp only
    rw [hs_self]
    rfl
  · rw [if_neg n, if_neg n]
    by_cases o : okV a b
    · obtain ⟨o1, o2, o3⟩ := vSlot_ok o
      rw [if_neg o1]
      by_cases d : c = 0 ∨ c = 1
      · rw [if_pos (show okV a b ∧ (c = 0 ∨ c = 1) from ⟨o, d⟩)]
        have c1 : ¬ c < 0 := by rcases d with rfl | rfl <;> decide
        have c2 : c ≤ 1 := by rcases d with rfl | rfl <;> decide
        rw [if_neg c1, if_pos c2]
        refine ⟨?_, fun _ => ?_⟩
        · dsimp only
          rw [hs_self]
          rfl
        · obtain ⟨f42, e10, G, ⟨z', I⟩, nw, K, R⟩ := sbG_at P J n
          have o2' := o2
          have sn := iv_nat o2 rfl
          unfold iv at o2'
          have f200 : iv 0 200 (vSlot a b) := ⟨o2'.1, by omega⟩
          dsimp only
          rw [← o3, ixm (c := 28) (m := 28) f42 f200 rfl, (K.1 _ (by omega)).1, (K.1 _ (by omega)).2, (R.1 _ (by omega)).1, (R.1 _ (by omega)).2]
      · rw [if_neg (show ¬ (okV a b ∧ (c = 0 ∨ c = 1)) from fun w => d w.2)]
        by_cases u : c < 0
        · rw [if_pos u]
          refine ⟨?_, fun w => absurd w (by decide)⟩
          dsimp only
          rw [hs_self]
          rfl
        · rw [if_neg u, if_neg (fun w => by
            rw [Int32.lt_iff_toInt_lt, k0] at u
            rw [Int32.le_iff_toInt_le, k1] at w
            by_cases o : c.toInt = 0
            · exact d (Or.inl (tI (o.trans k0.symm)))
            · exact d (Or.inr (tI (by rw [k1]; omega))))]
          refine ⟨?_, fun w => absurd w (by decide)⟩
          dsimp only
          rw [hs_self]
          rfl
    · rw [if_pos (vSlot_no o), if_neg (show ¬ (okV a b ∧ (c = 0 ∨ c = 1)) from fun w => o w.1)]
      refine ⟨?_, fun w => absurd w (by decide)⟩
      dsimp only
      rw [hs_self]
      rfl
theorem place_ref (a b : Int32) (g : ph_H) : FX12_place a b g = (if g 0 36 = 0 then (0, hs g 0 0 2) else if a < 0 then (0, hs g 0 0 1) else if g 24 (g 0 42).toNatClampNeg ≤ a then (0, hs g 0 0 1) else if g 25 ((12 * g 0 42) + a).toNatClampNeg = 1 then (if FX12_isIn b.toInt64 0 ((g 27 ((12 * g 0 42) + a).toNatClampNeg - 1).toInt64) = 0 then (0, hs g 0 0 1) else (g 28 (((192 * g 0 42) + (16 * a)) + b).toNatClampNeg, hs g 0 0 0)) else (0, hs g 0 0 1)) := by
  unfold FX12_place FX12_isThing FX12_place_56 FX12_place_57 FX12_place_79
  by_cases n : g 0 36 = 0
  · simp (decide := true) only [n, ↓reduceIte]
  · by_cases u : a < 0
    · simp (decide := true) only [n, u, ↓reduceIte]
    · by_cases t : g 24 (g 0 42).toNatClampNeg ≤ a
      · simp (decide := true) only [n, u, t, ↓reduceIte]
      · simp (decide := true) only [n, u, t, ↓reduceIte]
theorem place_both {z : zT} {h g : ph_H} (P : LR h g) (J : IT z g) (a b : Int32) : Int32.ofNat (pCode a b h) = (FX12_place a b g).2 0 0 ∧ (pCode a b h = 0 → pR a b h = (FX12_place a b g).1) := by
  have k0 : (0 : Int32).toInt = 0 := by decide
  have E := P.2.1.1
  have fin : ∀ x : Int32, (x = 1 ∨ x = 2) → ∀ c : Nat, Int32.ofNat c = x → Int32.ofNat c = ((0 : Int32), hs g 0 0 x).2 0 0 := fun x _ c e => by
    dsimp only
    rw [hs_self]
    exact e
  rw [place_ref]
  unfold pCode pR FX3_hasRowPlace_s
  rw [E]
  by_cases n : g 0 36 = 0
  · rw [if_pos n, if_pos n]
    exact ⟨fin 2 (Or.inr rfl) 2 rfl, fun w => absurd w (by decide)⟩
  · obtain ⟨f42, e10, G, ⟨z', I⟩, nw, K, R⟩ := sbG_at P J n
    obtain ⟨t1, t2⟩ := R.2.2.2.1
    obtain ⟨k20, k22, k24, k25, k28⟩ := K
    have n42 := iv_nat f42 rfl
    rw [if_neg n, if_neg n, k24, t1]
    by_cases u : a < 0
    · rw [if_pos u, if_pos u, if_pos rfl]
      exact ⟨fin 1 (Or.inl rfl) 1 rfl, fun w => absurd w (by decide)⟩
    · rw [if_neg u, if_neg u]
      by_cases t : G 0 18 ≤ a
      · rw [if_pos t, if_pos t, if_pos rfl]
        exact ⟨fin 1 (Or.inl rfl) 1 rfl, fun w => absurd w (by decide)⟩
      · rw [if_neg t, if_neg t]
        have tn := th_nn I
        rw [Int32.lt_iff_toInt_lt, k0] at u
        rw [Int32.le_iff_toInt_le] at t
        have fa : iv 0 200 a := ⟨by omega, by omega⟩
        have an := iv_nat fa rfl
        rw [ixm (c := 12) (m := 12) f42 fa rfl]
        obtain ⟨x1, x2, x3⟩ := k25 a.toNatClampNeg (by omega)
        obtain ⟨y1, y2, y3, y4⟩ := t2 a.toNatClampNeg (by omega)
        rw [x1, x3, y1, y2]
        by_cases o : G 16 a.toNatClampNeg = 1
        · rw [if_pos o, if_pos o]
          have fs : iv 0 16 (G 18 a.toNatClampNeg) := IMv I 18 _
          by_cases d : 0 ≤ b.toInt ∧ b.toInt < (G 18 a.toNatClampNeg).toInt
          · have b1 : ¬ b < 0 := by rw [Int32.lt_iff_toInt_lt, k0]; omega
            have b2 : ¬ G 18 a.toNatClampNeg ≤ b := by rw [Int32.le_iff_toInt_le]; omega
            rw [if_neg (fun w => (rowp_iff fs).mp w d), if_neg b1, if_neg b2, if_neg (show ¬ (1 : Int32) = 0 by decide)]
            refine ⟨by dsimp only; rw [hs_self]; rfl, fun _ => ?_⟩
            unfold iv at fs f42
            have k16 : (16 : Int32).toInt = 16 := by decide
            have k192 : (192 : Int32).toInt = 192 := by decide
            have bn : (b.toNatClampNeg : Int) = b.toInt := by
              rw [← Int32.toNat_toInt]
              omega
            have e1 : (16 * a).toInt = 16 * a.toInt := by rw [ti_mul (by rw [k16]; omega) (by rw [k16]; omega), k16]
            have e2 : (192 * g 0 42).toInt = 192 * (g 0 42).toInt := by rw [ti_mul (by rw [k192]; omega) (by rw [k192]; omega), k192]
            have e3 : (192 * g 0 42 + 16 * a).toInt = 192 * (g 0 42).toInt + 16 * a.toInt := by rw [ti_add (by omega) (by omega), e1, e2]
            have e4 : (192 * g 0 42 + 16 * a + b).toInt = 192 * (g 0 42).toInt + 16 * a.toInt + b.toInt := by rw [ti_add (by omega) (by omega), e3]
            have e5 : (16 * a + b).toInt = 16 * a.toInt + b.toInt := by rw [ti_add (by omega) (by omega), e1]
            have n4 : (192 * g 0 42 + 16 * a + b).toNatClampNeg = 192 * (g 0 42).toNatClampNeg + (16 * a.toNatClampNeg + b.toNatClampNeg) := by
              have : ((192 * g 0 42 + 16 * a + b).toNatClampNeg : Int) = (192 * g 0 42 + 16 * a + b).toInt := by
                rw [← Int32.toNat_toInt]
                omega
              omega
            have n5 : (a * 16 + b).toNatClampNeg = 16 * a.toNatClampNeg + b.toNatClampNeg := by
              rw [Int32.mul_comm a 16]
              have : ((16 * a + b).toNatClampNeg : Int) = (16 * a + b).toInt := by
                rw [← Int32.toNat_toInt]
                omega
              omega
            dsimp only
            rw [n4, n5, k28 _ (by omega)]
            exact y4 _ (by omega)
          · rw [if_pos ((rowp_iff fs).mpr d)]
            have w : (if b < 0 then (0 : Int32) else if G 18 a.toNatClampNeg ≤ b then 0 else 1) = 0 := by
              by_cases v : b < 0
              · rw [if_pos v]
              · rw [if_neg v]
                rw [Int32.lt_iff_toInt_lt, k0] at v
                rw [if_pos (by rw [Int32.le_iff_toInt_le]; omega)]
            rw [w, if_pos rfl]
            exact ⟨fin 1 (Or.inl rfl) 1 rfl, fun w => absurd w (by decide)⟩
        · rw [if_neg o, if_neg o, if_pos rfl]
          exact ⟨fin 1 (Or.inl rfl) 1 rfl, fun w => absurd w (by decide)⟩
end MG_48_x40D1
section MG_48_x41D2
/-! PLAY: the recorded changes on the other machine, with the program that stands now -/
theorem who21o1 {z : zT} {h g : ph_H} (R : RCo1 h g) (I : IM z g) : ∀ (q : Nat) (x : Int32), iv 0 4 x → FX3_whoGoes_oc1_21 q x h = FX12_free_12 q x g
  | 0, x, f => rfl
  | q + 1, x, f => by
    have k1 : (1 : Int32).toInt = 1 := by decide
    have k4 : (4 : Int32).toInt = 4 := by decide
    unfold iv at f
    unfold FX3_whoGoes_oc1_21 FX12_free_12
    by_cases c : 4 ≤ x
    · rw [if_pos c, if_pos c]
    · rw [if_neg c, if_neg c]
      rw [Int32.le_iff_toInt_le, k4] at c
      rw [canGo_eqo1 R I (t := x) ⟨f.1, by omega⟩, who21o1 R I q (x + 1) (by
        unfold iv
        rw [ti_add (by omega) (by omega), k1]
        omega)]
theorem who_eqo1 {z : zT} {h g : ph_H} {a : Int32} (R : RCo1 h g) (I : IM z g) (f : iv 0 3 a) : FX3_whoGoes_oc1 a h = FX12_free a g := by
  have k4 : (4 : Int32).toInt = 4 := by decide
  unfold FX3_whoGoes_oc1 FX3_whoGoes_oc1_19 FX12_free
  have f' := f
  unfold iv at f
  rw [if_neg (nn_t f.1), if_neg (by rw [Int32.le_iff_toInt_le, k4]; omega), canGo_eqo1 R I f', who21o1 R I 2000 0 ⟨by decide, by decide⟩]
def N7 (x : Int32) : Prop := ¬ x = 7
theorem N7_if {a b : Int32} {c : Prop} [Decidable c] (x : c → N7 a) (y : ¬ c → N7 b) : N7 (if c then a else b) := by
  by_cases d : c
  · rw [if_pos d]
    exact x d
  · rw [if_neg d]
    exact y d
theorem why_n7 {t o a b c n : Int32} {g : ph_H} (k : ¬ g 0 33 = 0) : N7 (FX12_why t o a b c n g) := by
  have m : iv 0 9 (FX12_modulo n 10) := modulo_iv (m := 10) rfl
  have k10 : (10 : Int32).toInt = 10 := by decide
  have k7 : (7 : Int32).toInt = 7 := by decide
  have z : ¬ 10 + FX12_modulo n 10 = 7 := fun w => by
    unfold iv at m
    have e : (10 + FX12_modulo n 10).toInt = 10 + (FX12_modulo n 10).toInt := by rw [ti_add (by omega) (by omega), k10]
    rw [w, k7] at e
    omega
  unfold FX12_why FX12_why_99 FX12_why_169 FX12_why_196 FX12_why_266
  repeat' (with_reducible refine N7_if (fun q => ?_) (fun q => ?_))
  all_goals first | (show ¬ _ = _; decide) | exact z | contradiction
theorem ins102_25 {t i a b c s0 : Int32} (G : ph_H) : FX12_instruct_102 t i a b c s0 G 0 25 = s0 := by
  have B : ∀ x6 y (K : ph_H), FX12_instruct_177 t i a b c x6 y K 0 25 = K 0 25 := fun x6 y K => by
    unfold FX12_instruct_177 FX12_instruct_195 FX12_instruct_204 FX12_instruct_251
    have w := frW_FX12_work (h0 := K) t (K 2 i.toNatClampNeg) a b c K (EQ_r K) 0 25 rfl
    have p := frX_FX12_workPlain (h0 := FX12_work t (K 2 i.toNatClampNeg) a b c K) t i a b _ (EQ_r _) 0 25 rfl
    rw [w] at p
    split
    · exact p
    · split
      · rw [goTo_o _ _ _ _ _ (by simp)]
        exact p
      · split <;> (rw [goTo_o _ _ _ _ _ (by simp)]; exact p)
  unfold FX12_instruct_102 FX12_instruct_144 FX12_instruct_148 FX12_instruct_149
  split
  · repeat' split
    all_goals rw [B, hs_self]
  · rw [hs_self]
theorem ins_25 {t i : Int32} {g : ph_H} (k : ¬ g 0 33 = 0) : ¬ FX12_instruct t i g 0 25 = 7 := by
  unfold FX12_instruct FX12_instruct_98
  split
  · split
    · rw [ins102_25, hs_self]
      exact why_n7 k
    · rw [ins102_25]
      decide
  · rw [ins102_25, hs_self]
    exact why_n7 k
theorem step_n7 {t : Int32} {g : ph_H} (k : ¬ g 0 33 = 0) (z : g 0 25 = 0) : ¬ FX12_step t g 0 25 = 7 := by
  have A : ∀ (i : Int32) (G : ph_H), ¬ G 0 33 = 0 → ¬ FX12_step_148 t i G 0 25 = 7 := fun i G e => by
    unfold FX12_step_148 FX12_step_154
    rw [hs_o (by simp), hs_o (by simp)]
    exact ins_25 e
  have G0 : ∀ (G : ph_H), G 0 33 = g 0 33 → ¬ G 0 33 = 0 := fun G e => by rw [e]; exact k
  unfold FX12_step
  by_cases c : g 15 t.toNatClampNeg < 0
  · rw [if_pos c]
    by_cases d : g 2 ((24 * t) + g 12 t.toNatClampNeg).toNatClampNeg = 16
    · rw [if_pos d, if_neg k]
      by_cases e : g 0 23 = g 0 34
      · rw [if_pos e, hs_o (by simp), hs_o (by simp), hs_o (by simp), hs_o (by simp), hs_o (by simp), hs_o (by simp), hs_o (by simp), z]
        decide
      · rw [if_neg e]
        exact A _ _ (by rw [hs_o (by simp), hs_o (by simp), hs_o (by simp), hs_o (by simp), hs_o (by simp), hs_o (by simp)]; exact k)
    · rw [if_neg d]
      exact A _ _ (by rw [hs_o (by simp), hs_o (by simp), hs_o (by simp), hs_o (by simp), hs_o (by simp), hs_o (by simp)]; exact k)
  · rw [if_neg c]
    unfold FX12_step_110 FX12_step_154
    rw [hs_o (by simp), hs_o (by simp), goTo_o _ _ _ _ _ (by simp)]
    simp [hs_get, z]
theorem free_no {g : ph_H} {a : Int32} (n : FX12_free a g < 0) (ha : iv 0 3 a) : FX12_free 0 g < 0 := by
  unfold FX12_free at *
  by_cases c : FX12_canGo a g = 0
  · rw [if_pos c] at n
    by_cases d : FX12_canGo 0 g = 0
    · rw [if_pos d]
      exact n
    · exfalso
      have : FX12_free_12 2000 0 g = 0 := by
        show FX12_free_12 (1999 + 1) 0 g = 0
        unfold FX12_free_12
        rw [if_neg (by decide), if_neg d]
      rw [this] at n
      exact absurd n (by decide)
  · rw [if_neg c] at n
    rw [Int32.lt_iff_toInt_lt] at n
    have k0 : (0 : Int32).toInt = 0 := by decide
    unfold iv at ha
    omega
end MG_48_x41D2
section MG_48_x42D3
/-! PLAY: step by step -/
def REC (n : Int32) (h g : ph_H) : Prop := (∀ i : Nat, (i : Int) < n.toInt → h 45 i = g 37 i ∧ h 46 i = g 38 i ∧ 0 ≤ (g 37 i).toInt ∧ iv 0 3 (g 38 i)) ∧ (∀ i j : Nat, i < j → (j : Int) < n.toInt → (g 37 i).toInt < (g 37 j).toInt)
def tdT (g : ph_H) (p : Nat) : Int32 := if p = 0 then 0 else g 38 (p - 1)
theorem td5 {g : ph_H} {n s1 : Int32} {p : Nat} (fn : iv 0 300 n) (Ca : ∀ i : Nat, i < p → (g 37 i).toInt < s1.toInt) (Cb : ∀ i : Nat, p ≤ i → (i : Int) < n.toInt → s1.toInt ≤ (g 37 i).toInt) (pn : (p : Int) ≤ n.toInt) : ∀ (q : Nat) (y x : Int32), 0 ≤ x.toInt → x.toInt ≤ n.toInt → n.toInt - x.toInt < (q : Int) → FX12_toldThread_5 q n s1 y x g = if (p : Int) ≤ x.toInt then y else g 38 (p - 1)
  | 0, y, x, x0, x1, m => by omega
  | q + 1, y, x, x0, x1, m => by
    have k1 : (1 : Int32).toInt = 1 := by decide
    unfold iv at fn
    unfold FX12_toldThread_5 FX12_toldThread_33
    by_cases c : n ≤ x
    · rw [if_pos c]
      rw [Int32.le_iff_toInt_le] at c
      rw [if_pos (by omega)]
    · rw [if_neg c]
      rw [Int32.le_iff_toInt_le] at c
      have xn : (x.toNatClampNeg : Int) = x.toInt := by
        rw [← Int32.toNat_toInt]
        omega
      have e1 : (x + 1).toInt = x.toInt + 1 := by rw [ti_add (by omega) (by omega), k1]
      rw [td5 fn Ca Cb pn q _ (x + 1) (by omega) (by omega) (by omega), td5 fn Ca Cb pn q _ (x + 1) (by omega) (by omega) (by omega), e1]
      by_cases d : (p : Int) ≤ x.toInt
      · rw [if_pos (by rw [Int32.le_iff_toInt_le]; exact Cb x.toNatClampNeg (by omega) (by omega)), if_pos d, if_pos (by omega)]
      · rw [if_neg (by rw [Int32.le_iff_toInt_le]; have := Ca x.toNatClampNeg (by omega); omega), if_neg d]
        by_cases e : (p : Int) ≤ x.toInt + 1
        · rw [if_pos e]
          have : x.toNatClampNeg = p - 1 := by omega
          rw [this]
        · rw [if_neg e]
theorem td_eq {g : ph_H} {n s1 : Int32} {p : Nat} (fn : iv 0 300 n) (Ca : ∀ i : Nat, i < p → (g 37 i).toInt < s1.toInt) (Cb : ∀ i : Nat, p ≤ i → (i : Int) < n.toInt → s1.toInt ≤ (g 37 i).toInt) (pn : (p : Int) ≤ n.toInt) : FX12_toldThread n s1 g = tdT g p := by
  have k0 : (0 : Int32).toInt = 0 := by decide
  unfold FX12_toldThread tdT
  have f := fn
  unfold iv at f
  rw [td5 fn Ca Cb pn 2000 0 0 (by rw [k0]; exact Int.le_refl _) (by rw [k0]; exact f.1) (by rw [k0]; omega), k0]
  by_cases c : p = 0
  · rw [if_pos c, if_pos (by omega)]
  · rw [if_neg c, if_neg (by omega)]
def SAMEo (c r : Int32 × ph_H) : Prop := c.1 = r.2 0 66 ∧ c.2 0 11 = r.1
def PS (z : zT) (n x4 th p : Int32) (h g : ph_H) : Prop := RP z g ∧ RCo1 h g ∧ g 0 25 = 0 ∧ g 0 35 = 0 ∧ ¬ g 0 33 = 0 ∧ g 0 66 = -1 ∧ h 0 11 = g 0 24 ∧ th = g 0 26 ∧ REC n h g ∧ (∀ i : Nat, (i : Int) < n.toInt → (g 37 i).toInt ≤ x4.toInt) ∧ (0 ≤ p.toInt ∧ p.toInt ≤ n.toInt) ∧ (∀ i : Nat, (i : Int) < p.toInt → (g 37 i).toInt < (g 0 24).toInt) ∧ (∀ i : Nat, p.toInt ≤ i → (i : Int) < n.toInt → (g 0 24).toInt ≤ (g 37 i).toInt) ∧ ((g 0 24).toInt ≤ x4.toInt → th = tdT g p.toNatClampNeg)
section
variable {z : zT} {n x4 x3 t p : Int32} {h g : ph_H} {L37 : Int32 → Int32 → Int32 → Int32 → ph_H → Int32 × ph_H} {L83 : Int32 → Int32 → ph_H → Int32 × ph_H}
theorem RP_IM (I : RP z g) : ∃ z', IM z' g := by
  obtain ⟨z', _, i, _⟩ := I
  exact ⟨z', i⟩
theorem pl_go (F : ∀ g', 0 ≤ g' 0 66 → L83 n x3 g' = (g' 0 24, hs g' 0 33 0)) (IH : ∀ h' g', PS z n x4 t p h' g' → (g' 0 24).toInt = (g 0 24).toInt + 1 → SAMEo (L37 n t p x4 h') (L83 n x3 g'))
  (I : RP z g) (R : RCo1 h g) (z25 : g 0 25 = 0) (z35 : g 0 35 = 0) (n33 : ¬ g 0 33 = 0) (e11 : h 0 11 = g 0 24) (rec : REC n h g) (X : ∀ i : Nat, (i : Int) < n.toInt → (g 37 i).toInt ≤ x4.toInt) (fp : 0 ≤ p.toInt ∧ p.toInt ≤ n.toInt) (Ca : ∀ i : Nat, (i : Int) < p.toInt → (g 37 i).toInt ≤ (g 0 24).toInt) (Cb : ∀ i : Nat, p.toInt ≤ i → (i : Int) < n.toInt → (g 0 24).toInt < (g 37 i).toInt) (Cd : (g 0 24).toInt ≤ x4.toInt → t = tdT g p.toNatClampNeg) (ht : iv 0 3 t) (c : ¬ FX12_canGo t g = 0) (ns : iv 0 299 (g 0 24)) : SAMEo (FX11_goByRecordc1_120 L37 n t p x4 (FX3_go_oc1 t h).1 (FX3_go_oc1 t h).2) (FX12_play_215 L83 n x3 (FX12_step t g)) := by
  have k0 : (0 : Int32).toInt = 0 := by decide
  have k1 : (1 : Int32).toInt = 1 := by decide
  obtain ⟨z', i⟩ := RP_IM I
  have fr := frP_FX3_go_oc1 (h0 := h) t h (EQ_r h)
  have f11 : (FX3_go_oc1 t h).2 0 11 = h 0 11 := frH_FX3_go_oc1 (h0 := h) t h (EQ_r h) 0 11 rfl
  have fs := frS_FX12_step (h0 := g) t g (EQ_r g)
  unfold FX11_goByRecordc1_120 FX12_play_215 FX12_play_239 FX12_play_242
  by_cases a : asksU t g
  · obtain ⟨q1, q2⟩ := go_askso1 R i ht c a
    rw [q1, if_neg (by decide), if_pos rfl, q2, hs_self, if_neg (by decide), F _ (by rw [hs_self]; decide)]
    refine ⟨?_, ?_⟩
    · dsimp only
      rw [hs_o (by simp), hs_self]
    · dsimp only
      rw [f11, e11]
      simp [hs_get]
  · obtain ⟨q1, q2, q3, q4⟩ := go_eqo1 R i ht c z25 a
    obtain ⟨s24, s26, -, -, s35⟩ := step_rec a
    rw [q1, s35, z35, if_pos rfl]
    have nn : 0 ≤ (FX12_step t g 0 25).toInt := q4.1
    have n7 := step_n7 (t := t) n33 z25
    have nm : ¬ FX12_step t g 0 25 = -1 := fun w => by
      rw [w] at nn
      exact absurd nn (by decide)
    rw [if_neg nm, if_neg n7, f11, e11]
    unfold iv at ns
    have es : (g 0 24 + 1).toInt = (g 0 24).toInt + 1 := by rw [ti_add (by omega) (by omega), k1]
    by_cases e : FX12_step t g 0 25 = 0
    · rw [if_pos e, if_pos (by rw [e]; decide)]
      have v24 : hs (FX12_step t g) 0 66 (-1) 0 24 = g 0 24 + 1 := by rw [hs_o (by simp), s24]
      refine IH _ _ ?_ (by rw [v24, es])
      obtain ⟨_, c12, _⟩ := cg_true c
      have fn : iv 0 23 (g 12 t.toNatClampNeg) := iv_nel (y := 24) (show iv 0 24 _ from IMv i 12 _) c12 rfl
      have ps := (P_step I ht fn ⟨ns.1, ns.2⟩).2.1
      have r37 : ∀ j, hs (FX12_step t g) 0 66 (-1) 37 j = g 37 j := fun j => by rw [hs_o (by simp), fs 37 j rfl]
      have r38 : ∀ j, hs (FX12_step t g) 0 66 (-1) 38 j = g 38 j := fun j => by rw [hs_o (by simp), fs 38 j rfl]
      refine ⟨RPa 0 66 ps rfl rfl, ?_, by rw [hs_o (by simp)]; exact e, by rw [hs_o (by simp), s35]; exact z35, by rw [hs_o (by simp), fs 0 33 rfl]; exact n33, hs_self _ _ _ _, by rw [hs_self, v24], by rw [hs_o (by simp), s26], ⟨fun j hj => ?_, fun j l hj hl => ?_⟩, fun j hj => by rw [r37]; exact X j hj, fp, fun j hj => ?_, fun j p1 p2 => ?_, fun w => ?_⟩
      · refine q2.congro1 (fun k j q => hs_o (fun w => ?_)) (fun k j q => hs_o (fun w => ?_)) (fun _ j => hs_o (by simp))
        · rw [w.1] at q
          exact absurd q (by simp [cMo1])
        · rw [w.1, w.2] at q
          exact absurd q (by decide)
      · rw [r37, r38, hs_o (by simp), hs_o (by simp), fr 45 j rfl, fr 46 j rfl]
        exact rec.1 j hj
      · rw [r37, r37]
        exact rec.2 j l hj hl
      · rw [r37, v24, es]
        have := Ca j hj
        omega
      · rw [r37, v24, es]
        have := Cb j p1 p2
        omega
      · rw [v24, es] at w
        have := Cd (by omega)
        unfold tdT at this ⊢
        rw [r38]
        exact this
    · have ne : ¬ FX12_step t g 0 25 ≤ 0 := fun w => e (tI (by rw [Int32.le_iff_toInt_le, k0] at w; omega))
      rw [if_neg e, if_neg ne, F _ (by rw [hs_self]; decide)]
      refine ⟨?_, ?_⟩
      · dsimp only
        rw [hs_o (by simp), hs_self]
      · dsimp only
        rw [hs_self, hs_o (by simp), s24]
end
theorem pl_loop {z : zT} {n x4 x3 : Int32} (fn : iv 0 300 n) (e3 : x3.toInt = x4.toInt + 1) (f4 : -1 ≤ x4.toInt ∧ x4.toInt ≤ 299) : ∀ (q : Nat) (th p : Int32) (h g : ph_H), PS z n x4 th p h g → 302 - (g 0 24).toInt < (q : Int) → SAMEo (FX11_goByRecordc1_37 q n th p x4 h) (FX12_play_83 q n x3 g)
  | 0, th, p, h, g, S, m => by
    have f : iv 0 300 (g 0 24) := RPv S.1 0 24
    unfold iv at f
    omega
  | q + 1, th, p, h, g, S, m => by
    have k0 : (0 : Int32).toInt = 0 := by decide
    have k1 : (1 : Int32).toInt = 1 := by decide
    have k300 : (300 : Int32).toInt = 300 := by decide
    obtain ⟨I, R, z25, z35, n33, e66, e11, eth, rec, X, fp, D1, D2, D3⟩ := S
    have f24 : iv 0 300 (g 0 24) := RPv I 0 24
    have f26 : iv 0 3 (g 0 26) := RPv I 0 26
    obtain ⟨z', i⟩ := RP_IM I
    unfold iv at f24 fn
    have F : ∀ g', 0 ≤ g' 0 66 → FX12_play_83 q n x3 g' = (g' 0 24, hs g' 0 33 0) := fun g' w => by
      obtain ⟨q1, rfl⟩ : ∃ q1, q = q1 + 1 := ⟨q - 1, by omega⟩
      unfold FX12_play_83
      rw [if_pos w]
    have FIN : ∀ (v : Int32) (hh : ph_H), 0 ≤ v → hh 0 11 = g 0 24 → SAMEo (v, hh) (FX12_play_83 q n x3 (hs g 0 66 v)) := fun v hh w e => by
      rw [F _ (by rw [hs_self]; exact w)]
      refine ⟨?_, ?_⟩
      · dsimp only
        rw [hs_o (by simp), hs_self]
      · dsimp only
        rw [hs_o (by simp)]
        exact e
    have who0 := who_eqo1 R i (a := 0) ⟨by decide, by decide⟩
    unfold FX11_goByRecordc1_37 FX12_play_83
    rw [if_neg (show ¬ 0 ≤ g 0 66 by rw [e66]; decide), e11]
    by_cases s3 : 300 ≤ g 0 24
    · rw [if_pos s3, who0]
      rw [Int32.le_iff_toInt_le, k300] at s3
      have e300 : g 0 24 = 300 := tI (by omega)
      rw [if_pos (show x3 ≤ g 0 24 by rw [Int32.le_iff_toInt_le]; omega)]
      unfold FX12_play_103 FX12_play_132 FX12_play_166 FX12_play_203 FX12_play_242
      rw [if_pos (show (0 : Int32) = 0 from rfl), if_pos (show (0 : Int32) = 0 from rfl)]
      by_cases c : FX12_free (g 0 26) g < 0
      · have c0 := free_no c f26
        rw [if_neg (show ¬ 0 ≤ FX12_free 0 g from fun w => by rw [Int32.le_iff_toInt_le] at w; rw [Int32.lt_iff_toInt_lt] at c0; omega), if_neg (show ¬ 0 ≤ FX12_free (g 0 26) g from fun w => by rw [Int32.le_iff_toInt_le] at w; rw [Int32.lt_iff_toInt_lt] at c; omega)]
        exact FIN 0 h (by decide) e11
      · rw [if_pos (show 0 ≤ FX12_free (g 0 26) g by rw [Int32.le_iff_toInt_le]; rw [Int32.lt_iff_toInt_lt] at c; omega), if_pos e300]
        by_cases d : FX12_free 0 g < 0
        · rw [if_pos d, if_neg (show ¬ 0 ≤ FX12_free 0 g from fun w => by rw [Int32.le_iff_toInt_le] at w; rw [Int32.lt_iff_toInt_lt] at d; omega)]
          exact FIN 0 h (by decide) e11
        · rw [if_neg d, if_pos (show 0 ≤ FX12_free 0 g by rw [Int32.le_iff_toInt_le]; rw [Int32.lt_iff_toInt_lt] at d; omega)]
          exact FIN 4 h (by decide) e11
    · rw [if_neg s3]
      rw [Int32.le_iff_toInt_le, k300] at s3
      have ns : iv 0 299 (g 0 24) := ⟨f24.1, by omega⟩
      have ne300 : ¬ g 0 24 = 300 := fun w => by rw [w, k300] at s3; omega
      have MID : ∀ (t p' : Int32), iv 0 3 t → (0 ≤ p'.toInt ∧ p'.toInt ≤ n.toInt) → (∀ i : Nat, (i : Int) < p'.toInt → (g 37 i).toInt ≤ (g 0 24).toInt) → (∀ i : Nat, p'.toInt ≤ i → (i : Int) < n.toInt → (g 0 24).toInt < (g 37 i).toInt) → ((g 0 24).toInt ≤ x4.toInt → t = tdT g p'.toNatClampNeg) → (x4.toInt < (g 0 24).toInt → t = g 0 26) → SAMEo (FX11_goByRecordc1_88 (FX11_goByRecordc1_37 q) n t p' x4 h) (if x3 ≤ g 0 24 then FX12_play_103 (FX12_play_83 q) n x3 0 g else FX12_play_103 (FX12_play_83 q) n x3 1 g) := fun t p' ft fp' Ca Cb Cd Ce => by
        have GO : ∀ u, iv 0 3 u → ¬ FX12_canGo u g = 0 → ((g 0 24).toInt ≤ x4.toInt → u = tdT g p'.toNatClampNeg) → SAMEo (FX11_goByRecordc1_120 (FX11_goByRecordc1_37 q) n u p' x4 (FX3_go_oc1 u h).1 (FX3_go_oc1 u h).2) (FX12_play_215 (FX12_play_83 q) n x3 (FX12_step u g)) := fun u fu cu du => pl_go F (fun h' g' S' e => pl_loop (show iv 0 300 n from fn) e3 f4 q u p' h' g' S' (by omega)) I R z25 z35 n33 e11 rec X fp' Ca Cb du fu cu ns
        unfold FX11_goByRecordc1_88 FX11_goByRecordc1_106
        rw [e11]
        by_cases told : g 0 24 ≤ x4
        · rw [if_pos told]
          rw [Int32.le_iff_toInt_le] at told
          have pn : (p'.toNatClampNeg : Int) = p'.toInt := by
            rw [← Int32.toNat_toInt]
            omega
          have es : (g 0 24 + 1).toInt = (g 0 24).toInt + 1 := by rw [ti_add (by omega) (by omega), k1]
          have td : FX12_toldThread n (g 0 24 + 1) g = t := by
            rw [td_eq (p := p'.toNatClampNeg) (show iv 0 300 n from fn) (fun i hi => by rw [es]; have := Ca i (by omega); omega) (fun i h1 h2 => by rw [es]; have := Cb i (by omega) h2; omega) (by omega)]
            exact (Cd told).symm
          rw [if_neg (show ¬ x3 ≤ g 0 24 by rw [Int32.le_iff_toInt_le]; omega)]
          unfold FX12_play_103 FX12_play_132 FX12_play_166 FX12_play_242
          have ft' := ft
          unfold iv at ft'
          have tp : 0 ≤ t := by rw [Int32.le_iff_toInt_le, k0]; exact ft'.1
          rw [if_neg (show ¬ (1 : Int32) = 0 by decide), if_neg (show ¬ (1 : Int32) = 0 by decide), td, if_neg (show ¬ 300 ≤ g 0 24 by rw [Int32.le_iff_toInt_le, k300]; omega), if_pos tp]
          by_cases c : FX12_canGo t g = 0
          · rw [if_pos c, go_noo1 R i ft c]
            unfold FX11_goByRecordc1_120
            rw [if_pos rfl]
            exact FIN 1 h (by decide) e11
          · rw [if_neg c, if_pos tp, if_neg ne300]
            exact GO t ft c Cd
        · rw [if_neg told]
          rw [Int32.le_iff_toInt_le] at told
          rw [if_pos (show x3 ≤ g 0 24 by rw [Int32.le_iff_toInt_le]; omega), Ce (by omega), who_eqo1 R i f26]
          unfold FX12_play_103 FX12_play_132 FX12_play_166 FX12_play_242
          rw [if_pos (show (0 : Int32) = 0 from rfl), if_pos (show (0 : Int32) = 0 from rfl)]
          by_cases c : FX12_free (g 0 26) g < 0
          · have nc : ¬ 0 ≤ FX12_free (g 0 26) g := fun w => by
              rw [Int32.le_iff_toInt_le] at w
              rw [Int32.lt_iff_toInt_lt] at c
              omega
            rw [if_neg nc, if_neg nc]
            exact FIN 0 h (by decide) e11
          · have nc : 0 ≤ FX12_free (g 0 26) g := by
              rw [Int32.le_iff_toInt_le]
              rw [Int32.lt_iff_toInt_lt] at c
              omega
            obtain ⟨c1, c2⟩ := free_in f26 c
            rw [if_pos nc, if_pos nc, if_neg ne300]
            exact GO _ c1 c2 (fun w => by omega)
      have fth : iv 0 3 th := by rw [eth]; exact f26
      by_cases a : n ≤ p
      · rw [if_pos a]
        rw [Int32.le_iff_toInt_le] at a
        exact MID th p fth fp (fun j hj => by have := D1 j hj; omega) (fun j h1 h2 => by omega) D3 (fun _ => eth)
      · rw [if_neg a]
        rw [Int32.le_iff_toInt_le] at a
        rw [if_neg (show ¬ 300 ≤ p by rw [Int32.le_iff_toInt_le, k300]; omega)]
        have pn : (p.toNatClampNeg : Int) = p.toInt := by
          rw [← Int32.toNat_toInt]
          omega
        obtain ⟨r1, r2, r3, r4⟩ := rec.1 p.toNatClampNeg (by omega)
        have D2p := D2 p.toNatClampNeg (by omega) (by omega)
        rw [r1, r2]
        by_cases b : g 37 p.toNatClampNeg = g 0 24
        · rw [if_pos b]
          have ep : (p + 1).toInt = p.toInt + 1 := by rw [ti_add (by omega) (by omega), k1]
          have epn : (p + 1).toNatClampNeg = p.toNatClampNeg + 1 := by
            have : ((p + 1).toNatClampNeg : Int) = p.toInt + 1 := by
              rw [← Int32.toNat_toInt]
              omega
            omega
          refine MID _ (p + 1) r4 (by omega) (fun j hj => ?_) (fun j h1 h2 => ?_) (fun _ => ?_) (fun w => ?_)
          · by_cases d : j = p.toNatClampNeg
            · rw [d, b]
              exact Int.le_refl _
            · have := D1 j (by omega)
              omega
          · have := rec.2 p.toNatClampNeg j (by omega) h2
            rw [b] at this
            exact this
          · unfold tdT
            rw [epn, if_neg (by omega), Nat.add_sub_cancel]
          · have := X p.toNatClampNeg (by omega)
            rw [b] at this
            omega
        · rw [if_neg b]
          have b' : ¬ (g 37 p.toNatClampNeg).toInt = (g 0 24).toInt := fun w => b (tI w)
          refine MID th p fth fp (fun j hj => by have := D1 j hj; omega) (fun j h1 h2 => ?_) D3 (fun _ => eth)
          by_cases d : j = p.toNatClampNeg
          · rw [d]
            omega
          · have := rec.2 p.toNatClampNeg j (by omega) h2
            omega
end MG_48_x42D3
section MG_48_x43D4
/-! what play and ended answer -/
theorem play_run {z : zT} {h g : ph_H} {a b : Int32} (P : LR h g) (J : IT z g) (n : ¬ g 0 36 = 0) (fa : 0 ≤ a.toInt ∧ a.toInt ≤ (g 0 60).toInt) (fb : 0 ≤ b.toInt ∧ b.toInt ≤ (g 0 41).toInt) : SAMEo (FX11_goByRecordc1 a (FX3_begin_on b h)) (FX12_play_59 a (FX12_begin (hs (hs (hs g 0 0 0) 0 33 1) 0 34 b))) := by
  have k0 : (0 : Int32).toInt = 0 := by decide
  have k1 : (1 : Int32).toInt = 1 := by decide
  have km : (-1 : Int32).toInt = -1 := by decide
  have k300 : (300 : Int32).toInt = 300 := by decide
  have g60 : iv 0 300 (g 0 60) := ITv J 0 60
  have g41 : iv 0 30 (g 0 41) := ITv J 0 41
  have g38 : iv 0 300 (g 0 38) := ITv J 0 38
  unfold iv at g60 g41 g38
  have f0 : iv 0 300 a := ⟨fa.1, by omega⟩
  have f1 : iv 0 30 b := ⟨fb.1, by omega⟩
  obtain ⟨PA, PB, PC, ⟨PD, PE⟩⟩ := P
  obtain ⟨⟨d1, d2, d3⟩, d4, d5⟩ := PD n
  obtain ⟨q1, q2, q3, q4, q5, q6, q7, q8, q9, q10⟩ := PB.2 n
  obtain ⟨w1, w2, w3, w4, w5, w6⟩ := PA
  have G0 : ∀ k i, ¬ k = 0 → (hs (hs (hs g 0 0 0) 0 33 1) 0 34 b) k i = g k i := fun k i q => by rw [hs_o (fun w => q w.1), hs_o (fun w => q w.1), hs_o (fun w => q w.1)]
  have g33 : (hs (hs (hs g 0 0 0) 0 33 1) 0 34 b) 0 33 = 1 := by rw [hs_o (by simp), hs_self]
  have n33 : ¬ (hs (hs (hs g 0 0 0) 0 33 1) 0 34 b) 0 33 = 0 := by rw [g33]; decide
  have kn0 : kn (hs (hs (hs g 0 0 0) 0 33 1) 0 34 b) = b := by
    unfold kn
    rw [if_neg n33, hs_self]
  have RB : RCo1 (FX3_begin_on b h) (FX12_begin (hs (hs (hs g 0 0 0) 0 33 1) 0 34 b)) := begin_RCo1 (h := h) (g := (hs (hs (hs g 0 0 0) 0 33 1) 0 34 b)) ⟨⟨fun t ht => by rw [G0 1 t (by decide)]; exact w1 t ht, fun i hi => by
      rw [G0 2 i (by decide), G0 3 i (by decide), G0 4 i (by decide), G0 5 i (by decide)]
      exact w2 i hi⟩, fun c hc => by rw [G0 6 c (by decide)]; exact w3 c hc, fun i => by rw [G0 2 i (by decide)]; exact w6 i⟩ kn0.symm (by rw [kn0]; exact fb.1) (fun k hk => by
      rw [kn0] at hk
      unfold vi
      rw [if_neg n33, G0 36 k (by decide), d3 k (by omega)]
      exact w4.2 k (by omega))
  obtain ⟨z1, m, i, e⟩ := J
  have i2 : IM (hs (hs z1 0 33 1) 0 34 b) (hs (hs (hs g 0 0 0) 0 33 1) 0 34 b) := IMg (k := 0) (i := 34) (IMg (k := 0) (i := 33) (IMa 0 0 i rfl rfl) (show iv 0 1 1 from iv_01) rfl) (show iv 0 30 b from f1) rfl
  have bb := SX12_begin _ i2
  have I2 : RP z (FX12_begin (hs (hs (hs g 0 0 0) 0 33 1) 0 34 b)) := ⟨_, zm_hs (zm_hs (zm_hs (zm_hs m rfl rfl) rfl rfl) rfl rfl) rfl rfl, bb.2, RMz_0 i2⟩
  obtain ⟨r1, r2, r3, r4⟩ := rbeg (hs (hs (hs g 0 0 0) 0 33 1) 0 34 b)
  obtain ⟨c1, c2, c3, c4, c5, c6, c7, c8⟩ := cbego1 b h
  have v37 : ∀ j, hs (FX12_begin (hs (hs (hs g 0 0 0) 0 33 1) 0 34 b)) 0 66 (-1) 37 j = g 37 j := fun j => by rw [hs_o (by simp), r3 37 j (by decide) (by decide), G0 37 j (by decide)]
  have v38 : ∀ j, hs (FX12_begin (hs (hs (hs g 0 0 0) 0 33 1) 0 34 b)) 0 66 (-1) 38 j = g 38 j := fun j => by rw [hs_o (by simp), r3 38 j (by decide) (by decide), G0 38 j (by decide)]
  have e24 : hs (FX12_begin (hs (hs (hs g 0 0 0) 0 33 1) 0 34 b)) 0 66 (-1) 0 24 = 0 := by rw [hs_o (by simp), r4]; simp
  have e26 : hs (FX12_begin (hs (hs (hs g 0 0 0) 0 33 1) 0 34 b)) 0 66 (-1) 0 26 = 0 := by rw [hs_o (by simp), r4]; simp
  have LOOP : ∀ x4 x3 : Int32, x3.toInt = x4.toInt + 1 → (-1 ≤ x4.toInt ∧ x4.toInt ≤ 299) → (∀ j : Nat, (j : Int) < a.toInt → (g 37 j).toInt ≤ x4.toInt) → SAMEo (FX11_goByRecordc1_37 2000 a 0 0 x4 (hs (FX3_begin_on b h) 0 11 0)) (FX12_play_83 2000 a x3 (hs (FX12_begin (hs (hs (hs g 0 0 0) 0 33 1) 0 34 b)) 0 66 (-1))) := fun x4 x3 e3 f4 X => by
    refine pl_loop (z := z) f0 e3 f4 2000 0 0 _ _ ?_ (by rw [e24, k0]; decide)
    refine ⟨RPa 0 66 I2 rfl rfl, ?_, by rw [hs_o (by simp), r4]; simp, by rw [hs_o (by simp), r4]; simp, by rw [hs_o (by simp), r4, if_neg (by decide), g33]; decide, hs_self _ _ _ _, by rw [hs_self, e24], e26.symm, ⟨fun j hj => ?_, fun j l hj hl => ?_⟩, fun j hj => by rw [v37]; exact X j hj, ⟨by rw [k0]; exact Int.le_refl _, by rw [k0]; exact fa.1⟩, fun j hj => by rw [k0] at hj; omega, fun j h1 h2 => ?_, fun _ => ?_⟩
    · refine RB.congro1 (fun k j q => hs_o (fun w => ?_)) (fun k j q => hs_o (fun w => ?_)) (fun _ j => hs_o (by simp))
      · rw [w.1] at q
        exact absurd q (by simp [cMo1])
      · rw [w.1, w.2] at q
        exact absurd q (by decide)
    · rw [v37, v38, hs_o (by simp), hs_o (by simp), c8 45 j (by decide), c8 46 j (by decide)]
      obtain ⟨u1, u2⟩ := q10 j (by omega)
      obtain ⟨u3, u4, u5⟩ := d4 j (by omega)
      exact ⟨u1, u2, u3, u5⟩
    · rw [v37, v37]
      exact d5 j l hj (by omega)
    · rw [v37, e24, k0]
      exact (d4 j (by omega)).1
    · have n0 : (0 : Int32).toNatClampNeg = 0 := by decide
      rw [n0]
      rfl
  unfold FX11_goByRecordc1 FX11_goByRecordc1_29 FX11_goByRecordc1_30 FX12_play_59 FX12_play_82
  by_cases c : a = 0
  · have f := LOOP (-1) 0 (by rw [km, k0]; omega) (by rw [km]; omega) (fun j hj => by rw [c, k0] at hj; omega)
    rw [if_pos (show a ≤ 0 by rw [c]; decide), if_pos c]
    exact f
  · have ap : 0 < a.toInt := by
      have : ¬ a.toInt = 0 := fun w => c (tI (w.trans k0.symm))
      omega
    have ea : (a - 1).toInt = a.toInt - 1 := by rw [Int32.toInt_sub, k1, bm_in (by omega) (by omega)]
    have na : ((a - 1).toNatClampNeg : Int) = a.toInt - 1 := by
      rw [← Int32.toNat_toInt]
      omega
    obtain ⟨u1, u2⟩ := q10 (a - 1).toNatClampNeg (by omega)
    obtain ⟨u3, u4, u5⟩ := d4 (a - 1).toNatClampNeg (by omega)
    rw [if_neg (show ¬ a ≤ 0 by rw [Int32.le_iff_toInt_le, k0]; omega), if_neg (show ¬ 300 < a by rw [Int32.lt_iff_toInt_lt, k300]; omega), if_neg c, c8 45 _ (by decide), u1]
    have v : (FX12_begin (hs (hs (hs g 0 0 0) 0 33 1) 0 34 b)) 37 (a - 1).toNatClampNeg = g 37 (a - 1).toNatClampNeg := by rw [r3 37 _ (by decide) (by decide), G0 37 _ (by decide)]
    rw [v]
    refine LOOP _ _ (by rw [ti_add (by omega) (by omega), k1]) ⟨by omega, by omega⟩ (fun j hj => ?_)
    by_cases d : j = (a - 1).toNatClampNeg
    · rw [d]
      exact Int.le_refl _
    · have := d5 j (a - 1).toNatClampNeg (by omega) (by omega)
      omega
theorem LR_frP {h h' g g' : ph_H} (P : LR h g) (e : EQ pP h h') (d : EQ pVP g g') (x : h' 0 12 = g' 0 66) : LR h' g' := ⟨PN_fr P.1 (EQ_sub pN0_pP e) (EQ_sub pVN0_pVP d), QR_fr P.2.1 (EQ_sub (fun k i q => pSR_pP k i (pQ_pSR k i q)) e) (EQ_sub pVR0_pVP d), SR_fr P.2.2.1 (EQ_sub pSR_pP e) (EQ_sub pVR0_pVP d), PLQ_fr P.2.2.2.1 (EQ_sub (fun k i q => pVR0_pVP k i (pX6_pVR0 k i q)) d) (EQ_sub pX7_pVP d), x⟩
theorem play_both {z : zT} {h g : ph_H} (P : LR h g) (J : IT z g) (a b : Int32) : (FX11_play a b h).1 = (FX12_play a b g).1 ∧ LR (FX11_play a b h).2 (FX12_play a b g).2 := by
  have k0 : (0 : Int32).toInt = 0 := by decide
  have Pz := LR_00 P
  have Q := P.2.1
  have fe := frP_FX11_play (h0 := h) a b h (EQ_r h)
  have fv := frVP_FX12_play (h0 := g) a b g (EQ_r g)
  suffices (FX11_play a b h).1 = (FX12_play a b g).1 ∧ (FX11_play a b h).2 0 12 = (FX12_play a b g).2 0 66 from ⟨this.1, LR_frP P fe fv this.2⟩
  have E := P.2.2.2.2
  have Z : h 0 12 = hs g 0 0 0 0 66 := by rw [hs_o (by simp)]; exact E
  unfold FX11_play FX12_play FX11_play_54
  rw [Q.1]
  by_cases c : g 0 36 = 0
  · rw [if_pos c, if_pos c]
    exact ⟨rfl, Z⟩
  · rw [if_neg c, if_neg c]
    obtain ⟨q1, q2, q3, q4, q5, q6, q7, q8, q9, q10⟩ := Q.2 c
    rw [q6, q7]
    by_cases fa : 0 ≤ a.toInt ∧ a.toInt ≤ (g 0 60).toInt
    · rw [if_neg (show ¬ a < 0 by rw [Int32.lt_iff_toInt_lt, k0]; omega), if_neg (show ¬ g 0 60 < a by rw [Int32.lt_iff_toInt_lt]; omega), if_neg (fun w => isIn_iff.mp w (by rw [l0, Int32.toInt_toInt64]; exact fa))]
      by_cases fb : 0 ≤ b.toInt ∧ b.toInt ≤ (g 0 41).toInt
      · rw [if_neg (show ¬ b < 0 by rw [Int32.lt_iff_toInt_lt, k0]; omega), if_pos (show b ≤ g 0 41 by rw [Int32.le_iff_toInt_le]; omega), if_neg (fun w => isIn_iff.mp w (by rw [l0, Int32.toInt_toInt64]; exact fb))]
        obtain ⟨s1, s2⟩ := play_run P J c fa fb
        refine ⟨s2, ?_⟩
        dsimp only
        rw [hs_self]
        exact s1
      · rw [if_pos (isIn_iff.mpr (by rw [l0, Int32.toInt_toInt64]; exact fb))]
        by_cases u : b < 0
        · rw [if_pos u]
          exact ⟨rfl, Z⟩
        · rw [Int32.lt_iff_toInt_lt, k0] at u
          rw [if_neg (show ¬ b < 0 by rw [Int32.lt_iff_toInt_lt, k0]; omega), if_neg (show ¬ b ≤ g 0 41 by rw [Int32.le_iff_toInt_le]; omega)]
          exact ⟨rfl, Z⟩
    · rw [if_pos (isIn_iff.mpr (by rw [l0, Int32.toInt_toInt64]; exact fa))]
      by_cases u : a < 0
      · rw [if_pos u]
        exact ⟨rfl, Z⟩
      · rw [Int32.lt_iff_toInt_lt, k0] at u
        rw [if_neg (show ¬ a < 0 by rw [Int32.lt_iff_toInt_lt, k0]; omega), if_pos (show g 0 60 < a by rw [Int32.lt_iff_toInt_lt]; omega)]
        exact ⟨rfl, Z⟩
theorem ended_ans {z : zT} {h g : ph_H} (P : LR h g) (J : IT z g) : FX11_ended h = (FX12_ended g).1 := P.2.2.2.2
end MG_48_x43D4
