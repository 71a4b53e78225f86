/-! what thing and thread answer -/
theorem ixm {c v a : Int32} {m : Nat} (hv : iv 0 300 v) (ha : iv 0 200 a) (q : (decide (c.toInt = m) && decide (m ≤ 1000)) = true) : (c * v + a).toNatClampNeg = m * v.toNatClampNeg + a.toNatClampNeg := by
  rw [Bool.and_eq_true, decide_eq_true_eq, decide_eq_true_eq] at q
  obtain ⟨q1, q2⟩ := q
  have vn := iv_nat hv rfl
  have an := iv_nat ha rfl
  unfold iv at hv ha
  have b0 : (0 : Int) ≤ (m : Int) * v.toInt := Int.mul_nonneg (by omega) hv.1
  have b1 : (m : Int) * v.toInt ≤ 1000 * 300 := Int.mul_le_mul (by omega) hv.2 hv.1 (by omega)
  have e1 : (c * v).toInt = (m : Int) * v.toInt := by rw [ti_mul (by rw [q1]; omega) (by rw [q1]; omega), q1]
  have e2 : (c * v + a).toInt = (m : Int) * v.toInt + a.toInt := by rw [ti_add (by omega) (by omega), e1]
  have e3 : ((c * v + a).toNatClampNeg : Int) = (m : Int) * v.toInt + a.toInt := by
    rw [← Int32.toNat_toInt]
    omega
  have e4 : ((m * v.toNatClampNeg : Nat) : Int) = (m : Int) * v.toInt := by rw [Int.natCast_mul, vn]
  omega
theorem in01 {b : Int32} : FX12_isIn b.toInt64 0 1 = 0 ↔ ¬ (b = 0 ∨ b = 1) := by
  have k0 : (0 : Int32).toInt = 0 := by decide
  have k1 : (1 : Int32).toInt = 1 := by decide
  rw [isIn_iff, l0, l1]
  constructor
  · intro w d
    rcases d with d | d
    · rw [d, k0] at w
      omega
    · rw [d, k1] at w
      omega
  · intro w d
    by_cases c : b.toInt = 0
    · exact w (Or.inl (tI (c.trans k0.symm)))
    · exact w (Or.inr (tI (by rw [k1]; omega)))
theorem sbG_at {z : zT} {h g : ph_H} (P : LR h g) (J : IT z g) (n : ¬ g 0 36 = 0) : iv 0 300 (g 0 42) ∧ h 0 10 = g 0 42 ∧ ∃ G, (∃ z, IM z G) ∧ NW G ∧ KR g (g 0 42).toNatClampNeg G ∧ RC (FX11_seenBehind (h 0 10) h) G := by
  obtain ⟨e, v0, v1⟩ := LR_10 P n
  have f300 : iv 0 300 (g 0 38) := ITv J 0 38
  have n38 := iv_nat f300 rfl
  unfold iv at f300
  have f42 : iv 0 300 (g 0 42) := ⟨v0, by omega⟩
  have n42 := iv_nat f42 rfl
  obtain ⟨-, Gs, q1, q2, q3⟩ := sb_sim P J n v0 v1
  obtain ⟨w1, w2, w3⟩ := q1.1 (g 0 42).toNatClampNeg (by omega)
  refine ⟨f42, e, _, w1, w3, w2, ?_⟩
  rw [e]
  exact q3
theorem thing_ans {z : zT} {h g : ph_H} (P : LR h g) (J : IT z g) (a b : Int32) : (FX11_thing a b h).1 = (FX12_thing a b g).1 := by
  have k0 : (0 : Int32).toInt = 0 := by decide
  have k1 : (1 : Int32).toInt = 1 := by decide
  have E := P.2.1.1
  unfold FX11_thing FX12_thing FX11_thing_18 FX12_isThing FX3_hasThing_s
  rw [E]
  by_cases c : g 0 36 = 0
  · rw [if_pos c, if_pos c]
  · obtain ⟨f42, e10, G, ⟨z', I⟩, nw, K, R⟩ := sbG_at P J c
    obtain ⟨t1, t2⟩ := R.2.2.2.1
    obtain ⟨k20, k22, k24, k25, k28⟩ := K
    have g42 : hs g 0 0 0 0 42 = g 0 42 := hs_o (by simp)
    have g36 : hs g 0 0 0 0 36 = g 0 36 := hs_o (by simp)
    have g24 : ∀ i, hs g 0 0 0 24 i = g 24 i := fun i => hs_o (by simp)
    rw [if_neg c, if_neg c, g42, g36, g24, if_neg c, k24, t1]
    by_cases a0 : a < 0
    · simp (decide := true) only [a0, ↓reduceIte]
    · by_cases a1 : G 0 18 ≤ a
      · simp (decide := true) only [a0, a1, ↓reduceIte]
      · have tn := th_nn I
        simp (decide := true) only [a0, a1, ↓reduceIte]
        rw [Int32.lt_iff_toInt_lt, k0] at a0
        rw [Int32.le_iff_toInt_le] at a1
        have fa : iv 0 200 a := ⟨by omega, by omega⟩
        have an := iv_nat fa rfl
        rw [ixm (c := 12) (m := 12) f42 fa rfl]
        obtain ⟨x1, x2, x3⟩ := k25 a.toNatClampNeg (by omega)
        obtain ⟨y1, y2, y3, y4⟩ := t2 a.toNatClampNeg (by omega)
        rw [x1, x2, x3, y1, y2]
        by_cases d : FX12_isIn b.toInt64 0 1 = 0
        · rw [if_pos d]
          have d' := in01.mp d
          by_cases u : b < 0
          · rw [if_pos u]
          · rw [if_neg u]
            by_cases w : b ≤ 1
            · exfalso
              rw [Int32.lt_iff_toInt_lt, k0] at u
              rw [Int32.le_iff_toInt_le, k1] at w
              by_cases o : b.toInt = 0
              · exact d' (Or.inl (tI (o.trans k0.symm)))
              · exact d' (Or.inr (tI (by rw [k1]; omega)))
            · rw [if_neg w]
        · rw [if_neg d]
          have d' : b = 0 ∨ b = 1 := Classical.byContradiction (fun w => d (in01.mpr w))
          rcases d' with rfl | rfl
          · simp (decide := true) only [↓reduceIte]
          · simp (decide := true) only [↓reduceIte]
            by_cases o : G 16 a.toNatClampNeg = 1
            · simp (decide := true) only [o, ↓reduceIte]
            · simp (decide := true) only [o, ↓reduceIte]
              rcases y3 with ⟨u1, u2⟩ | ⟨u1, u2⟩
              · rw [u1, u2]
                simp (decide := true) only [↓reduceIte]
              · unfold iv at u2
                rw [u1] at u2 ⊢
                rw [if_pos (by rw [Int32.le_iff_toInt_le, k0]; omega)]
theorem nexI_eq {z : zT} {h g : ph_H} {t : Int32} (R : RC h g) (I : IM z g) (ht : iv 0 3 t) : FX3_nextInstruction_s t h = g 12 t.toNatClampNeg := by
  unfold FX3_nextInstruction_s
  rw [ended_eq R I ht]
  by_cases c : g 12 t.toNatClampNeg = 24
  · rw [if_pos c, if_neg (by decide), c]
  · rw [if_neg c, if_pos rfl]
    exact (stands R I ht c).1
theorem nexI_eqo2 {z : zT} {h g : ph_H} {t : Int32} (R : RCo2 h g) (I : IM z g) (ht : iv 0 3 t) : FX3_nextInstruction_oc2 t h = g 12 t.toNatClampNeg := by
  unfold FX3_nextInstruction_oc2
  rw [ended_eqo2 R I ht]
  by_cases c : g 12 t.toNatClampNeg = 24
  · rw [if_pos c, if_neg (by decide), c]
  · rw [if_neg c, if_pos rfl]
    exact (standso2 R I ht c).1
theorem stand_eq {z : zT} {h g : ph_H} {t : Int32} (R : RC h g) (I : IM z g) (N : NW g) (ht : iv 0 3 t) : FX3_standing_s t h = FX12_state t g := by
  have k0 : (0 : Int32).toInt = 0 := by decide
  have nw := N _ (t_lt ht)
  unfold FX3_standing_s FX12_state
  rw [ended_eq R I ht, canGo_eq R I ht]
  rcases R.2.2.1 _ (t_lt ht) with ⟨m, st, as, wk⟩ | ⟨m, st, as, wk⟩ | ⟨m, st, as, q, wk⟩ | ⟨m, st, as, wk, q⟩
  · simp (decide := true) only [m, st, ↓reduceIte]
  · by_cases c : g 12 t.toNatClampNeg = 24
    · simp (decide := true) only [m, st, as, c, ↓reduceIte]
    · simp (decide := true) only [m, st, as, c, ↓reduceIte]
  · have q' := q
    unfold iv at q'
    rw [as] at nw
    have c := nw q'.1
    have n14 : ¬ g 14 t.toNatClampNeg < 0 := by
      rw [as, Int32.lt_iff_toInt_lt, k0]
      omega
    simp (decide := true) only [m, st, c, n14, ↓reduceIte]
  · by_cases c : g 12 t.toNatClampNeg = 24
    · simp (decide := true) only [m, st, as, c, ↓reduceIte]
    · simp (decide := true) only [m, st, as, c, ↓reduceIte]
theorem thread_ans {z : zT} {h g : ph_H} (P : LR h g) (J : IT z g) (a b : Int32) : (FX11_thread a b h).1 = (FX12_thread a b g).1 := by
  have k0 : (0 : Int32).toInt = 0 := by decide
  have k1 : (1 : Int32).toInt = 1 := by decide
  have E := P.2.1.1
  unfold FX11_thread FX12_thread FX11_thread_36
  rw [E]
  by_cases c : g 0 36 = 0
  · rw [if_pos c, if_pos c]
  · obtain ⟨f42, e10, G, ⟨z', I⟩, nw, K, R⟩ := sbG_at P J c
    obtain ⟨k20, k22, k24, k25, k28⟩ := K
    rw [if_neg c, if_neg c]
    by_cases t : 0 ≤ a.toInt ∧ a.toInt ≤ 3
    · have ft : iv 0 3 a := t
      have fa : iv 0 200 a := ⟨t.1, by omega⟩
      rw [if_neg (fun w => (isT_iff a).mp w t), if_neg (fun w => isIn_iff.mp w (by rw [l0, l3]; exact t))]
      rw [ixm (c := 4) (m := 4) f42 fa rfl, (k22 a ft).1, (k22 a ft).2, nexI_eq R I ft, stand_eq R I nw ft]
      by_cases d : FX12_isIn b.toInt64 0 1 = 0
      · rw [if_pos d]
        have d' := in01.mp d
        by_cases u : b < 0
        · rw [if_pos u]
        · rw [if_neg u]
          by_cases w : b ≤ 1
          · exfalso
            rw [Int32.lt_iff_toInt_lt, k0] at u
            rw [Int32.le_iff_toInt_le, k1] at w
            by_cases o : b.toInt = 0
            · exact d' (Or.inl (tI (o.trans k0.symm)))
            · exact d' (Or.inr (tI (by rw [k1]; omega)))
          · rw [if_neg w]
      · rw [if_neg d]
        have d' : b = 0 ∨ b = 1 := Classical.byContradiction (fun w => d (in01.mpr w))
        rcases d' with rfl | rfl
        · simp (decide := true) only [↓reduceIte]
        · simp (decide := true) only [↓reduceIte]
    · rw [if_pos ((isT_iff a).mpr t), if_pos (isIn_iff.mpr (by rw [l0, l3]; exact t))]
