/-! what last and next answer -/
theorem pl_no {v p : Int32} (a : PLp v) (n : p < 0) (m : ¬ p = -2) : ¬ v = p := by
  have k0 : (0 : Int32).toInt = 0 := by decide
  rw [Int32.lt_iff_toInt_lt, k0] at n
  rintro rfl
  rcases a with a | a
  · exact m a
  · omega
theorem next_in {h g : ph_H} {p : Int32} (m : ¬ p = -2) (e : h 35 11 = g 0 38) (r : ∀ s : Nat, 0 < s → (s : Int) ≤ (g 0 38).toInt → h 39 s = g 32 s ∧ PLp (g 32 s)) (b : (g 0 38).toInt ≤ 300) : ∀ (q : Nat) (x : Int32), 0 < x.toInt → x.toInt ≤ 301 → FX10_nextRead_12 q p x h = (FX12_next_35 q p x g).1
  | 0, x, _, _ => rfl
  | q + 1, x, x0, x1 => by
    have k1 : (1 : Int32).toInt = 1 := by decide
    unfold FX10_nextRead_12 FX12_next_35 FX12_next_59
    rw [e]
    by_cases c : g 0 38 < x
    · rw [if_pos c, if_pos c]
    · rw [if_neg c, if_neg c]
      rw [Int32.lt_iff_toInt_lt] at c
      have xn : (x.toNatClampNeg : Int) = x.toInt := by
        rw [← Int32.toNat_toInt]
        omega
      have e1 : (x + 1).toInt = x.toInt + 1 := by rw [ti_add (by omega) (by omega), k1]
      obtain ⟨r1, r2⟩ := r x.toNatClampNeg (by omega) (by omega)
      have ih := next_in m e r b q (x + 1) (by omega) (by omega)
      rw [r1]
      by_cases d : g 32 x.toNatClampNeg = p
      · rw [if_pos d, if_pos d]
        by_cases n : p < 0
        · exact absurd d (pl_no r2 n m)
        · rw [if_neg n]
      · rw [if_neg d, if_neg d]
        exact ih
theorem next_m2 {g : ph_H} : ∀ (q : Nat) (x : Int32), (FX12_next_35 q (-2) x g).1 = 0
  | 0, x => rfl
  | q + 1, x => by
    unfold FX12_next_35 FX12_next_59
    split
    · rfl
    · split
      · rw [if_pos (by decide)]
        exact next_m2 q (x + 1)
      · exact next_m2 q (x + 1)
theorem steps_iv {z : zT} {g : ph_H} (J : IT z g) : 0 ≤ (g 0 38).toInt ∧ (g 0 38).toInt ≤ 300 := ITv J 0 38
theorem next_00 (q : Nat) (p x : Int32) (g : ph_H) : (FX12_next_35 q p x (hs g 0 0 0)).1 = (FX12_next_35 q p x g).1 := by
  induction q generalizing x with
  | zero => rfl
  | succ q ih =>
    unfold FX12_next_35 FX12_next_59
    rw [hs_o (by simp), hs_o (by simp)]
    split
    · rfl
    · split
      · split
        · exact ih _
        · rfl
      · exact ih _
theorem mom_eq {h g : ph_H} {s : Int32} (e : h 35 11 = g 0 38) : FX11_isMoment s h = 0 ↔ FX12_isIn s.toInt64 0 ((g 0 38).toInt64) = 0 := by
  rw [isM_iff, isIn_iff, l0, Int32.toInt_toInt64, e]
theorem mom_in {g : ph_H} {s : Int32} (d : ¬ FX12_isIn s.toInt64 0 ((g 0 38).toInt64) = 0) : 0 ≤ s.toInt ∧ s.toInt ≤ (g 0 38).toInt := by
  apply Classical.byContradiction
  intro w
  exact d (isIn_iff.mpr (by rw [l0, Int32.toInt_toInt64]; exact w))
theorem next_ans {z : zT} {h g : ph_H} (P : LR h g) (J : IT z g) (p s : Int32) : FX11_next p s h = (FX12_next p s g).1 := by
  obtain ⟨-, Q, q⟩ := P
  have sb := steps_iv J
  have k1 : (1 : Int32).toInt = 1 := by decide
  unfold FX11_next FX12_next
  rw [Q]
  by_cases c : g 0 36 = 0
  · rw [if_pos c, if_pos c]
  · obtain ⟨q1, q2, q3, q4, q5, q6, q7, q8, q9, q10⟩ := q c
    rw [if_neg c, if_neg c]
    by_cases d : FX12_isIn s.toInt64 0 ((g 0 38).toInt64) = 0
    · rw [if_pos d, if_pos ((mom_eq q2).mpr d)]
    · rw [if_neg d, if_neg (fun w => d ((mom_eq q2).mp w)), next_00]
      obtain ⟨s0, s1⟩ := mom_in d
      have e1 : (s + 1).toInt = s.toInt + 1 := by rw [ti_add (by omega) (by omega), k1]
      unfold FX10_nextRead
      by_cases m : p = -2
      · rw [if_pos m, m, next_m2]
      · rw [if_neg m]
        exact next_in m q2 (fun s a b => ⟨(q9 s a b).2.2.2.1, (q9 s a b).2.2.2.2.2.2.2.2.1⟩) sb.2 2000 (s + 1) (by omega) (by omega)
theorem last_in {h : ph_H} {p : Int32} : ∀ (q : Nat) (x : Int32), 0 ≤ x.toInt → x.toInt ≤ 300 → x.toInt < (q : Int) → (FX10_lastWrite_10 q p x h = 0 ∧ ∀ k : Nat, 0 < k → (k : Int) ≤ x.toInt → ¬ h 40 k = p) ∨ (∃ k : Nat, 0 < k ∧ (k : Int) ≤ x.toInt ∧ h 40 k = p ∧ (FX10_lastWrite_10 q p x h).toInt = k ∧ ∀ j : Nat, k < j → (j : Int) ≤ x.toInt → ¬ h 40 j = p)
  | 0, x, a, b, m => by omega
  | q + 1, x, a, b, m => by
    have k0 : (0 : Int32).toInt = 0 := by decide
    have kn1 : (-1 : Int32).toInt = -1 := by decide
    unfold FX10_lastWrite_10
    by_cases c : x ≤ 0
    · rw [if_pos c]
      rw [Int32.le_iff_toInt_le, k0] at c
      exact Or.inl ⟨rfl, fun k k0 k1 => by omega⟩
    · rw [if_neg c]
      rw [Int32.le_iff_toInt_le, k0] at c
      have xn : (x.toNatClampNeg : Int) = x.toInt := by
        rw [← Int32.toNat_toInt]
        omega
      by_cases d : h 40 x.toNatClampNeg = p
      · rw [if_pos d]
        exact Or.inr ⟨x.toNatClampNeg, by omega, by omega, d, xn.symm, fun j a b => by omega⟩
      · rw [if_neg d]
        have e1 : (x + (-1)).toInt = x.toInt - 1 := by rw [ti_add (by omega) (by omega), kn1]; omega
        rcases last_in (h := h) (p := p) q (x + (-1)) (by omega) (by omega) (by omega) with ⟨r, n⟩ | ⟨k, k0, k1, k2, k3, k4⟩
        · refine Or.inl ⟨r, fun k a b => ?_⟩
          by_cases w : k = x.toNatClampNeg
          · rw [w]; exact d
          · exact n k a (by omega)
        · refine Or.inr ⟨k, k0, by omega, k2, k3, fun j a b => ?_⟩
          by_cases w : j = x.toNatClampNeg
          · rw [w]; exact d
          · exact k4 j a (by omega)
theorem last_rf {p s : Int32} (s3 : s.toInt ≤ 300) : ∀ (q : Nat) (f x : Int32) (g : ph_H), 0 < x.toInt → x.toInt ≤ s.toInt + 1 → s.toInt + 1 - x.toInt < (q : Int) → ((FX12_last_36 q p s f x g).1 = f ∧ ∀ k : Nat, x.toInt ≤ k → (k : Int) ≤ s.toInt → ¬ (g 33 k = p ∧ ¬ p < 0)) ∨ (∃ k : Nat, x.toInt ≤ k ∧ (k : Int) ≤ s.toInt ∧ g 33 k = p ∧ ¬ p < 0 ∧ ((FX12_last_36 q p s f x g).1).toInt = k ∧ ∀ j : Nat, k < j → (j : Int) ≤ s.toInt → ¬ g 33 j = p)
  | 0, f, x, g, a, b, m => by omega
  | q + 1, f, x, g, a, b, m => by
    have k1 : (1 : Int32).toInt = 1 := by decide
    unfold FX12_last_36 FX12_last_62 FX12_last_63
    by_cases c : s < x
    · rw [if_pos c]
      rw [Int32.lt_iff_toInt_lt] at c
      exact Or.inl ⟨rfl, fun k a b => by omega⟩
    · rw [if_neg c]
      rw [Int32.lt_iff_toInt_lt] at c
      have xn : (x.toNatClampNeg : Int) = x.toInt := by
        rw [← Int32.toNat_toInt]
        omega
      have e1 : (x + 1).toInt = x.toInt + 1 := by rw [ti_add (by omega) (by omega), k1]
      have go : ∀ f', ((¬ (g 33 x.toNatClampNeg = p ∧ ¬ p < 0) ∧ f' = f) ∨ ((g 33 x.toNatClampNeg = p ∧ ¬ p < 0) ∧ f' = x)) → ((FX12_last_36 q p s f' (x + 1) g).1 = f ∧ ∀ k : Nat, x.toInt ≤ k → (k : Int) ≤ s.toInt → ¬ (g 33 k = p ∧ ¬ p < 0)) ∨ (∃ k : Nat, x.toInt ≤ k ∧ (k : Int) ≤ s.toInt ∧ g 33 k = p ∧ ¬ p < 0 ∧ ((FX12_last_36 q p s f' (x + 1) g).1).toInt = k ∧ ∀ j : Nat, k < j → (j : Int) ≤ s.toInt → ¬ g 33 j = p) := fun f' hf => by
        rcases last_rf s3 q f' (x + 1) g (by omega) (by omega) (by omega) with ⟨r, n⟩ | ⟨k, k0, k1, k2, k3, k4, k5⟩
        · rcases hf with ⟨n1, ef⟩ | ⟨y, ef⟩
          · refine Or.inl ⟨by rw [r, ef], fun k a b => ?_⟩
            by_cases w : k = x.toNatClampNeg
            · rw [w]; exact n1
            · exact n k (by omega) b
          · refine Or.inr ⟨x.toNatClampNeg, by omega, by omega, y.1, y.2, by rw [r, ef]; exact xn.symm, fun j a b w => n j (by omega) b ⟨w, y.2⟩⟩
        · exact Or.inr ⟨k, by omega, k1, k2, k3, k4, k5⟩
      by_cases d : g 33 x.toNatClampNeg = p
      · rw [if_pos d]
        by_cases n : p < 0
        · rw [if_pos n]
          exact go f (Or.inl ⟨fun w => w.2 n, rfl⟩)
        · rw [if_neg n]
          exact go x (Or.inr ⟨⟨d, n⟩, rfl⟩)
      · rw [if_neg d]
        exact go f (Or.inl ⟨fun w => d w.1, rfl⟩)
theorem last_ans {z : zT} {h g : ph_H} (P : LR h g) (J : IT z g) (p s : Int32) : FX11_last p s h = (FX12_last p s g).1 := by
  obtain ⟨-, Q, q⟩ := P
  have sb := steps_iv J
  have k1 : (1 : Int32).toInt = 1 := by decide
  have k0 : (0 : Int32).toInt = 0 := by decide
  unfold FX11_last FX12_last
  rw [Q]
  by_cases c : g 0 36 = 0
  · rw [if_pos c, if_pos c]
  · obtain ⟨q1, q2, q3, q4, q5, q6, q7, q8, q9, q10⟩ := q c
    rw [if_neg c, if_neg c]
    by_cases d : FX12_isIn s.toInt64 0 ((g 0 38).toInt64) = 0
    · rw [if_pos d, if_pos ((mom_eq q2).mpr d)]
    · rw [if_neg d, if_neg (fun w => d ((mom_eq q2).mp w))]
      obtain ⟨s0, s1⟩ := mom_in d
      have rows : ∀ k : Nat, 0 < k → (k : Int) ≤ s.toInt → h 40 k = g 33 k ∧ PLp (g 33 k) := fun k a b => ⟨(q9 k a (by omega)).2.2.2.2.1, (q9 k a (by omega)).2.2.2.2.2.2.2.2.2⟩
      have g00 : ∀ k, hs g 0 0 0 33 k = g 33 k := fun k => hs_o (by simp)
      rcases last_rf (p := p) (s := s) (by omega) 2000 0 1 (hs g 0 0 0) (by decide) (by omega) (by omega) with ⟨r, n⟩ | ⟨k, a0, a1, a2, a3, a4, a5⟩
      · rw [r]
        unfold FX10_lastWrite
        by_cases m : p = -2
        · rw [if_pos m]
        · rw [if_neg m]
          rcases last_in (h := h) (p := p) 2000 s s0 (by omega) (by omega) with ⟨r2, _⟩ | ⟨k, b0, b1, b2, b3, b4⟩
          · exact r2
          · obtain ⟨w1, w2⟩ := rows k b0 b1
            rw [w1] at b2
            have := n k (by omega) b1
            rw [g00] at this
            exact absurd b2 (fun e => this ⟨e, fun u => pl_no w2 u m e⟩)
      · rw [g00] at a2
        unfold FX10_lastWrite
        have m : ¬ p = -2 := fun e => a3 (by rw [e]; decide)
        rw [if_neg m]
        have w := rows k (by omega) a1
        rcases last_in (h := h) (p := p) 2000 s s0 (by omega) (by omega) with ⟨r2, n⟩ | ⟨k', b0, b1, b2, b3, b4⟩
        · exact absurd (w.1.trans a2) (n k (by omega) a1)
        · have e : k = k' := by
            rcases Nat.lt_trichotomy k k' with u | u | u
            · have := a5 k' u b1
              rw [g00] at this
              exact absurd ((rows k' b0 b1).1.symm.trans b2) this
            · exact u
            · exact absurd (w.1.trans a2) (b4 k u a1)
          apply tI
          rw [a4, b3, e]
