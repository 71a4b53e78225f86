/-! THE RECORD of a run on both sides -/
theorem kp2 : ∀ (q : Nat) (s x : Int32) (g : ph_H), iv 0 300 s → iv 0 28 x → 28 - x.toInt < (q : Int) → (∀ k : Nat, x.toInt ≤ k → k < 28 → FX12_keep_2 q s x g 20 (28 * s.toNatClampNeg + k) = g 10 k ∧ FX12_keep_2 q s x g 21 (28 * s.toNatClampNeg + k) = g 11 k) ∧ (∀ j : Nat, (j : Int) < 28 * s.toInt + x.toInt → FX12_keep_2 q s x g 20 j = g 20 j ∧ FX12_keep_2 q s x g 21 j = g 21 j)
  | 0, s, x, g, f, fx, m => by unfold iv at fx; omega
  | q + 1, s, x, g, f, fx, m => by
    have k1 : (1 : Int32).toInt = 1 := by decide
    have k28 : (28 : Int32).toInt = 28 := by decide
    have sn := iv_nat f rfl
    have xn := iv_nat fx rfl
    have f' := f
    unfold iv at f fx
    unfold FX12_keep_2
    by_cases c : 28 ≤ x
    · rw [if_pos c]
      rw [Int32.le_iff_toInt_le, k28] at c
      have e : EQ pK5 g (FX12_keep_50 2000 s 0 g) := fr5_FX12_keep_50 _ _ _ _ (EQ_r g)
      exact ⟨fun k a b => by omega, fun j _ => ⟨e 20 j rfl, e 21 j rfl⟩⟩
    · rw [if_neg c]
      rw [Int32.le_iff_toInt_le, k28] at c
      have e1 : (x + 1).toInt = x.toInt + 1 := by rw [ti_add (by omega) (by omega), k1]
      have em : (28 * s).toInt = 28 * s.toInt := by rw [ti_mul (by rw [k28]; omega) (by rw [k28]; omega), k28]
      have ea : (28 * s + x).toInt = 28 * s.toInt + x.toInt := by rw [ti_add (by omega) (by omega), em]
      have ix : ((28 * s + x).toNatClampNeg : Int) = 28 * s.toInt + x.toInt := by
        rw [← Int32.toNat_toInt]
        omega
      obtain ⟨a1, a2⟩ := kp2 q s (x + 1) (hs (hs g 20 (28 * s + x).toNatClampNeg (g 10 x.toNatClampNeg)) 21 (28 * s + x).toNatClampNeg (g 11 x.toNatClampNeg)) f' (by unfold iv; omega) (by omega)
      refine ⟨fun k hk hk2 => ?_, fun j hj => ?_⟩
      · by_cases d : (k : Int) = x.toInt
        · have kx : k = x.toNatClampNeg := by omega
          have ii : 28 * s.toNatClampNeg + k = (28 * s + x).toNatClampNeg := by omega
          obtain ⟨b1, b2⟩ := a2 (28 * s.toNatClampNeg + k) (by omega)
          rw [b1, b2, ii, kx]
          refine ⟨?_, ?_⟩
          · rw [hs_o (by simp), hs_self]
          · rw [hs_self]
        · obtain ⟨b1, b2⟩ := a1 k (by omega) hk2
          rw [b1, b2]
          refine ⟨?_, ?_⟩
          · rw [hs_o (by simp), hs_o (by simp)]
          · rw [hs_o (by simp), hs_o (by simp)]
      · obtain ⟨b1, b2⟩ := a2 j (by omega)
        rw [b1, b2]
        refine ⟨?_, ?_⟩
        · rw [hs_o (by simp), hs_o (fun w => by omega)]
        · rw [hs_o (fun w => by omega), hs_o (by simp)]
/-- what a step of a run leaves of the reference -/
def cg1 (t : Int32) (g : ph_H) : ph_H := if t = g 0 26 then g else hs (hs (hs g 37 (g 0 60).toNatClampNeg (g 0 24)) 38 (g 0 60).toNatClampNeg t) 0 60 (g 0 60 + 1)
def kI (x3 : Int32) (g : ph_H) : ph_H := if g 0 23 ≤ x3 then g else hs g 36 x3.toNatClampNeg (g 7 x3.toNatClampNeg)
def kW (t : Int32) (g : ph_H) : ph_H := hs (hs (hs (hs (hs (hs (hs g 29 (g 0 24).toNatClampNeg t) 30 (g 0 24).toNatClampNeg (g 0 27)) 31 (g 0 24).toNatClampNeg (g 0 28)) 32 (g 0 24).toNatClampNeg (if g 0 25 ≤ 0 then g 0 29 else -2)) 33 (g 0 24).toNatClampNeg (if g 0 25 ≤ 0 then g 0 30 else -2)) 34 (g 0 24).toNatClampNeg (if g 0 25 ≤ 0 then g 0 31 else 0)) 35 (g 0 24).toNatClampNeg (g 0 32)
theorem sk_eq (t : Int32) (g : ph_H) : FX12_stepKept t g = FX12_keep (FX12_step t (cg1 t g) 0 24) (kW t (kI (g 0 23) (FX12_step t (cg1 t g)))) := by
  have a : ∀ x3 g, FX12_stepKept_48 t x3 g = FX12_keep (FX12_step t g 0 24) (kW t (kI x3 (FX12_step t g))) := fun x3 g => by
    unfold FX12_stepKept_48 FX12_stepKept_53 kI
    generalize FX12_step t g = G
    have b : ∀ G, FX12_stepKept_73 t G = FX12_keep (G 0 24) (kW t G) := fun G => by
      unfold FX12_stepKept_73 FX12_stepKept_133 FX12_stepKept_158 FX12_stepKept_182 kW
      by_cases c : G 0 25 ≤ 0
      · simp (decide := true) only [c, hs_get, ↓reduceIte]
      · simp (decide := true) only [c, hs_get, ↓reduceIte]
    split
    · rw [b]
    · rw [b, hs_o (by simp)]
  unfold FX12_stepKept cg1
  split
  · exact a _ _
  · exact a _ _
def TRs (h g : ph_H) (s : Nat) : Prop := h 36 s = g 29 s ∧ h 37 s = g 30 s ∧ h 38 s = g 31 s ∧ h 39 s = g 32 s ∧ h 40 s = g 33 s ∧ h 43 s = g 34 s ∧ (¬ g 34 s = 0 → ¬ g 34 s = 3 → h 44 s = g 35 s) ∧ (0 ≤ (g 33 s).toInt → (g 33 s).toInt < 12 → h 41 s = g 20 (28 * s + (g 33 s).toNatClampNeg) ∧ h 42 s = g 21 (28 * s + (g 33 s).toNatClampNeg)) ∧ PLp (g 32 s) ∧ PLp (g 33 s)
def TR (h g : ph_H) : Prop := h 35 11 = g 0 24 ∧ h 35 12 = g 0 60 ∧ h 35 14 = g 0 25 ∧ (∀ s : Nat, 0 < s → (s : Int) ≤ (g 0 24).toInt → TRs h g s) ∧ (∀ i : Nat, (i : Int) < (g 0 60).toInt → h 45 i = g 37 i ∧ h 46 i = g 38 i) ∧ FX10_latestThread h = g 0 26
