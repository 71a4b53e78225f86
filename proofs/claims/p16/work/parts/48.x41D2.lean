/-! PLAY: the recorded changes on the other machine, with the program that stands now -/
theorem who21o1 {z : zT} {h g : ph_H} (R : RCo1 h g) (I : IM z g) : ∀ (q : Nat) (x : Int32), iv 0 4 x → FX3_whoGoes_oc1_21 q x h = FX12_free_12 q x g
  | 0, x, f => rfl
  | q + 1, x, f => by
    have k1 : (1 : Int32).toInt = 1 := by decide
    have k4 : (4 : Int32).toInt = 4 := by decide
    unfold iv at f
    unfold FX3_whoGoes_oc1_21 FX12_free_12
    by_cases c : 4 ≤ x
    · rw [if_pos c, if_pos c]
    · rw [if_neg c, if_neg c]
      rw [Int32.le_iff_toInt_le, k4] at c
      rw [canGo_eqo1 R I (t := x) ⟨f.1, by omega⟩, who21o1 R I q (x + 1) (by
        unfold iv
        rw [ti_add (by omega) (by omega), k1]
        omega)]
theorem who_eqo1 {z : zT} {h g : ph_H} {a : Int32} (R : RCo1 h g) (I : IM z g) (f : iv 0 3 a) : FX3_whoGoes_oc1 a h = FX12_free a g := by
  have k4 : (4 : Int32).toInt = 4 := by decide
  unfold FX3_whoGoes_oc1 FX3_whoGoes_oc1_19 FX12_free
  have f' := f
  unfold iv at f
  rw [if_neg (nn_t f.1), if_neg (by rw [Int32.le_iff_toInt_le, k4]; omega), canGo_eqo1 R I f', who21o1 R I 2000 0 ⟨by decide, by decide⟩]
def N7 (x : Int32) : Prop := ¬ x = 7
theorem N7_if {a b : Int32} {c : Prop} [Decidable c] (x : c → N7 a) (y : ¬ c → N7 b) : N7 (if c then a else b) := by
  by_cases d : c
  · rw [if_pos d]
    exact x d
  · rw [if_neg d]
    exact y d
theorem why_n7 {t o a b c n : Int32} {g : ph_H} (k : ¬ g 0 33 = 0) : N7 (FX12_why t o a b c n g) := by
  have m : iv 0 9 (FX12_modulo n 10) := modulo_iv (m := 10) rfl
  have k10 : (10 : Int32).toInt = 10 := by decide
  have k7 : (7 : Int32).toInt = 7 := by decide
  have z : ¬ 10 + FX12_modulo n 10 = 7 := fun w => by
    unfold iv at m
    have e : (10 + FX12_modulo n 10).toInt = 10 + (FX12_modulo n 10).toInt := by rw [ti_add (by omega) (by omega), k10]
    rw [w, k7] at e
    omega
  unfold FX12_why FX12_why_99 FX12_why_169 FX12_why_196 FX12_why_266
  repeat' (with_reducible refine N7_if (fun q => ?_) (fun q => ?_))
  all_goals first | (show ¬ _ = _; decide) | exact z | contradiction
theorem ins102_25 {t i a b c s0 : Int32} (G : ph_H) : FX12_instruct_102 t i a b c s0 G 0 25 = s0 := by
  have B : ∀ x6 y (K : ph_H), FX12_instruct_177 t i a b c x6 y K 0 25 = K 0 25 := fun x6 y K => by
    unfold FX12_instruct_177 FX12_instruct_195 FX12_instruct_204 FX12_instruct_251
    have w := frW_FX12_work (h0 := K) t (K 2 i.toNatClampNeg) a b c K (EQ_r K) 0 25 rfl
    have p := frX_FX12_workPlain (h0 := FX12_work t (K 2 i.toNatClampNeg) a b c K) t i a b _ (EQ_r _) 0 25 rfl
    rw [w] at p
    split
    · exact p
    · split
      · rw [goTo_o _ _ _ _ _ (by simp)]
        exact p
      · split <;> (rw [goTo_o _ _ _ _ _ (by simp)]; exact p)
  unfold FX12_instruct_102 FX12_instruct_144 FX12_instruct_148 FX12_instruct_149
  split
  · repeat' split
    all_goals rw [B, hs_self]
  · rw [hs_self]
theorem ins_25 {t i : Int32} {g : ph_H} (k : ¬ g 0 33 = 0) : ¬ FX12_instruct t i g 0 25 = 7 := by
  unfold FX12_instruct FX12_instruct_98
  split
  · split
    · rw [ins102_25, hs_self]
      exact why_n7 k
    · rw [ins102_25]
      decide
  · rw [ins102_25, hs_self]
    exact why_n7 k
theorem step_n7 {t : Int32} {g : ph_H} (k : ¬ g 0 33 = 0) (z : g 0 25 = 0) : ¬ FX12_step t g 0 25 = 7 := by
  have A : ∀ (i : Int32) (G : ph_H), ¬ G 0 33 = 0 → ¬ FX12_step_148 t i G 0 25 = 7 := fun i G e => by
    unfold FX12_step_148 FX12_step_154
    rw [hs_o (by simp), hs_o (by simp)]
    exact ins_25 e
  have G0 : ∀ (G : ph_H), G 0 33 = g 0 33 → ¬ G 0 33 = 0 := fun G e => by rw [e]; exact k
  unfold FX12_step
  by_cases c : g 15 t.toNatClampNeg < 0
  · rw [if_pos c]
    by_cases d : g 2 ((24 * t) + g 12 t.toNatClampNeg).toNatClampNeg = 16
    · rw [if_pos d, if_neg k]
      by_cases e : g 0 23 = g 0 34
      · rw [if_pos e, hs_o (by simp), hs_o (by simp), hs_o (by simp), hs_o (by simp), hs_o (by simp), hs_o (by simp), hs_o (by simp), z]
        decide
      · rw [if_neg e]
        exact A _ _ (by rw [hs_o (by simp), hs_o (by simp), hs_o (by simp), hs_o (by simp), hs_o (by simp), hs_o (by simp)]; exact k)
    · rw [if_neg d]
      exact A _ _ (by rw [hs_o (by simp), hs_o (by simp), hs_o (by simp), hs_o (by simp), hs_o (by simp), hs_o (by simp)]; exact k)
  · rw [if_neg c]
    unfold FX12_step_110 FX12_step_154
    rw [hs_o (by simp), hs_o (by simp), goTo_o _ _ _ _ _ (by simp)]
    simp [hs_get, z]
theorem free_no {g : ph_H} {a : Int32} (n : FX12_free a g < 0) (ha : iv 0 3 a) : FX12_free 0 g < 0 := by
  unfold FX12_free at *
  by_cases c : FX12_canGo a g = 0
  · rw [if_pos c] at n
    by_cases d : FX12_canGo 0 g = 0
    · rw [if_pos d]
      exact n
    · exfalso
      have : FX12_free_12 2000 0 g = 0 := by
        show FX12_free_12 (1999 + 1) 0 g = 0
        unfold FX12_free_12
        rw [if_neg (by decide), if_neg d]
      rw [this] at n
      exact absurd n (by decide)
  · rw [if_neg c] at n
    rw [Int32.lt_iff_toInt_lt] at n
    have k0 : (0 : Int32).toInt = 0 := by decide
    unfold iv at ha
    omega
