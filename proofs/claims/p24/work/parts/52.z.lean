/-! at the law's entry nothing is told and nothing has run -/
theorem L00r : LR hC0 hM0 := by
  have c : ∀ k i, ¬ k = 0 → hC0 k i = 0 := fun k i q => by rw [hC_row q]
  have m : ∀ k i, ¬ k = 0 → hM0 k i = 0 := fun k i q => by rw [hM_row q]
  have c8 : hC0 0 8 = 0 := rfl
  have m36 : hM0 0 36 = 0 := rfl
  have m7 : hM0 0 7 = 0 := rfl
  have m9 : hM0 0 9 = 0 := rfl
  refine ⟨⟨fun t _ => ?_, fun i _ => ?_, fun t _ => ?_, ⟨?_, fun k _ => ?_⟩, ⟨?_, fun k _ => ?_⟩, fun i => ?_⟩, ⟨?_, fun n => absurd m36 n⟩, fun n => absurd m36 n, fun n => absurd m36 n, rfl, ?_⟩
  · rw [c _ _ (by decide), m _ _ (by decide)]
  · rw [c _ _ (by decide), c _ _ (by decide), c _ _ (by decide), c _ _ (by decide), m _ _ (by decide), m _ _ (by decide), m _ _ (by decide), m _ _ (by decide)]
    exact ⟨rfl, rfl, rfl, rfl⟩
  · rw [c _ _ (by decide), m _ _ (by decide)]
  · rw [c _ _ (by decide), m7]
  · rw [c _ _ (by decide), m _ _ (by decide)]
  · rw [c _ _ (by decide), m9]
  · rw [c _ _ (by decide), c _ _ (by decide), m _ _ (by decide), m _ _ (by decide)]
    exact ⟨rfl, rfl⟩
  · rw [m _ _ (by decide)]
    exact ⟨by decide, by decide⟩
  · rw [c8, m36]
  · have m67 : hM0 0 67 = 0 := rfl
    have m69 : hM0 0 69 = 0 := rfl
    refine ⟨?_, ?_, fun n => absurd m69 n⟩
    · rw [c _ _ (by decide), m67]
    · rw [c _ _ (by decide), m69]
theorem L00 : LO hC0 hM0 := ⟨L00r, fun n => absurd (show hM0 0 36 = 0 from rfl) n⟩
