/-! the class's own step: which INSTRUCTION does what -/
section
variable {h : ph_H} {t a b c : Int32}
theorem pf_0o2 (q0 : h 10 (FX5_firstPart_t t (h 28 t.toNatClampNeg) h).toNatClampNeg = 0) (q1 : h 10 ((FX5_firstPart_t t (h 28 t.toNatClampNeg) h) + 1).toNatClampNeg = a) (q2 : h 10 ((FX5_firstPart_t t (h 28 t.toNatClampNeg) h) + 2).toNatClampNeg = b) (q3 : h 10 ((FX5_firstPart_t t (h 28 t.toNatClampNeg) h) + 3).toNatClampNeg = c) : FX3_perform_oc2 t h = FX3_hold_oc2 (FX3_slotOf t a) 0 b h := by unfold FX3_perform_oc2; simp (decide := true) only [q0, q1, q2, q3, ↓reduceIte]
theorem pf_1o2 (q0 : h 10 (FX5_firstPart_t t (h 28 t.toNatClampNeg) h).toNatClampNeg = 1) (q1 : h 10 ((FX5_firstPart_t t (h 28 t.toNatClampNeg) h) + 1).toNatClampNeg = a) (q2 : h 10 ((FX5_firstPart_t t (h 28 t.toNatClampNeg) h) + 2).toNatClampNeg = b) (q3 : h 10 ((FX5_firstPart_t t (h 28 t.toNatClampNeg) h) + 3).toNatClampNeg = c) : FX3_perform_oc2 t h = FX3_getCell_oc2 (FX3_slotOf t a) (FJ9_floorMod_7cf53 b 12) h := by unfold FX3_perform_oc2; simp (decide := true) only [q0, q1, q2, q3, ↓reduceIte]
theorem pf_2o2 (q0 : h 10 (FX5_firstPart_t t (h 28 t.toNatClampNeg) h).toNatClampNeg = 2) (q1 : h 10 ((FX5_firstPart_t t (h 28 t.toNatClampNeg) h) + 1).toNatClampNeg = a) (q2 : h 10 ((FX5_firstPart_t t (h 28 t.toNatClampNeg) h) + 2).toNatClampNeg = b) (q3 : h 10 ((FX5_firstPart_t t (h 28 t.toNatClampNeg) h) + 3).toNatClampNeg = c) : FX3_perform_oc2 t h = FX3_putCell_oc2 (FJ9_floorMod_7cf53 a 12) (FX3_slotOf t b) h := by unfold FX3_perform_oc2; simp (decide := true) only [q0, q1, q2, q3, ↓reduceIte]
theorem pf_3o2 (q0 : h 10 (FX5_firstPart_t t (h 28 t.toNatClampNeg) h).toNatClampNeg = 3) (q1 : h 10 ((FX5_firstPart_t t (h 28 t.toNatClampNeg) h) + 1).toNatClampNeg = a) (q2 : h 10 ((FX5_firstPart_t t (h 28 t.toNatClampNeg) h) + 2).toNatClampNeg = b) (q3 : h 10 ((FX5_firstPart_t t (h 28 t.toNatClampNeg) h) + 3).toNatClampNeg = c) : FX3_perform_oc2 t h = FX3_reckon_oc2 3 (FX3_slotOf t a) (FX3_slotOf t b) h := by unfold FX3_perform_oc2; simp (decide := true) only [q0, q1, q2, q3, ↓reduceIte]
theorem pf_4o2 (q0 : h 10 (FX5_firstPart_t t (h 28 t.toNatClampNeg) h).toNatClampNeg = 4) (q1 : h 10 ((FX5_firstPart_t t (h 28 t.toNatClampNeg) h) + 1).toNatClampNeg = a) (q2 : h 10 ((FX5_firstPart_t t (h 28 t.toNatClampNeg) h) + 2).toNatClampNeg = b) (q3 : h 10 ((FX5_firstPart_t t (h 28 t.toNatClampNeg) h) + 3).toNatClampNeg = c) : FX3_perform_oc2 t h = FX3_reckon_oc2 4 (FX3_slotOf t a) (FX3_slotOf t b) h := by unfold FX3_perform_oc2; simp (decide := true) only [q0, q1, q2, q3, ↓reduceIte]
theorem pf_5o2 (q0 : h 10 (FX5_firstPart_t t (h 28 t.toNatClampNeg) h).toNatClampNeg = 5) (q1 : h 10 ((FX5_firstPart_t t (h 28 t.toNatClampNeg) h) + 1).toNatClampNeg = a) (q2 : h 10 ((FX5_firstPart_t t (h 28 t.toNatClampNeg) h) + 2).toNatClampNeg = b) (q3 : h 10 ((FX5_firstPart_t t (h 28 t.toNatClampNeg) h) + 3).toNatClampNeg = c) : FX3_perform_oc2 t h = FX3_reckon_oc2 5 (FX3_slotOf t a) (FX3_slotOf t b) h := by unfold FX3_perform_oc2; simp (decide := true) only [q0, q1, q2, q3, ↓reduceIte]
theorem pf_6o2 (q0 : h 10 (FX5_firstPart_t t (h 28 t.toNatClampNeg) h).toNatClampNeg = 6) (q1 : h 10 ((FX5_firstPart_t t (h 28 t.toNatClampNeg) h) + 1).toNatClampNeg = a) (q2 : h 10 ((FX5_firstPart_t t (h 28 t.toNatClampNeg) h) + 2).toNatClampNeg = b) (q3 : h 10 ((FX5_firstPart_t t (h 28 t.toNatClampNeg) h) + 3).toNatClampNeg = c) : FX3_perform_oc2 t h = FX3_goTo_oc2 a h := by unfold FX3_perform_oc2; simp (decide := true) only [q0, q1, q2, q3, ↓reduceIte]
theorem pf_7o2 (q0 : h 10 (FX5_firstPart_t t (h 28 t.toNatClampNeg) h).toNatClampNeg = 7) (q1 : h 10 ((FX5_firstPart_t t (h 28 t.toNatClampNeg) h) + 1).toNatClampNeg = a) (q2 : h 10 ((FX5_firstPart_t t (h 28 t.toNatClampNeg) h) + 2).toNatClampNeg = b) (q3 : h 10 ((FX5_firstPart_t t (h 28 t.toNatClampNeg) h) + 3).toNatClampNeg = c) : FX3_perform_oc2 t h = FX3_goUnless_oc2 (FX3_slotOf t a) b h := by unfold FX3_perform_oc2; simp (decide := true) only [q0, q1, q2, q3, ↓reduceIte]
theorem pf_8o2 (q0 : h 10 (FX5_firstPart_t t (h 28 t.toNatClampNeg) h).toNatClampNeg = 8) (q1 : h 10 ((FX5_firstPart_t t (h 28 t.toNatClampNeg) h) + 1).toNatClampNeg = a) (q2 : h 10 ((FX5_firstPart_t t (h 28 t.toNatClampNeg) h) + 2).toNatClampNeg = b) (q3 : h 10 ((FX5_firstPart_t t (h 28 t.toNatClampNeg) h) + 3).toNatClampNeg = c) : FX3_perform_oc2 t h = FX3_makeRow_oc2 (FX3_slotOf t a) (FX3_slotOf t b) h := by unfold FX3_perform_oc2; simp (decide := true) only [q0, q1, q2, q3, ↓reduceIte]
theorem pf_9o2 (q0 : h 10 (FX5_firstPart_t t (h 28 t.toNatClampNeg) h).toNatClampNeg = 9) (q1 : h 10 ((FX5_firstPart_t t (h 28 t.toNatClampNeg) h) + 1).toNatClampNeg = a) (q2 : h 10 ((FX5_firstPart_t t (h 28 t.toNatClampNeg) h) + 2).toNatClampNeg = b) (q3 : h 10 ((FX5_firstPart_t t (h 28 t.toNatClampNeg) h) + 3).toNatClampNeg = c) : FX3_perform_oc2 t h = FX3_readRow_oc2 (FX3_slotOf t a) (FX3_slotOf t b) (FX3_slotOf t c) h := by unfold FX3_perform_oc2; simp (decide := true) only [q0, q1, q2, q3, ↓reduceIte]
theorem pf_10o2 (q0 : h 10 (FX5_firstPart_t t (h 28 t.toNatClampNeg) h).toNatClampNeg = 10) (q1 : h 10 ((FX5_firstPart_t t (h 28 t.toNatClampNeg) h) + 1).toNatClampNeg = a) (q2 : h 10 ((FX5_firstPart_t t (h 28 t.toNatClampNeg) h) + 2).toNatClampNeg = b) (q3 : h 10 ((FX5_firstPart_t t (h 28 t.toNatClampNeg) h) + 3).toNatClampNeg = c) : FX3_perform_oc2 t h = FX3_writeRow_oc2 (FX3_slotOf t a) (FX3_slotOf t b) (FX3_slotOf t c) h := by unfold FX3_perform_oc2; simp (decide := true) only [q0, q1, q2, q3, ↓reduceIte]
theorem pf_11o2 (q0 : h 10 (FX5_firstPart_t t (h 28 t.toNatClampNeg) h).toNatClampNeg = 11) (q1 : h 10 ((FX5_firstPart_t t (h 28 t.toNatClampNeg) h) + 1).toNatClampNeg = a) (q2 : h 10 ((FX5_firstPart_t t (h 28 t.toNatClampNeg) h) + 2).toNatClampNeg = b) (q3 : h 10 ((FX5_firstPart_t t (h 28 t.toNatClampNeg) h) + 3).toNatClampNeg = c) : FX3_perform_oc2 t h = if (b &&& 1) = 0 then FX3_makeLock_oc2 (FX3_slotOf t a) 0 h else FX3_makeLock_oc2 (FX3_slotOf t a) 1 h := by
  unfold FX3_perform_oc2 FX3_perform_oc2_288
  simp (decide := true) only [q0, q1, q2, q3, ↓reduceIte]
theorem pf_12o2 (q0 : h 10 (FX5_firstPart_t t (h 28 t.toNatClampNeg) h).toNatClampNeg = 12) (q1 : h 10 ((FX5_firstPart_t t (h 28 t.toNatClampNeg) h) + 1).toNatClampNeg = a) (q2 : h 10 ((FX5_firstPart_t t (h 28 t.toNatClampNeg) h) + 2).toNatClampNeg = b) (q3 : h 10 ((FX5_firstPart_t t (h 28 t.toNatClampNeg) h) + 3).toNatClampNeg = c) : FX3_perform_oc2 t h = FX3_takeLock_oc2 t (FX3_slotOf t a) h := by unfold FX3_perform_oc2; simp (decide := true) only [q0, q1, q2, q3, ↓reduceIte]
theorem pf_13o2 (q0 : h 10 (FX5_firstPart_t t (h 28 t.toNatClampNeg) h).toNatClampNeg = 13) (q1 : h 10 ((FX5_firstPart_t t (h 28 t.toNatClampNeg) h) + 1).toNatClampNeg = a) (q2 : h 10 ((FX5_firstPart_t t (h 28 t.toNatClampNeg) h) + 2).toNatClampNeg = b) (q3 : h 10 ((FX5_firstPart_t t (h 28 t.toNatClampNeg) h) + 3).toNatClampNeg = c) : FX3_perform_oc2 t h = FX3_leaveLock_oc2 t (FX3_slotOf t a) h := by unfold FX3_perform_oc2; simp (decide := true) only [q0, q1, q2, q3, ↓reduceIte]
theorem pf_14o2 (q0 : h 10 (FX5_firstPart_t t (h 28 t.toNatClampNeg) h).toNatClampNeg = 14) (q1 : h 10 ((FX5_firstPart_t t (h 28 t.toNatClampNeg) h) + 1).toNatClampNeg = a) (q2 : h 10 ((FX5_firstPart_t t (h 28 t.toNatClampNeg) h) + 2).toNatClampNeg = b) (q3 : h 10 ((FX5_firstPart_t t (h 28 t.toNatClampNeg) h) + 3).toNatClampNeg = c) : FX3_perform_oc2 t h = FX3_lieDown_oc2 t (FX3_slotOf t a) h := by unfold FX3_perform_oc2; simp (decide := true) only [q0, q1, q2, q3, ↓reduceIte]
theorem pf_15o2 (q0 : h 10 (FX5_firstPart_t t (h 28 t.toNatClampNeg) h).toNatClampNeg = 15) (q1 : h 10 ((FX5_firstPart_t t (h 28 t.toNatClampNeg) h) + 1).toNatClampNeg = a) (q2 : h 10 ((FX5_firstPart_t t (h 28 t.toNatClampNeg) h) + 2).toNatClampNeg = b) (q3 : h 10 ((FX5_firstPart_t t (h 28 t.toNatClampNeg) h) + 3).toNatClampNeg = c) : FX3_perform_oc2 t h = FX3_wakeSleepers_oc2 t (FX3_slotOf t a) h := by unfold FX3_perform_oc2; simp (decide := true) only [q0, q1, q2, q3, ↓reduceIte]
theorem pf_16o2 (q0 : h 10 (FX5_firstPart_t t (h 28 t.toNatClampNeg) h).toNatClampNeg = 16) (q1 : h 10 ((FX5_firstPart_t t (h 28 t.toNatClampNeg) h) + 1).toNatClampNeg = a) (q2 : h 10 ((FX5_firstPart_t t (h 28 t.toNatClampNeg) h) + 2).toNatClampNeg = b) (q3 : h 10 ((FX5_firstPart_t t (h 28 t.toNatClampNeg) h) + 3).toNatClampNeg = c) : FX3_perform_oc2 t h = FX3_takeInput_oc2 (FX3_slotOf t a) h := by unfold FX3_perform_oc2; simp (decide := true) only [q0, q1, q2, q3, ↓reduceIte]
theorem pf_17o2 (q0 : h 10 (FX5_firstPart_t t (h 28 t.toNatClampNeg) h).toNatClampNeg = 17) (q1 : h 10 ((FX5_firstPart_t t (h 28 t.toNatClampNeg) h) + 1).toNatClampNeg = a) (q2 : h 10 ((FX5_firstPart_t t (h 28 t.toNatClampNeg) h) + 2).toNatClampNeg = b) (q3 : h 10 ((FX5_firstPart_t t (h 28 t.toNatClampNeg) h) + 3).toNatClampNeg = c) : FX3_perform_oc2 t h = FX3_startThread_oc2 (FJ9_floorMod_7cf53 a 4) h := by unfold FX3_perform_oc2; simp (decide := true) only [q0, q1, q2, q3, ↓reduceIte]
theorem pf_18o2 (q0 : h 10 (FX5_firstPart_t t (h 28 t.toNatClampNeg) h).toNatClampNeg = 18) (q1 : h 10 ((FX5_firstPart_t t (h 28 t.toNatClampNeg) h) + 1).toNatClampNeg = a) (q2 : h 10 ((FX5_firstPart_t t (h 28 t.toNatClampNeg) h) + 2).toNatClampNeg = b) (q3 : h 10 ((FX5_firstPart_t t (h 28 t.toNatClampNeg) h) + 3).toNatClampNeg = c) : FX3_perform_oc2 t h = (10 + FJ9_floorMod_7cf53 b 10, h) := by unfold FX3_perform_oc2; simp (decide := true) only [q0, q1, q2, q3, ↓reduceIte]
theorem pf_19o2 (q0 : h 10 (FX5_firstPart_t t (h 28 t.toNatClampNeg) h).toNatClampNeg = 19) (q1 : h 10 ((FX5_firstPart_t t (h 28 t.toNatClampNeg) h) + 1).toNatClampNeg = a) (q2 : h 10 ((FX5_firstPart_t t (h 28 t.toNatClampNeg) h) + 2).toNatClampNeg = b) (q3 : h 10 ((FX5_firstPart_t t (h 28 t.toNatClampNeg) h) + 3).toNatClampNeg = c) : FX3_perform_oc2 t h = FX3_goTo_oc2 24 h := by unfold FX3_perform_oc2; simp (decide := true) only [q0, q1, q2, q3, ↓reduceIte]
end
/-! what a step did -/
def EFo2 (h g : ph_H) : Prop := h 25 14 = g 0 29 ∧ h 25 15 = g 0 30 ∧ h 25 16 = g 0 31 ∧ (¬ g 0 31 = 0 → ¬ g 0 31 = 3 → h 25 17 = g 0 32)
def S0co2 (t : Int32) (h g : ph_H) : Prop := h 25 13 = h 28 t.toNatClampNeg + 1 ∧ h 25 14 = -2 ∧ h 25 15 = -2 ∧ h 25 16 = 0 ∧ g 0 29 = -2 ∧ g 0 30 = -2 ∧ g 0 31 = 0
def SIMo2 (t : Int32) (r : Int32 × ph_H) (G : ph_H) : Prop := (FX3_go_oc2_67 t r.1 r.2).1 = G 0 25 ∧ RCo2 (FX3_go_oc2_67 t r.1 r.2).2 G ∧ EFo2 (FX3_go_oc2_67 t r.1 r.2).2 G ∧ FL G
theorem fin_failo2 {t f : Int32} {h g : ph_H} (R : RCo2 h g) (S : S0co2 t h g) (hf : ¬ f = 0) (hm : 0 ≤ f.toInt) : SIMo2 t (f, h) (hs g 0 25 f) := by
  obtain ⟨s1, s2, s3, s4, s5, s6, s7⟩ := S
  unfold SIMo2 FX3_go_oc2_67
  rw [if_neg hf]
  refine ⟨by rw [hs_self], R.rso2 rfl, ?_, ?_⟩
  · simp [EFo2, hs_get, s2, s3, s4, s5, s6, s7]
  · simp [FL, PLp, hs_get, s5, s6, s7, hm]
theorem fin_goo2 {t a : Int32} {X G : ph_H} (R : RCo2 X G) (E : EFo2 X G) (h0 : G 0 25 = 0) (pl : PLp (G 0 29) ∧ PLp (G 0 30)) (e : X 25 13 = a) : SIMo2 t (0, X) (FX12_goTo t a G) := by
  unfold SIMo2 FX3_go_oc2_67
  subst e
  rw [goTo_eq, if_pos rfl]
  refine ⟨?_, R.ato2, ?_, ?_⟩
  · rw [hs_o (by simp)]
    exact h0.symm
  · simpa [EFo2, hs_get] using E
  · have k0 : (0 : Int32).toInt = 0 := by decide
    simp [FL, hs_get, h0, k0, pl]
theorem fin_stayo2 {t : Int32} {X G : ph_H} (R : RCo2 X G) (E : EFo2 X G) (h0 : G 0 25 = 0) (pl : PLp (G 0 29) ∧ PLp (G 0 30)) (e : nrm (G 1 t.toNatClampNeg) (X 25 13) = G 12 t.toNatClampNeg) : SIMo2 t (0, X) G := by
  have k := fin_goo2 (t := t) R E h0 pl rfl
  rw [goTo_eq, e, hs_id] at k
  exact k
/-! each INSTRUCTION -/
theorem op_0o2 {z : zT} {h g : ph_H} {t : Int32} (R : RCo2 h g) (I : IM z g) (ht : iv 0 3 t) (S : S0co2 t h g) (e18 : h 28 t.toNatClampNeg = g 12 t.toNatClampNeg) {i : Int32} (q0 : h 10 (FX5_firstPart_t t (h 28 t.toNatClampNeg) h).toNatClampNeg = g 2 i.toNatClampNeg) (q1 : h 10 ((FX5_firstPart_t t (h 28 t.toNatClampNeg) h) + 1).toNatClampNeg = g 3 i.toNatClampNeg) (q2 : h 10 ((FX5_firstPart_t t (h 28 t.toNatClampNeg) h) + 2).toNatClampNeg = g 4 i.toNatClampNeg) (q3 : h 10 ((FX5_firstPart_t t (h 28 t.toNatClampNeg) h) + 3).toNatClampNeg = g 5 i.toNatClampNeg) (o : g 2 i.toNatClampNeg = 0) : SIMo2 t (FX3_perform_oc2 t h) (FX12_instruct t i g) := by
  rw [pf_0o2 (q0.trans o) q1 q2 q3, ins_0 o, slot_eq t _ g]
  obtain ⟨s1, s2, s3, s4, s5, s6, s7⟩ := S
  refine fin_goo2 ((R.rso2 rfl).sloto2 (Or.inl rfl)) ?_ (by simp [hs_get]) (by simp [PLp, hs_get, s5, s6]) ?_
  · simp [EFo2, hs_get, s2, s3, s4, s5, s6, s7]
  · simp [hs_get, s1, e18]
theorem lv_sloto2 {h g : ph_H} {k : Nat} (R : RCo2 h g) (hk : k < 28) : g 10 k = 0 ∨ (0 ≤ (g 11 k).toInt ∧ (g 11 k).toInt < (g 0 18).toInt ∧ g 16 (g 11 k).toNatClampNeg = g 10 k) := R.2.2.2.2.2.2.1 k hk
theorem op_1o2 {z : zT} {h g : ph_H} {t : Int32} (R : RCo2 h g) (I : IM z g) (ht : iv 0 3 t) (S : S0co2 t h g) (e18 : h 28 t.toNatClampNeg = g 12 t.toNatClampNeg) {i : Int32} (q0 : h 10 (FX5_firstPart_t t (h 28 t.toNatClampNeg) h).toNatClampNeg = g 2 i.toNatClampNeg) (q1 : h 10 ((FX5_firstPart_t t (h 28 t.toNatClampNeg) h) + 1).toNatClampNeg = g 3 i.toNatClampNeg) (q2 : h 10 ((FX5_firstPart_t t (h 28 t.toNatClampNeg) h) + 2).toNatClampNeg = g 4 i.toNatClampNeg) (q3 : h 10 ((FX5_firstPart_t t (h 28 t.toNatClampNeg) h) + 3).toNatClampNeg = g 5 i.toNatClampNeg) (o : g 2 i.toNatClampNeg = 1) : SIMo2 t (FX3_perform_oc2 t h) (FX12_instruct t i g) := by
  rw [pf_1o2 (q0.trans o) q1 q2 q3, ins_1 o, slot_eq t _ g, fmo12]
  obtain ⟨s1, s2, s3, s4, s5, s6, s7⟩ := S
  unfold FX3_getCell_oc2 FX3_hold_oc2
  obtain ⟨e1, e2⟩ := R.1 _ (m12_lt (g 4 i.toNatClampNeg))
  rw [e1, e2]
  refine fin_goo2 (((R.cso2 (by decide)).rso2 rfl).rso2 rfl |>.sloto2 ?_) ?_ (by simp [hs_get]) (by
    have pm : 0 ≤ (FX12_modulo (g 4 i.toNatClampNeg) 12).toInt := (modulo_iv (m := 12) (hi := 11) rfl).1
    simp [PLp, hs_get, s6, pm]) ?_
  · simpa [hs_get] using lv_sloto2 R (m12_lt (g 4 i.toNatClampNeg))
  · simp [EFo2, hs_get, s2, s3, s4, s5, s6, s7]
  · simp [hs_get, s1, e18]
theorem op_2o2 {z : zT} {h g : ph_H} {t : Int32} (R : RCo2 h g) (I : IM z g) (ht : iv 0 3 t) (S : S0co2 t h g) (e18 : h 28 t.toNatClampNeg = g 12 t.toNatClampNeg) {i : Int32} (q0 : h 10 (FX5_firstPart_t t (h 28 t.toNatClampNeg) h).toNatClampNeg = g 2 i.toNatClampNeg) (q1 : h 10 ((FX5_firstPart_t t (h 28 t.toNatClampNeg) h) + 1).toNatClampNeg = g 3 i.toNatClampNeg) (q2 : h 10 ((FX5_firstPart_t t (h 28 t.toNatClampNeg) h) + 2).toNatClampNeg = g 4 i.toNatClampNeg) (q3 : h 10 ((FX5_firstPart_t t (h 28 t.toNatClampNeg) h) + 3).toNatClampNeg = g 5 i.toNatClampNeg) (o : g 2 i.toNatClampNeg = 2) : SIMo2 t (FX3_perform_oc2 t h) (FX12_instruct t i g) := by
  rw [pf_2o2 (q0.trans o) q1 q2 q3, ins_2 o, slot_eq t _ g, fmo12]
  obtain ⟨s1, s2, s3, s4, s5, s6, s7⟩ := S
  unfold FX3_putCell_oc2 FX3_hold_oc2
  obtain ⟨e1, e2⟩ := R.1 _ (sl_lto2 (a := g 4 i.toNatClampNeg) (g := g) ht)
  rw [e1, e2]
  refine fin_goo2 (((R.cso2 (by decide)).rso2 rfl).rso2 rfl |>.sloto2 ?_) ?_ (by simp [hs_get]) (by
    have pm : 0 ≤ (FX12_modulo (g 3 i.toNatClampNeg) 12).toInt := (modulo_iv (m := 12) (hi := 11) rfl).1
    simp [PLp, hs_get, s5, pm]) ?_
  · simpa [hs_get] using lv_sloto2 R (sl_lto2 (a := g 4 i.toNatClampNeg) (g := g) ht)
  · simp [EFo2, hs_get, s2, s3, s4, s5, s6, s7]
  · simp [hs_get, s1, e18]
theorem op_3o2 {z : zT} {h g : ph_H} {t : Int32} (R : RCo2 h g) (I : IM z g) (ht : iv 0 3 t) (S : S0co2 t h g) (e18 : h 28 t.toNatClampNeg = g 12 t.toNatClampNeg) {i : Int32} (q0 : h 10 (FX5_firstPart_t t (h 28 t.toNatClampNeg) h).toNatClampNeg = g 2 i.toNatClampNeg) (q1 : h 10 ((FX5_firstPart_t t (h 28 t.toNatClampNeg) h) + 1).toNatClampNeg = g 3 i.toNatClampNeg) (q2 : h 10 ((FX5_firstPart_t t (h 28 t.toNatClampNeg) h) + 2).toNatClampNeg = g 4 i.toNatClampNeg) (q3 : h 10 ((FX5_firstPart_t t (h 28 t.toNatClampNeg) h) + 3).toNatClampNeg = g 5 i.toNatClampNeg) (o : g 2 i.toNatClampNeg = 3) : SIMo2 t (FX3_perform_oc2 t h) (FX12_instruct t i g) := by
  rw [pf_3o2 (q0.trans o) q1 q2 q3, slot_eq t _ g, slot_eq t _ g]
  unfold FX3_reckon_oc2 FX3_bothNumbers_oc2 FX3_reckon_oc2_58 FX3_hold_oc2
  obtain ⟨a1, a2⟩ := R.1 _ (sl_lto2 (a := g 3 i.toNatClampNeg) (g := g) ht)
  obtain ⟨b1, b2⟩ := R.1 _ (sl_lto2 (a := g 4 i.toNatClampNeg) (g := g) ht)
  rw [a1, b1, a2, b2]
  by_cases n : g 10 (FX12_local t (g 3 i.toNatClampNeg) g).toNatClampNeg = 0 ∧ g 10 (FX12_local t (g 4 i.toNatClampNeg) g).toNatClampNeg = 0
  · rw [ins_3 o n.1 n.2]
    obtain ⟨s1, s2, s3, s4, s5, s6, s7⟩ := S
    simp (decide := true) only [n.1, n.2, ↓reduceIte]
    refine fin_goo2 ((R.rso2 rfl).sloto2 (Or.inl rfl)) ?_ (by simp [hs_get]) (by simp [PLp, hs_get, s5, s6]) ?_
    · simp [EFo2, hs_get, s2, s3, s4, s5, s6, s7]
    · simp [hs_get, s1, e18]
  · rw [ins_f (w := 1) (by rw [o]; decide) (by rw [o]; exact why3 (by simp) n) (by decide)]
    have : (if g 10 (FX12_local t (g 3 i.toNatClampNeg) g).toNatClampNeg = 0 then (if g 10 (FX12_local t (g 4 i.toNatClampNeg) g).toNatClampNeg = 0 then (1 : Int32) else 0) else 0) = 0 := by
      by_cases c1 : g 10 (FX12_local t (g 3 i.toNatClampNeg) g).toNatClampNeg = 0
      · rw [if_pos c1, if_neg (fun w => n ⟨c1, w⟩)]
      · rw [if_neg c1]
    rw [this, if_pos rfl]
    exact fin_failo2 R S (by decide) (by decide)
theorem op_4o2 {z : zT} {h g : ph_H} {t : Int32} (R : RCo2 h g) (I : IM z g) (ht : iv 0 3 t) (S : S0co2 t h g) (e18 : h 28 t.toNatClampNeg = g 12 t.toNatClampNeg) {i : Int32} (q0 : h 10 (FX5_firstPart_t t (h 28 t.toNatClampNeg) h).toNatClampNeg = g 2 i.toNatClampNeg) (q1 : h 10 ((FX5_firstPart_t t (h 28 t.toNatClampNeg) h) + 1).toNatClampNeg = g 3 i.toNatClampNeg) (q2 : h 10 ((FX5_firstPart_t t (h 28 t.toNatClampNeg) h) + 2).toNatClampNeg = g 4 i.toNatClampNeg) (q3 : h 10 ((FX5_firstPart_t t (h 28 t.toNatClampNeg) h) + 3).toNatClampNeg = g 5 i.toNatClampNeg) (o : g 2 i.toNatClampNeg = 4) : SIMo2 t (FX3_perform_oc2 t h) (FX12_instruct t i g) := by
  rw [pf_4o2 (q0.trans o) q1 q2 q3, slot_eq t _ g, slot_eq t _ g]
  unfold FX3_reckon_oc2 FX3_bothNumbers_oc2 FX3_reckon_oc2_58 FX3_hold_oc2
  obtain ⟨a1, a2⟩ := R.1 _ (sl_lto2 (a := g 3 i.toNatClampNeg) (g := g) ht)
  obtain ⟨b1, b2⟩ := R.1 _ (sl_lto2 (a := g 4 i.toNatClampNeg) (g := g) ht)
  rw [a1, b1, a2, b2]
  by_cases n : g 10 (FX12_local t (g 3 i.toNatClampNeg) g).toNatClampNeg = 0 ∧ g 10 (FX12_local t (g 4 i.toNatClampNeg) g).toNatClampNeg = 0
  · rw [ins_4 o n.1 n.2]
    obtain ⟨s1, s2, s3, s4, s5, s6, s7⟩ := S
    simp (decide := true) only [n.1, n.2, ↓reduceIte]
    refine fin_goo2 ((R.rso2 rfl).sloto2 (Or.inl rfl)) ?_ (by simp [hs_get]) (by simp [PLp, hs_get, s5, s6]) ?_
    · simp [EFo2, hs_get, s2, s3, s4, s5, s6, s7]
    · simp [hs_get, s1, e18]
  · rw [ins_f (w := 1) (by rw [o]; decide) (by rw [o]; exact why3 (by simp) n) (by decide)]
    have : (if g 10 (FX12_local t (g 3 i.toNatClampNeg) g).toNatClampNeg = 0 then (if g 10 (FX12_local t (g 4 i.toNatClampNeg) g).toNatClampNeg = 0 then (1 : Int32) else 0) else 0) = 0 := by
      by_cases c1 : g 10 (FX12_local t (g 3 i.toNatClampNeg) g).toNatClampNeg = 0
      · rw [if_pos c1, if_neg (fun w => n ⟨c1, w⟩)]
      · rw [if_neg c1]
    rw [this, if_pos rfl]
    exact fin_failo2 R S (by decide) (by decide)
theorem op_5o2 {z : zT} {h g : ph_H} {t : Int32} (R : RCo2 h g) (I : IM z g) (ht : iv 0 3 t) (S : S0co2 t h g) (e18 : h 28 t.toNatClampNeg = g 12 t.toNatClampNeg) {i : Int32} (q0 : h 10 (FX5_firstPart_t t (h 28 t.toNatClampNeg) h).toNatClampNeg = g 2 i.toNatClampNeg) (q1 : h 10 ((FX5_firstPart_t t (h 28 t.toNatClampNeg) h) + 1).toNatClampNeg = g 3 i.toNatClampNeg) (q2 : h 10 ((FX5_firstPart_t t (h 28 t.toNatClampNeg) h) + 2).toNatClampNeg = g 4 i.toNatClampNeg) (q3 : h 10 ((FX5_firstPart_t t (h 28 t.toNatClampNeg) h) + 3).toNatClampNeg = g 5 i.toNatClampNeg) (o : g 2 i.toNatClampNeg = 5) : SIMo2 t (FX3_perform_oc2 t h) (FX12_instruct t i g) := by
  rw [pf_5o2 (q0.trans o) q1 q2 q3, slot_eq t _ g, slot_eq t _ g]
  unfold FX3_reckon_oc2 FX3_bothNumbers_oc2 FX3_reckon_oc2_58 FX3_hold_oc2
  obtain ⟨a1, a2⟩ := R.1 _ (sl_lto2 (a := g 3 i.toNatClampNeg) (g := g) ht)
  obtain ⟨b1, b2⟩ := R.1 _ (sl_lto2 (a := g 4 i.toNatClampNeg) (g := g) ht)
  rw [a1, b1, a2, b2]
  by_cases n : g 10 (FX12_local t (g 3 i.toNatClampNeg) g).toNatClampNeg = 0 ∧ g 10 (FX12_local t (g 4 i.toNatClampNeg) g).toNatClampNeg = 0
  · rw [ins_5 o n.1 n.2]
    obtain ⟨s1, s2, s3, s4, s5, s6, s7⟩ := S
    simp (decide := true) only [n.1, n.2, ↓reduceIte]
    refine fin_goo2 ((R.rso2 rfl).sloto2 (Or.inl rfl)) ?_ (by simp [hs_get]) (by simp [PLp, hs_get, s5, s6]) ?_
    · simp [EFo2, hs_get, s2, s3, s4, s5, s6, s7]
    · simp [hs_get, s1, e18]
  · rw [ins_f (w := 1) (by rw [o]; decide) (by rw [o]; exact why3 (by simp) n) (by decide)]
    have : (if g 10 (FX12_local t (g 3 i.toNatClampNeg) g).toNatClampNeg = 0 then (if g 10 (FX12_local t (g 4 i.toNatClampNeg) g).toNatClampNeg = 0 then (1 : Int32) else 0) else 0) = 0 := by
      by_cases c1 : g 10 (FX12_local t (g 3 i.toNatClampNeg) g).toNatClampNeg = 0
      · rw [if_pos c1, if_neg (fun w => n ⟨c1, w⟩)]
      · rw [if_neg c1]
    rw [this, if_pos rfl]
    exact fin_failo2 R S (by decide) (by decide)
theorem op_6o2 {z : zT} {h g : ph_H} {t : Int32} (R : RCo2 h g) (I : IM z g) (ht : iv 0 3 t) (S : S0co2 t h g) (e18 : h 28 t.toNatClampNeg = g 12 t.toNatClampNeg) {i : Int32} (q0 : h 10 (FX5_firstPart_t t (h 28 t.toNatClampNeg) h).toNatClampNeg = g 2 i.toNatClampNeg) (q1 : h 10 ((FX5_firstPart_t t (h 28 t.toNatClampNeg) h) + 1).toNatClampNeg = g 3 i.toNatClampNeg) (q2 : h 10 ((FX5_firstPart_t t (h 28 t.toNatClampNeg) h) + 2).toNatClampNeg = g 4 i.toNatClampNeg) (q3 : h 10 ((FX5_firstPart_t t (h 28 t.toNatClampNeg) h) + 3).toNatClampNeg = g 5 i.toNatClampNeg) (o : g 2 i.toNatClampNeg = 6) : SIMo2 t (FX3_perform_oc2 t h) (FX12_instruct t i g) := by
  rw [pf_6o2 (q0.trans o) q1 q2 q3, ins_6 o]
  obtain ⟨s1, s2, s3, s4, s5, s6, s7⟩ := S
  unfold FX3_goTo_oc2
  refine fin_goo2 ((R.cso2 (by decide)).rso2 rfl) ?_ (by simp [hs_get]) (by simp [PLp, hs_get, s5, s6]) ?_
  · simp [EFo2, hs_get, s2, s3, s4, s5, s6, s7]
  · simp [hs_get]
theorem op_7o2 {z : zT} {h g : ph_H} {t : Int32} (R : RCo2 h g) (I : IM z g) (ht : iv 0 3 t) (S : S0co2 t h g) (e18 : h 28 t.toNatClampNeg = g 12 t.toNatClampNeg) {i : Int32} (q0 : h 10 (FX5_firstPart_t t (h 28 t.toNatClampNeg) h).toNatClampNeg = g 2 i.toNatClampNeg) (q1 : h 10 ((FX5_firstPart_t t (h 28 t.toNatClampNeg) h) + 1).toNatClampNeg = g 3 i.toNatClampNeg) (q2 : h 10 ((FX5_firstPart_t t (h 28 t.toNatClampNeg) h) + 2).toNatClampNeg = g 4 i.toNatClampNeg) (q3 : h 10 ((FX5_firstPart_t t (h 28 t.toNatClampNeg) h) + 3).toNatClampNeg = g 5 i.toNatClampNeg) (o : g 2 i.toNatClampNeg = 7) : SIMo2 t (FX3_perform_oc2 t h) (FX12_instruct t i g) := by
  rw [pf_7o2 (q0.trans o) q1 q2 q3, slot_eq t _ g]
  unfold FX3_goUnless_oc2 FX3_goUnless_oc2_25 FX3_goTo_oc2
  obtain ⟨a1, a2⟩ := R.1 _ (sl_lto2 (a := g 3 i.toNatClampNeg) (g := g) ht)
  rw [a1, a2]
  by_cases c1 : g 10 (FX12_local t (g 3 i.toNatClampNeg) g).toNatClampNeg = 0
  · rw [if_pos c1]
    by_cases c2 : g 11 (FX12_local t (g 3 i.toNatClampNeg) g).toNatClampNeg = 0
    · rw [if_pos c2, ins_7j o c1 c2]
      obtain ⟨s1, s2, s3, s4, s5, s6, s7⟩ := S
      refine fin_goo2 ((R.cso2 (by decide)).rso2 rfl) ?_ (by simp [hs_get]) (by simp [PLp, hs_get, s5, s6]) ?_
      · simp [EFo2, hs_get, s2, s3, s4, s5, s6, s7]
      · simp [hs_get]
    · rw [if_neg c2, ins_7n o c1 c2]
      obtain ⟨s1, s2, s3, s4, s5, s6, s7⟩ := S
      refine fin_goo2 (R.rso2 rfl) ?_ (by simp [hs_get]) (by simp [PLp, hs_get, s5, s6]) ?_
      · simp [EFo2, hs_get, s2, s3, s4, s5, s6, s7]
      · simp [hs_get, s1, e18]
  · rw [if_neg c1, ins_f (w := 1) (by rw [o]; decide) (by rw [o]; unfold FX12_why; simp (decide := true) only [c1, ↓reduceIte]) (by decide)]
    exact fin_failo2 R S (by decide) (by decide)
theorem op_18o2 {z : zT} {h g : ph_H} {t : Int32} (R : RCo2 h g) (I : IM z g) (ht : iv 0 3 t) (S : S0co2 t h g) (e18 : h 28 t.toNatClampNeg = g 12 t.toNatClampNeg) {i : Int32} (q0 : h 10 (FX5_firstPart_t t (h 28 t.toNatClampNeg) h).toNatClampNeg = g 2 i.toNatClampNeg) (q1 : h 10 ((FX5_firstPart_t t (h 28 t.toNatClampNeg) h) + 1).toNatClampNeg = g 3 i.toNatClampNeg) (q2 : h 10 ((FX5_firstPart_t t (h 28 t.toNatClampNeg) h) + 2).toNatClampNeg = g 4 i.toNatClampNeg) (q3 : h 10 ((FX5_firstPart_t t (h 28 t.toNatClampNeg) h) + 3).toNatClampNeg = g 5 i.toNatClampNeg) (o : g 2 i.toNatClampNeg = 18) : SIMo2 t (FX3_perform_oc2 t h) (FX12_instruct t i g) := by
  rw [pf_18o2 (q0.trans o) q1 q2 q3, fmo10]
  have f : iv 0 9 (FX12_modulo (g 4 i.toNatClampNeg) 10) := modulo_iv (m := 10) rfl
  have f2 : iv 10 19 (10 + FX12_modulo (g 4 i.toNatClampNeg) 10) := iv_add (a := 10) (b := 10) (iv_lit rfl) f rfl
  rw [ins_f (w := 10 + FX12_modulo (g 4 i.toNatClampNeg) 10) (by rw [o]; decide) (by rw [o]; unfold FX12_why; simp (decide := true) only [↓reduceIte]) (fun w => by
    rw [Int32.le_iff_toInt_le] at w
    have h0 : (0 : Int32).toInt = 0 := by decide
    unfold iv at f2
    omega)]
  exact fin_failo2 R S (iv_ne0 f2 rfl) (by
    unfold iv at f2
    omega)
theorem op_19o2 {z : zT} {h g : ph_H} {t : Int32} (R : RCo2 h g) (I : IM z g) (ht : iv 0 3 t) (S : S0co2 t h g) (e18 : h 28 t.toNatClampNeg = g 12 t.toNatClampNeg) {i : Int32} (q0 : h 10 (FX5_firstPart_t t (h 28 t.toNatClampNeg) h).toNatClampNeg = g 2 i.toNatClampNeg) (q1 : h 10 ((FX5_firstPart_t t (h 28 t.toNatClampNeg) h) + 1).toNatClampNeg = g 3 i.toNatClampNeg) (q2 : h 10 ((FX5_firstPart_t t (h 28 t.toNatClampNeg) h) + 2).toNatClampNeg = g 4 i.toNatClampNeg) (q3 : h 10 ((FX5_firstPart_t t (h 28 t.toNatClampNeg) h) + 3).toNatClampNeg = g 5 i.toNatClampNeg) (o : g 2 i.toNatClampNeg = 19) : SIMo2 t (FX3_perform_oc2 t h) (FX12_instruct t i g) := by
  rw [pf_19o2 (q0.trans o) q1 q2 q3, ins_19 o]
  obtain ⟨s1, s2, s3, s4, s5, s6, s7⟩ := S
  unfold FX3_goTo_oc2
  refine fin_goo2 ((R.cso2 (by decide)).rso2 rfl) ?_ (by simp [hs_get]) (by simp [PLp, hs_get, s5, s6]) ?_
  · simp [EFo2, hs_get, s2, s3, s4, s5, s6, s7]
  · simp [hs_get]
