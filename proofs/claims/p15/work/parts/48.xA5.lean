/-! the class's own step: which INSTRUCTION does what -/
section
variable {h : ph_H} {t a b c : Int32}
theorem pf_0 (q0 : h 10 (FX5_firstPart_t t (h 18 t.toNatClampNeg) h).toNatClampNeg = 0) (q1 : h 10 ((FX5_firstPart_t t (h 18 t.toNatClampNeg) h) + 1).toNatClampNeg = a) (q2 : h 10 ((FX5_firstPart_t t (h 18 t.toNatClampNeg) h) + 2).toNatClampNeg = b) (q3 : h 10 ((FX5_firstPart_t t (h 18 t.toNatClampNeg) h) + 3).toNatClampNeg = c) : FX3_perform_s t h = FX3_hold_s (FX3_slotOf t a) 0 b h := by unfold FX3_perform_s; simp (decide := true) only [q0, q1, q2, q3, ↓reduceIte]
theorem pf_1 (q0 : h 10 (FX5_firstPart_t t (h 18 t.toNatClampNeg) h).toNatClampNeg = 1) (q1 : h 10 ((FX5_firstPart_t t (h 18 t.toNatClampNeg) h) + 1).toNatClampNeg = a) (q2 : h 10 ((FX5_firstPart_t t (h 18 t.toNatClampNeg) h) + 2).toNatClampNeg = b) (q3 : h 10 ((FX5_firstPart_t t (h 18 t.toNatClampNeg) h) + 3).toNatClampNeg = c) : FX3_perform_s t h = FX3_getCell_s (FX3_slotOf t a) (FJ9_floorMod_7cf53 b 12) h := by unfold FX3_perform_s; simp (decide := true) only [q0, q1, q2, q3, ↓reduceIte]
theorem pf_2 (q0 : h 10 (FX5_firstPart_t t (h 18 t.toNatClampNeg) h).toNatClampNeg = 2) (q1 : h 10 ((FX5_firstPart_t t (h 18 t.toNatClampNeg) h) + 1).toNatClampNeg = a) (q2 : h 10 ((FX5_firstPart_t t (h 18 t.toNatClampNeg) h) + 2).toNatClampNeg = b) (q3 : h 10 ((FX5_firstPart_t t (h 18 t.toNatClampNeg) h) + 3).toNatClampNeg = c) : FX3_perform_s t h = FX3_putCell_s (FJ9_floorMod_7cf53 a 12) (FX3_slotOf t b) h := by unfold FX3_perform_s; simp (decide := true) only [q0, q1, q2, q3, ↓reduceIte]
theorem pf_3 (q0 : h 10 (FX5_firstPart_t t (h 18 t.toNatClampNeg) h).toNatClampNeg = 3) (q1 : h 10 ((FX5_firstPart_t t (h 18 t.toNatClampNeg) h) + 1).toNatClampNeg = a) (q2 : h 10 ((FX5_firstPart_t t (h 18 t.toNatClampNeg) h) + 2).toNatClampNeg = b) (q3 : h 10 ((FX5_firstPart_t t (h 18 t.toNatClampNeg) h) + 3).toNatClampNeg = c) : FX3_perform_s t h = FX3_reckon_s 3 (FX3_slotOf t a) (FX3_slotOf t b) h := by unfold FX3_perform_s; simp (decide := true) only [q0, q1, q2, q3, ↓reduceIte]
theorem pf_4 (q0 : h 10 (FX5_firstPart_t t (h 18 t.toNatClampNeg) h).toNatClampNeg = 4) (q1 : h 10 ((FX5_firstPart_t t (h 18 t.toNatClampNeg) h) + 1).toNatClampNeg = a) (q2 : h 10 ((FX5_firstPart_t t (h 18 t.toNatClampNeg) h) + 2).toNatClampNeg = b) (q3 : h 10 ((FX5_firstPart_t t (h 18 t.toNatClampNeg) h) + 3).toNatClampNeg = c) : FX3_perform_s t h = FX3_reckon_s 4 (FX3_slotOf t a) (FX3_slotOf t b) h := by unfold FX3_perform_s; simp (decide := true) only [q0, q1, q2, q3, ↓reduceIte]
theorem pf_5 (q0 : h 10 (FX5_firstPart_t t (h 18 t.toNatClampNeg) h).toNatClampNeg = 5) (q1 : h 10 ((FX5_firstPart_t t (h 18 t.toNatClampNeg) h) + 1).toNatClampNeg = a) (q2 : h 10 ((FX5_firstPart_t t (h 18 t.toNatClampNeg) h) + 2).toNatClampNeg = b) (q3 : h 10 ((FX5_firstPart_t t (h 18 t.toNatClampNeg) h) + 3).toNatClampNeg = c) : FX3_perform_s t h = FX3_reckon_s 5 (FX3_slotOf t a) (FX3_slotOf t b) h := by unfold FX3_perform_s; simp (decide := true) only [q0, q1, q2, q3, ↓reduceIte]
theorem pf_6 (q0 : h 10 (FX5_firstPart_t t (h 18 t.toNatClampNeg) h).toNatClampNeg = 6) (q1 : h 10 ((FX5_firstPart_t t (h 18 t.toNatClampNeg) h) + 1).toNatClampNeg = a) (q2 : h 10 ((FX5_firstPart_t t (h 18 t.toNatClampNeg) h) + 2).toNatClampNeg = b) (q3 : h 10 ((FX5_firstPart_t t (h 18 t.toNatClampNeg) h) + 3).toNatClampNeg = c) : FX3_perform_s t h = FX3_goTo_s a h := by unfold FX3_perform_s; simp (decide := true) only [q0, q1, q2, q3, ↓reduceIte]
theorem pf_7 (q0 : h 10 (FX5_firstPart_t t (h 18 t.toNatClampNeg) h).toNatClampNeg = 7) (q1 : h 10 ((FX5_firstPart_t t (h 18 t.toNatClampNeg) h) + 1).toNatClampNeg = a) (q2 : h 10 ((FX5_firstPart_t t (h 18 t.toNatClampNeg) h) + 2).toNatClampNeg = b) (q3 : h 10 ((FX5_firstPart_t t (h 18 t.toNatClampNeg) h) + 3).toNatClampNeg = c) : FX3_perform_s t h = FX3_goUnless_s (FX3_slotOf t a) b h := by unfold FX3_perform_s; simp (decide := true) only [q0, q1, q2, q3, ↓reduceIte]
theorem pf_8 (q0 : h 10 (FX5_firstPart_t t (h 18 t.toNatClampNeg) h).toNatClampNeg = 8) (q1 : h 10 ((FX5_firstPart_t t (h 18 t.toNatClampNeg) h) + 1).toNatClampNeg = a) (q2 : h 10 ((FX5_firstPart_t t (h 18 t.toNatClampNeg) h) + 2).toNatClampNeg = b) (q3 : h 10 ((FX5_firstPart_t t (h 18 t.toNatClampNeg) h) + 3).toNatClampNeg = c) : FX3_perform_s t h = FX3_makeRow_s (FX3_slotOf t a) (FX3_slotOf t b) h := by unfold FX3_perform_s; simp (decide := true) only [q0, q1, q2, q3, ↓reduceIte]
theorem pf_9 (q0 : h 10 (FX5_firstPart_t t (h 18 t.toNatClampNeg) h).toNatClampNeg = 9) (q1 : h 10 ((FX5_firstPart_t t (h 18 t.toNatClampNeg) h) + 1).toNatClampNeg = a) (q2 : h 10 ((FX5_firstPart_t t (h 18 t.toNatClampNeg) h) + 2).toNatClampNeg = b) (q3 : h 10 ((FX5_firstPart_t t (h 18 t.toNatClampNeg) h) + 3).toNatClampNeg = c) : FX3_perform_s t h = FX3_readRow_s (FX3_slotOf t a) (FX3_slotOf t b) (FX3_slotOf t c) h := by unfold FX3_perform_s; simp (decide := true) only [q0, q1, q2, q3, ↓reduceIte]
theorem pf_10 (q0 : h 10 (FX5_firstPart_t t (h 18 t.toNatClampNeg) h).toNatClampNeg = 10) (q1 : h 10 ((FX5_firstPart_t t (h 18 t.toNatClampNeg) h) + 1).toNatClampNeg = a) (q2 : h 10 ((FX5_firstPart_t t (h 18 t.toNatClampNeg) h) + 2).toNatClampNeg = b) (q3 : h 10 ((FX5_firstPart_t t (h 18 t.toNatClampNeg) h) + 3).toNatClampNeg = c) : FX3_perform_s t h = FX3_writeRow_s (FX3_slotOf t a) (FX3_slotOf t b) (FX3_slotOf t c) h := by unfold FX3_perform_s; simp (decide := true) only [q0, q1, q2, q3, ↓reduceIte]
theorem pf_11 (q0 : h 10 (FX5_firstPart_t t (h 18 t.toNatClampNeg) h).toNatClampNeg = 11) (q1 : h 10 ((FX5_firstPart_t t (h 18 t.toNatClampNeg) h) + 1).toNatClampNeg = a) (q2 : h 10 ((FX5_firstPart_t t (h 18 t.toNatClampNeg) h) + 2).toNatClampNeg = b) (q3 : h 10 ((FX5_firstPart_t t (h 18 t.toNatClampNeg) h) + 3).toNatClampNeg = c) : FX3_perform_s t h = if (b &&& 1) = 0 then FX3_makeLock_s (FX3_slotOf t a) 0 h else FX3_makeLock_s (FX3_slotOf t a) 1 h := by
  unfold FX3_perform_s FX3_perform_s_288
  simp (decide := true) only [q0, q1, q2, q3, ↓reduceIte]
theorem pf_12 (q0 : h 10 (FX5_firstPart_t t (h 18 t.toNatClampNeg) h).toNatClampNeg = 12) (q1 : h 10 ((FX5_firstPart_t t (h 18 t.toNatClampNeg) h) + 1).toNatClampNeg = a) (q2 : h 10 ((FX5_firstPart_t t (h 18 t.toNatClampNeg) h) + 2).toNatClampNeg = b) (q3 : h 10 ((FX5_firstPart_t t (h 18 t.toNatClampNeg) h) + 3).toNatClampNeg = c) : FX3_perform_s t h = FX3_takeLock_s t (FX3_slotOf t a) h := by unfold FX3_perform_s; simp (decide := true) only [q0, q1, q2, q3, ↓reduceIte]
theorem pf_13 (q0 : h 10 (FX5_firstPart_t t (h 18 t.toNatClampNeg) h).toNatClampNeg = 13) (q1 : h 10 ((FX5_firstPart_t t (h 18 t.toNatClampNeg) h) + 1).toNatClampNeg = a) (q2 : h 10 ((FX5_firstPart_t t (h 18 t.toNatClampNeg) h) + 2).toNatClampNeg = b) (q3 : h 10 ((FX5_firstPart_t t (h 18 t.toNatClampNeg) h) + 3).toNatClampNeg = c) : FX3_perform_s t h = FX3_leaveLock_s t (FX3_slotOf t a) h := by unfold FX3_perform_s; simp (decide := true) only [q0, q1, q2, q3, ↓reduceIte]
theorem pf_14 (q0 : h 10 (FX5_firstPart_t t (h 18 t.toNatClampNeg) h).toNatClampNeg = 14) (q1 : h 10 ((FX5_firstPart_t t (h 18 t.toNatClampNeg) h) + 1).toNatClampNeg = a) (q2 : h 10 ((FX5_firstPart_t t (h 18 t.toNatClampNeg) h) + 2).toNatClampNeg = b) (q3 : h 10 ((FX5_firstPart_t t (h 18 t.toNatClampNeg) h) + 3).toNatClampNeg = c) : FX3_perform_s t h = FX3_lieDown_s t (FX3_slotOf t a) h := by unfold FX3_perform_s; simp (decide := true) only [q0, q1, q2, q3, ↓reduceIte]
theorem pf_15 (q0 : h 10 (FX5_firstPart_t t (h 18 t.toNatClampNeg) h).toNatClampNeg = 15) (q1 : h 10 ((FX5_firstPart_t t (h 18 t.toNatClampNeg) h) + 1).toNatClampNeg = a) (q2 : h 10 ((FX5_firstPart_t t (h 18 t.toNatClampNeg) h) + 2).toNatClampNeg = b) (q3 : h 10 ((FX5_firstPart_t t (h 18 t.toNatClampNeg) h) + 3).toNatClampNeg = c) : FX3_perform_s t h = FX3_wakeSleepers_s t (FX3_slotOf t a) h := by unfold FX3_perform_s; simp (decide := true) only [q0, q1, q2, q3, ↓reduceIte]
theorem pf_16 (q0 : h 10 (FX5_firstPart_t t (h 18 t.toNatClampNeg) h).toNatClampNeg = 16) (q1 : h 10 ((FX5_firstPart_t t (h 18 t.toNatClampNeg) h) + 1).toNatClampNeg = a) (q2 : h 10 ((FX5_firstPart_t t (h 18 t.toNatClampNeg) h) + 2).toNatClampNeg = b) (q3 : h 10 ((FX5_firstPart_t t (h 18 t.toNatClampNeg) h) + 3).toNatClampNeg = c) : FX3_perform_s t h = FX3_takeInput_s (FX3_slotOf t a) h := by unfold FX3_perform_s; simp (decide := true) only [q0, q1, q2, q3, ↓reduceIte]
theorem pf_17 (q0 : h 10 (FX5_firstPart_t t (h 18 t.toNatClampNeg) h).toNatClampNeg = 17) (q1 : h 10 ((FX5_firstPart_t t (h 18 t.toNatClampNeg) h) + 1).toNatClampNeg = a) (q2 : h 10 ((FX5_firstPart_t t (h 18 t.toNatClampNeg) h) + 2).toNatClampNeg = b) (q3 : h 10 ((FX5_firstPart_t t (h 18 t.toNatClampNeg) h) + 3).toNatClampNeg = c) : FX3_perform_s t h = FX3_startThread_s (FJ9_floorMod_7cf53 a 4) h := by unfold FX3_perform_s; simp (decide := true) only [q0, q1, q2, q3, ↓reduceIte]
theorem pf_18 (q0 : h 10 (FX5_firstPart_t t (h 18 t.toNatClampNeg) h).toNatClampNeg = 18) (q1 : h 10 ((FX5_firstPart_t t (h 18 t.toNatClampNeg) h) + 1).toNatClampNeg = a) (q2 : h 10 ((FX5_firstPart_t t (h 18 t.toNatClampNeg) h) + 2).toNatClampNeg = b) (q3 : h 10 ((FX5_firstPart_t t (h 18 t.toNatClampNeg) h) + 3).toNatClampNeg = c) : FX3_perform_s t h = (10 + FJ9_floorMod_7cf53 b 10, h) := by unfold FX3_perform_s; simp (decide := true) only [q0, q1, q2, q3, ↓reduceIte]
theorem pf_19 (q0 : h 10 (FX5_firstPart_t t (h 18 t.toNatClampNeg) h).toNatClampNeg = 19) (q1 : h 10 ((FX5_firstPart_t t (h 18 t.toNatClampNeg) h) + 1).toNatClampNeg = a) (q2 : h 10 ((FX5_firstPart_t t (h 18 t.toNatClampNeg) h) + 2).toNatClampNeg = b) (q3 : h 10 ((FX5_firstPart_t t (h 18 t.toNatClampNeg) h) + 3).toNatClampNeg = c) : FX3_perform_s t h = FX3_goTo_s 24 h := by unfold FX3_perform_s; simp (decide := true) only [q0, q1, q2, q3, ↓reduceIte]
end
/-! what a step did -/
def EF (h g : ph_H) : Prop := h 15 14 = g 0 29 ∧ h 15 15 = g 0 30 ∧ h 15 16 = g 0 31 ∧ (¬ g 0 31 = 0 → ¬ g 0 31 = 3 → h 15 17 = g 0 32)
def S0c (t : Int32) (h g : ph_H) : Prop := h 15 13 = h 18 t.toNatClampNeg + 1 ∧ h 15 14 = -2 ∧ h 15 15 = -2 ∧ h 15 16 = 0 ∧ g 0 29 = -2 ∧ g 0 30 = -2 ∧ g 0 31 = 0
def PLp (v : Int32) : Prop := v = -2 ∨ 0 ≤ v.toInt
def FL (G : ph_H) : Prop := 0 ≤ (G 0 25).toInt ∧ (¬ G 0 25 = 0 → G 0 29 = -2 ∧ G 0 30 = -2 ∧ G 0 31 = 0) ∧ PLp (G 0 29) ∧ PLp (G 0 30)
def SIM (t : Int32) (r : Int32 × ph_H) (G : ph_H) : Prop := (FX3_go_s_67 t r.1 r.2).1 = G 0 25 ∧ RC (FX3_go_s_67 t r.1 r.2).2 G ∧ EF (FX3_go_s_67 t r.1 r.2).2 G ∧ FL G
theorem fin_fail {t f : Int32} {h g : ph_H} (R : RC h g) (S : S0c t h g) (hf : ¬ f = 0) (hm : 0 ≤ f.toInt) : SIM t (f, h) (hs g 0 25 f) := by
  obtain ⟨s1, s2, s3, s4, s5, s6, s7⟩ := S
  unfold SIM FX3_go_s_67
  rw [if_neg hf]
  refine ⟨by rw [hs_self], R.rs rfl, ?_, ?_⟩
  · simp [EF, hs_get, s2, s3, s4, s5, s6, s7]
  · simp [FL, PLp, hs_get, s5, s6, s7, hm]
theorem fin_go {t a : Int32} {X G : ph_H} (R : RC X G) (E : EF X G) (h0 : G 0 25 = 0) (pl : PLp (G 0 29) ∧ PLp (G 0 30)) (e : X 15 13 = a) : SIM t (0, X) (FX12_goTo t a G) := by
  unfold SIM FX3_go_s_67
  subst e
  rw [goTo_eq, if_pos rfl]
  refine ⟨?_, R.at, ?_, ?_⟩
  · rw [hs_o (by simp)]
    exact h0.symm
  · simpa [EF, hs_get] using E
  · have k0 : (0 : Int32).toInt = 0 := by decide
    simp [FL, hs_get, h0, k0, pl]
theorem fin_stay {t : Int32} {X G : ph_H} (R : RC X G) (E : EF X G) (h0 : G 0 25 = 0) (pl : PLp (G 0 29) ∧ PLp (G 0 30)) (e : nrm (G 1 t.toNatClampNeg) (X 15 13) = G 12 t.toNatClampNeg) : SIM t (0, X) G := by
  have k := fin_go (t := t) R E h0 pl rfl
  rw [goTo_eq, e, hs_id] at k
  exact k
/-! each INSTRUCTION -/
theorem op_0 {z : zT} {h g : ph_H} {t : Int32} (R : RC h g) (I : IM z g) (ht : iv 0 3 t) (S : S0c t h g) (e18 : h 18 t.toNatClampNeg = g 12 t.toNatClampNeg) {i : Int32} (q0 : h 10 (FX5_firstPart_t t (h 18 t.toNatClampNeg) h).toNatClampNeg = g 2 i.toNatClampNeg) (q1 : h 10 ((FX5_firstPart_t t (h 18 t.toNatClampNeg) h) + 1).toNatClampNeg = g 3 i.toNatClampNeg) (q2 : h 10 ((FX5_firstPart_t t (h 18 t.toNatClampNeg) h) + 2).toNatClampNeg = g 4 i.toNatClampNeg) (q3 : h 10 ((FX5_firstPart_t t (h 18 t.toNatClampNeg) h) + 3).toNatClampNeg = g 5 i.toNatClampNeg) (o : g 2 i.toNatClampNeg = 0) : SIM t (FX3_perform_s t h) (FX12_instruct t i g) := by
  rw [pf_0 (q0.trans o) q1 q2 q3, ins_0 o, slot_eq t _ g]
  obtain ⟨s1, s2, s3, s4, s5, s6, s7⟩ := S
  refine fin_go ((R.rs rfl).slot (Or.inl rfl)) ?_ (by simp [hs_get]) (by simp [PLp, hs_get, s5, s6]) ?_
  · simp [EF, hs_get, s2, s3, s4, s5, s6, s7]
  · simp [hs_get, s1, e18]
theorem lv_slot {h g : ph_H} {k : Nat} (R : RC h g) (hk : k < 28) : g 10 k = 0 ∨ (0 ≤ (g 11 k).toInt ∧ (g 11 k).toInt < (g 0 18).toInt ∧ g 16 (g 11 k).toNatClampNeg = g 10 k) := R.2.2.2.2.2.2.1 k hk
theorem m12_lt (x : Int32) : (FX12_modulo x 12).toNatClampNeg < 28 := by
  have f : iv 0 11 (FX12_modulo x 12) := modulo_iv (m := 12) rfl
  have := iv_nat f rfl
  unfold iv at f
  omega
theorem op_1 {z : zT} {h g : ph_H} {t : Int32} (R : RC h g) (I : IM z g) (ht : iv 0 3 t) (S : S0c t h g) (e18 : h 18 t.toNatClampNeg = g 12 t.toNatClampNeg) {i : Int32} (q0 : h 10 (FX5_firstPart_t t (h 18 t.toNatClampNeg) h).toNatClampNeg = g 2 i.toNatClampNeg) (q1 : h 10 ((FX5_firstPart_t t (h 18 t.toNatClampNeg) h) + 1).toNatClampNeg = g 3 i.toNatClampNeg) (q2 : h 10 ((FX5_firstPart_t t (h 18 t.toNatClampNeg) h) + 2).toNatClampNeg = g 4 i.toNatClampNeg) (q3 : h 10 ((FX5_firstPart_t t (h 18 t.toNatClampNeg) h) + 3).toNatClampNeg = g 5 i.toNatClampNeg) (o : g 2 i.toNatClampNeg = 1) : SIM t (FX3_perform_s t h) (FX12_instruct t i g) := by
  rw [pf_1 (q0.trans o) q1 q2 q3, ins_1 o, slot_eq t _ g, fmo12]
  obtain ⟨s1, s2, s3, s4, s5, s6, s7⟩ := S
  unfold FX3_getCell_s FX3_hold_s
  obtain ⟨e1, e2⟩ := R.1 _ (m12_lt (g 4 i.toNatClampNeg))
  rw [e1, e2]
  refine fin_go (((R.cs (by decide)).rs rfl).rs rfl |>.slot ?_) ?_ (by simp [hs_get]) (by
    have pm : 0 ≤ (FX12_modulo (g 4 i.toNatClampNeg) 12).toInt := (modulo_iv (m := 12) (hi := 11) rfl).1
    simp [PLp, hs_get, s6, pm]) ?_
  · simpa [hs_get] using lv_slot R (m12_lt (g 4 i.toNatClampNeg))
  · simp [EF, hs_get, s2, s3, s4, s5, s6, s7]
  · simp [hs_get, s1, e18]
theorem op_2 {z : zT} {h g : ph_H} {t : Int32} (R : RC h g) (I : IM z g) (ht : iv 0 3 t) (S : S0c t h g) (e18 : h 18 t.toNatClampNeg = g 12 t.toNatClampNeg) {i : Int32} (q0 : h 10 (FX5_firstPart_t t (h 18 t.toNatClampNeg) h).toNatClampNeg = g 2 i.toNatClampNeg) (q1 : h 10 ((FX5_firstPart_t t (h 18 t.toNatClampNeg) h) + 1).toNatClampNeg = g 3 i.toNatClampNeg) (q2 : h 10 ((FX5_firstPart_t t (h 18 t.toNatClampNeg) h) + 2).toNatClampNeg = g 4 i.toNatClampNeg) (q3 : h 10 ((FX5_firstPart_t t (h 18 t.toNatClampNeg) h) + 3).toNatClampNeg = g 5 i.toNatClampNeg) (o : g 2 i.toNatClampNeg = 2) : SIM t (FX3_perform_s t h) (FX12_instruct t i g) := by
  rw [pf_2 (q0.trans o) q1 q2 q3, ins_2 o, slot_eq t _ g, fmo12]
  obtain ⟨s1, s2, s3, s4, s5, s6, s7⟩ := S
  unfold FX3_putCell_s FX3_hold_s
  obtain ⟨e1, e2⟩ := R.1 _ (sl_lt (a := g 4 i.toNatClampNeg) (g := g) ht)
  rw [e1, e2]
  refine fin_go (((R.cs (by decide)).rs rfl).rs rfl |>.slot ?_) ?_ (by simp [hs_get]) (by
    have pm : 0 ≤ (FX12_modulo (g 3 i.toNatClampNeg) 12).toInt := (modulo_iv (m := 12) (hi := 11) rfl).1
    simp [PLp, hs_get, s5, pm]) ?_
  · simpa [hs_get] using lv_slot R (sl_lt (a := g 4 i.toNatClampNeg) (g := g) ht)
  · simp [EF, hs_get, s2, s3, s4, s5, s6, s7]
  · simp [hs_get, s1, e18]
theorem why3 {o t a b c nb : Int32} {g : ph_H} (e : o = 3 ∨ o = 4 ∨ o = 5) (n : ¬ (g 10 a.toNatClampNeg = 0 ∧ g 10 b.toNatClampNeg = 0)) : FX12_why t o a b c nb g = 1 := by
  unfold FX12_why FX12_why_99
  by_cases c1 : g 10 a.toNatClampNeg = 0
  · have c2 : ¬ g 10 b.toNatClampNeg = 0 := fun w => n ⟨c1, w⟩
    rcases e with rfl | rfl | rfl <;> simp (decide := true) only [c1, c2, ↓reduceIte]
  · rcases e with rfl | rfl | rfl <;> simp (decide := true) only [c1, ↓reduceIte]
theorem op_3 {z : zT} {h g : ph_H} {t : Int32} (R : RC h g) (I : IM z g) (ht : iv 0 3 t) (S : S0c t h g) (e18 : h 18 t.toNatClampNeg = g 12 t.toNatClampNeg) {i : Int32} (q0 : h 10 (FX5_firstPart_t t (h 18 t.toNatClampNeg) h).toNatClampNeg = g 2 i.toNatClampNeg) (q1 : h 10 ((FX5_firstPart_t t (h 18 t.toNatClampNeg) h) + 1).toNatClampNeg = g 3 i.toNatClampNeg) (q2 : h 10 ((FX5_firstPart_t t (h 18 t.toNatClampNeg) h) + 2).toNatClampNeg = g 4 i.toNatClampNeg) (q3 : h 10 ((FX5_firstPart_t t (h 18 t.toNatClampNeg) h) + 3).toNatClampNeg = g 5 i.toNatClampNeg) (o : g 2 i.toNatClampNeg = 3) : SIM t (FX3_perform_s t h) (FX12_instruct t i g) := by
  rw [pf_3 (q0.trans o) q1 q2 q3, slot_eq t _ g, slot_eq t _ g]
  unfold FX3_reckon_s FX3_bothNumbers_s FX3_reckon_s_58 FX3_hold_s
  obtain ⟨a1, a2⟩ := R.1 _ (sl_lt (a := g 3 i.toNatClampNeg) (g := g) ht)
  obtain ⟨b1, b2⟩ := R.1 _ (sl_lt (a := g 4 i.toNatClampNeg) (g := g) ht)
  rw [a1, b1, a2, b2]
  by_cases n : g 10 (FX12_local t (g 3 i.toNatClampNeg) g).toNatClampNeg = 0 ∧ g 10 (FX12_local t (g 4 i.toNatClampNeg) g).toNatClampNeg = 0
  · rw [ins_3 o n.1 n.2]
    obtain ⟨s1, s2, s3, s4, s5, s6, s7⟩ := S
    simp (decide := true) only [n.1, n.2, ↓reduceIte]
    refine fin_go ((R.rs rfl).slot (Or.inl rfl)) ?_ (by simp [hs_get]) (by simp [PLp, hs_get, s5, s6]) ?_
    · simp [EF, hs_get, s2, s3, s4, s5, s6, s7]
    · simp [hs_get, s1, e18]
  · rw [ins_f (w := 1) (by rw [o]; decide) (by rw [o]; exact why3 (by simp) n) (by decide)]
    have : (if g 10 (FX12_local t (g 3 i.toNatClampNeg) g).toNatClampNeg = 0 then (if g 10 (FX12_local t (g 4 i.toNatClampNeg) g).toNatClampNeg = 0 then (1 : Int32) else 0) else 0) = 0 := by
      by_cases c1 : g 10 (FX12_local t (g 3 i.toNatClampNeg) g).toNatClampNeg = 0
      · rw [if_pos c1, if_neg (fun w => n ⟨c1, w⟩)]
      · rw [if_neg c1]
    rw [this, if_pos rfl]
    exact fin_fail R S (by decide) (by decide)
theorem op_4 {z : zT} {h g : ph_H} {t : Int32} (R : RC h g) (I : IM z g) (ht : iv 0 3 t) (S : S0c t h g) (e18 : h 18 t.toNatClampNeg = g 12 t.toNatClampNeg) {i : Int32} (q0 : h 10 (FX5_firstPart_t t (h 18 t.toNatClampNeg) h).toNatClampNeg = g 2 i.toNatClampNeg) (q1 : h 10 ((FX5_firstPart_t t (h 18 t.toNatClampNeg) h) + 1).toNatClampNeg = g 3 i.toNatClampNeg) (q2 : h 10 ((FX5_firstPart_t t (h 18 t.toNatClampNeg) h) + 2).toNatClampNeg = g 4 i.toNatClampNeg) (q3 : h 10 ((FX5_firstPart_t t (h 18 t.toNatClampNeg) h) + 3).toNatClampNeg = g 5 i.toNatClampNeg) (o : g 2 i.toNatClampNeg = 4) : SIM t (FX3_perform_s t h) (FX12_instruct t i g) := by
  rw [pf_4 (q0.trans o) q1 q2 q3, slot_eq t _ g, slot_eq t _ g]
  unfold FX3_reckon_s FX3_bothNumbers_s FX3_reckon_s_58 FX3_hold_s
  obtain ⟨a1, a2⟩ := R.1 _ (sl_lt (a := g 3 i.toNatClampNeg) (g := g) ht)
  obtain ⟨b1, b2⟩ := R.1 _ (sl_lt (a := g 4 i.toNatClampNeg) (g := g) ht)
  rw [a1, b1, a2, b2]
  by_cases n : g 10 (FX12_local t (g 3 i.toNatClampNeg) g).toNatClampNeg = 0 ∧ g 10 (FX12_local t (g 4 i.toNatClampNeg) g).toNatClampNeg = 0
  · rw [ins_4 o n.1 n.2]
    obtain ⟨s1, s2, s3, s4, s5, s6, s7⟩ := S
    simp (decide := true) only [n.1, n.2, ↓reduceIte]
    refine fin_go ((R.rs rfl).slot (Or.inl rfl)) ?_ (by simp [hs_get]) (by simp [PLp, hs_get, s5, s6]) ?_
    · simp [EF, hs_get, s2, s3, s4, s5, s6, s7]
    · simp [hs_get, s1, e18]
  · rw [ins_f (w := 1) (by rw [o]; decide) (by rw [o]; exact why3 (by simp) n) (by decide)]
    have : (if g 10 (FX12_local t (g 3 i.toNatClampNeg) g).toNatClampNeg = 0 then (if g 10 (FX12_local t (g 4 i.toNatClampNeg) g).toNatClampNeg = 0 then (1 : Int32) else 0) else 0) = 0 := by
      by_cases c1 : g 10 (FX12_local t (g 3 i.toNatClampNeg) g).toNatClampNeg = 0
      · rw [if_pos c1, if_neg (fun w => n ⟨c1, w⟩)]
      · rw [if_neg c1]
    rw [this, if_pos rfl]
    exact fin_fail R S (by decide) (by decide)
theorem op_5 {z : zT} {h g : ph_H} {t : Int32} (R : RC h g) (I : IM z g) (ht : iv 0 3 t) (S : S0c t h g) (e18 : h 18 t.toNatClampNeg = g 12 t.toNatClampNeg) {i : Int32} (q0 : h 10 (FX5_firstPart_t t (h 18 t.toNatClampNeg) h).toNatClampNeg = g 2 i.toNatClampNeg) (q1 : h 10 ((FX5_firstPart_t t (h 18 t.toNatClampNeg) h) + 1).toNatClampNeg = g 3 i.toNatClampNeg) (q2 : h 10 ((FX5_firstPart_t t (h 18 t.toNatClampNeg) h) + 2).toNatClampNeg = g 4 i.toNatClampNeg) (q3 : h 10 ((FX5_firstPart_t t (h 18 t.toNatClampNeg) h) + 3).toNatClampNeg = g 5 i.toNatClampNeg) (o : g 2 i.toNatClampNeg = 5) : SIM t (FX3_perform_s t h) (FX12_instruct t i g) := by
  rw [pf_5 (q0.trans o) q1 q2 q3, slot_eq t _ g, slot_eq t _ g]
  unfold FX3_reckon_s FX3_bothNumbers_s FX3_reckon_s_58 FX3_hold_s
  obtain ⟨a1, a2⟩ := R.1 _ (sl_lt (a := g 3 i.toNatClampNeg) (g := g) ht)
  obtain ⟨b1, b2⟩ := R.1 _ (sl_lt (a := g 4 i.toNatClampNeg) (g := g) ht)
  rw [a1, b1, a2, b2]
  by_cases n : g 10 (FX12_local t (g 3 i.toNatClampNeg) g).toNatClampNeg = 0 ∧ g 10 (FX12_local t (g 4 i.toNatClampNeg) g).toNatClampNeg = 0
  · rw [ins_5 o n.1 n.2]
    obtain ⟨s1, s2, s3, s4, s5, s6, s7⟩ := S
    simp (decide := true) only [n.1, n.2, ↓reduceIte]
    refine fin_go ((R.rs rfl).slot (Or.inl rfl)) ?_ (by simp [hs_get]) (by simp [PLp, hs_get, s5, s6]) ?_
    · simp [EF, hs_get, s2, s3, s4, s5, s6, s7]
    · simp [hs_get, s1, e18]
  · rw [ins_f (w := 1) (by rw [o]; decide) (by rw [o]; exact why3 (by simp) n) (by decide)]
    have : (if g 10 (FX12_local t (g 3 i.toNatClampNeg) g).toNatClampNeg = 0 then (if g 10 (FX12_local t (g 4 i.toNatClampNeg) g).toNatClampNeg = 0 then (1 : Int32) else 0) else 0) = 0 := by
      by_cases c1 : g 10 (FX12_local t (g 3 i.toNatClampNeg) g).toNatClampNeg = 0
      · rw [if_pos c1, if_neg (fun w => n ⟨c1, w⟩)]
      · rw [if_neg c1]
    rw [this, if_pos rfl]
    exact fin_fail R S (by decide) (by decide)
theorem op_6 {z : zT} {h g : ph_H} {t : Int32} (R : RC h g) (I : IM z g) (ht : iv 0 3 t) (S : S0c t h g) (e18 : h 18 t.toNatClampNeg = g 12 t.toNatClampNeg) {i : Int32} (q0 : h 10 (FX5_firstPart_t t (h 18 t.toNatClampNeg) h).toNatClampNeg = g 2 i.toNatClampNeg) (q1 : h 10 ((FX5_firstPart_t t (h 18 t.toNatClampNeg) h) + 1).toNatClampNeg = g 3 i.toNatClampNeg) (q2 : h 10 ((FX5_firstPart_t t (h 18 t.toNatClampNeg) h) + 2).toNatClampNeg = g 4 i.toNatClampNeg) (q3 : h 10 ((FX5_firstPart_t t (h 18 t.toNatClampNeg) h) + 3).toNatClampNeg = g 5 i.toNatClampNeg) (o : g 2 i.toNatClampNeg = 6) : SIM t (FX3_perform_s t h) (FX12_instruct t i g) := by
  rw [pf_6 (q0.trans o) q1 q2 q3, ins_6 o]
  obtain ⟨s1, s2, s3, s4, s5, s6, s7⟩ := S
  unfold FX3_goTo_s
  refine fin_go ((R.cs (by decide)).rs rfl) ?_ (by simp [hs_get]) (by simp [PLp, hs_get, s5, s6]) ?_
  · simp [EF, hs_get, s2, s3, s4, s5, s6, s7]
  · simp [hs_get]
theorem op_7 {z : zT} {h g : ph_H} {t : Int32} (R : RC h g) (I : IM z g) (ht : iv 0 3 t) (S : S0c t h g) (e18 : h 18 t.toNatClampNeg = g 12 t.toNatClampNeg) {i : Int32} (q0 : h 10 (FX5_firstPart_t t (h 18 t.toNatClampNeg) h).toNatClampNeg = g 2 i.toNatClampNeg) (q1 : h 10 ((FX5_firstPart_t t (h 18 t.toNatClampNeg) h) + 1).toNatClampNeg = g 3 i.toNatClampNeg) (q2 : h 10 ((FX5_firstPart_t t (h 18 t.toNatClampNeg) h) + 2).toNatClampNeg = g 4 i.toNatClampNeg) (q3 : h 10 ((FX5_firstPart_t t (h 18 t.toNatClampNeg) h) + 3).toNatClampNeg = g 5 i.toNatClampNeg) (o : g 2 i.toNatClampNeg = 7) : SIM t (FX3_perform_s t h) (FX12_instruct t i g) := by
  rw [pf_7 (q0.trans o) q1 q2 q3, slot_eq t _ g]
  unfold FX3_goUnless_s FX3_goUnless_s_25 FX3_goTo_s
  obtain ⟨a1, a2⟩ := R.1 _ (sl_lt (a := g 3 i.toNatClampNeg) (g := g) ht)
  rw [a1, a2]
  by_cases c1 : g 10 (FX12_local t (g 3 i.toNatClampNeg) g).toNatClampNeg = 0
  · rw [if_pos c1]
    by_cases c2 : g 11 (FX12_local t (g 3 i.toNatClampNeg) g).toNatClampNeg = 0
    · rw [if_pos c2, ins_7j o c1 c2]
      obtain ⟨s1, s2, s3, s4, s5, s6, s7⟩ := S
      refine fin_go ((R.cs (by decide)).rs rfl) ?_ (by simp [hs_get]) (by simp [PLp, hs_get, s5, s6]) ?_
      · simp [EF, hs_get, s2, s3, s4, s5, s6, s7]
      · simp [hs_get]
    · rw [if_neg c2, ins_7n o c1 c2]
      obtain ⟨s1, s2, s3, s4, s5, s6, s7⟩ := S
      refine fin_go (R.rs rfl) ?_ (by simp [hs_get]) (by simp [PLp, hs_get, s5, s6]) ?_
      · simp [EF, hs_get, s2, s3, s4, s5, s6, s7]
      · simp [hs_get, s1, e18]
  · rw [if_neg c1, ins_f (w := 1) (by rw [o]; decide) (by rw [o]; unfold FX12_why; simp (decide := true) only [c1, ↓reduceIte]) (by decide)]
    exact fin_fail R S (by decide) (by decide)
theorem op_18 {z : zT} {h g : ph_H} {t : Int32} (R : RC h g) (I : IM z g) (ht : iv 0 3 t) (S : S0c t h g) (e18 : h 18 t.toNatClampNeg = g 12 t.toNatClampNeg) {i : Int32} (q0 : h 10 (FX5_firstPart_t t (h 18 t.toNatClampNeg) h).toNatClampNeg = g 2 i.toNatClampNeg) (q1 : h 10 ((FX5_firstPart_t t (h 18 t.toNatClampNeg) h) + 1).toNatClampNeg = g 3 i.toNatClampNeg) (q2 : h 10 ((FX5_firstPart_t t (h 18 t.toNatClampNeg) h) + 2).toNatClampNeg = g 4 i.toNatClampNeg) (q3 : h 10 ((FX5_firstPart_t t (h 18 t.toNatClampNeg) h) + 3).toNatClampNeg = g 5 i.toNatClampNeg) (o : g 2 i.toNatClampNeg = 18) : SIM t (FX3_perform_s t h) (FX12_instruct t i g) := by
  rw [pf_18 (q0.trans o) q1 q2 q3, fmo10]
  have f : iv 0 9 (FX12_modulo (g 4 i.toNatClampNeg) 10) := modulo_iv (m := 10) rfl
  have f2 : iv 10 19 (10 + FX12_modulo (g 4 i.toNatClampNeg) 10) := iv_add (a := 10) (b := 10) (iv_lit rfl) f rfl
  rw [ins_f (w := 10 + FX12_modulo (g 4 i.toNatClampNeg) 10) (by rw [o]; decide) (by rw [o]; unfold FX12_why; simp (decide := true) only [↓reduceIte]) (fun w => by
    rw [Int32.le_iff_toInt_le] at w
    have h0 : (0 : Int32).toInt = 0 := by decide
    unfold iv at f2
    omega)]
  exact fin_fail R S (iv_ne0 f2 rfl) (by
    unfold iv at f2
    omega)
theorem op_19 {z : zT} {h g : ph_H} {t : Int32} (R : RC h g) (I : IM z g) (ht : iv 0 3 t) (S : S0c t h g) (e18 : h 18 t.toNatClampNeg = g 12 t.toNatClampNeg) {i : Int32} (q0 : h 10 (FX5_firstPart_t t (h 18 t.toNatClampNeg) h).toNatClampNeg = g 2 i.toNatClampNeg) (q1 : h 10 ((FX5_firstPart_t t (h 18 t.toNatClampNeg) h) + 1).toNatClampNeg = g 3 i.toNatClampNeg) (q2 : h 10 ((FX5_firstPart_t t (h 18 t.toNatClampNeg) h) + 2).toNatClampNeg = g 4 i.toNatClampNeg) (q3 : h 10 ((FX5_firstPart_t t (h 18 t.toNatClampNeg) h) + 3).toNatClampNeg = g 5 i.toNatClampNeg) (o : g 2 i.toNatClampNeg = 19) : SIM t (FX3_perform_s t h) (FX12_instruct t i g) := by
  rw [pf_19 (q0.trans o) q1 q2 q3, ins_19 o]
  obtain ⟨s1, s2, s3, s4, s5, s6, s7⟩ := S
  unfold FX3_goTo_s
  refine fin_go ((R.cs (by decide)).rs rfl) ?_ (by simp [hs_get]) (by simp [PLp, hs_get, s5, s6]) ?_
  · simp [EF, hs_get, s2, s3, s4, s5, s6, s7]
  · simp [hs_get]
