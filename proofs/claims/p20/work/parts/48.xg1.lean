section MG_48_xB0
/-! a step of a run: advance and stepKept -/
theorem step_rec {g : ph_H} {t : Int32} (na : ¬ asksU t g) : FX12_step t g 0 24 = g 0 24 + 1 ∧ FX12_step t g 0 26 = t ∧ FX12_step t g 0 27 = g 12 t.toNatClampNeg ∧ FX12_step t g 0 28 = g 2 ((24 * t) + g 12 t.toNatClampNeg).toNatClampNeg ∧ FX12_step t g 0 35 = g 0 35 := by
  have A : ∀ i G, FX12_step_148 t i G 0 24 = G 0 24 + 1 ∧ FX12_step_148 t i G 0 26 = t ∧ FX12_step_148 t i G 0 27 = G 0 27 ∧ FX12_step_148 t i G 0 28 = G 0 28 ∧ FX12_step_148 t i G 0 35 = G 0 35 := fun i G => by
    have e := frI_FX12_instruct (h0 := G) t i G (EQ_r G)
    unfold FX12_step_148 FX12_step_154
    simp only [hs_get]
    have e1 := e 0 24 rfl
    have e2 := e 0 27 rfl
    have e3 := e 0 28 rfl
    have e4 := e 0 35 rfl
    simp [e1, e2, e3, e4]
  unfold FX12_step FX12_step_110 FX12_step_154
  by_cases w : g 15 t.toNatClampNeg < 0
  · rw [if_pos w]
    by_cases o : g 2 ((24 * t) + g 12 t.toNatClampNeg).toNatClampNeg = 16
    · rw [if_pos o]
      by_cases k : g 0 33 = 0
      · rw [if_pos k]
        have := A ((24 * t) + g 12 t.toNatClampNeg) (hs (hs (hs (hs (hs (hs g 0 27 (g 12 t.toNatClampNeg)) 0 28 (g 2 ((24 * t) + g 12 t.toNatClampNeg).toNatClampNeg)) 0 29 (-2)) 0 30 (-2)) 0 31 0) 0 32 (-1))
        simpa [hs_get] using this
      · rw [if_neg k, if_neg (fun e => na ⟨w, o, k, e⟩)]
        have := A ((24 * t) + g 12 t.toNatClampNeg) (hs (hs (hs (hs (hs (hs g 0 27 (g 12 t.toNatClampNeg)) 0 28 (g 2 ((24 * t) + g 12 t.toNatClampNeg).toNatClampNeg)) 0 29 (-2)) 0 30 (-2)) 0 31 0) 0 32 (-1))
        simpa [hs_get] using this
    · rw [if_neg o]
      have := A ((24 * t) + g 12 t.toNatClampNeg) (hs (hs (hs (hs (hs (hs g 0 27 (g 12 t.toNatClampNeg)) 0 28 (g 2 ((24 * t) + g 12 t.toNatClampNeg).toNatClampNeg)) 0 29 (-2)) 0 30 (-2)) 0 31 0) 0 32 (-1))
      simpa [hs_get] using this
  · rw [if_neg w, goTo_eq]
    simp [hs_get]
theorem cg1_o (t : Int32) (g : ph_H) (k i : Nat) (h1 : ¬ k = 37) (h2 : ¬ k = 38) (h3 : ¬ (k = 0 ∧ i = 60)) : cg1 t g k i = g k i := by
  unfold cg1
  split
  · rfl
  · rw [hs_o h3, hs_o (fun w => h2 w.1), hs_o (fun w => h1 w.1)]
theorem cg1_IM {z : zT} {g : ph_H} {t : Int32} (I : IM z g) (ht : iv 0 3 t) (hch : (g 0 60).toInt ≤ (g 0 24).toInt) (ns : iv 0 299 (g 0 24)) : ∃ z', IM z' (cg1 t g) := by
  unfold cg1
  split
  · exact ⟨z, I⟩
  · have k1 : (1 : Int32).toInt = 1 := by decide
    have b : iv 0 300 (g 0 60) := IMv I 0 60
    unfold iv at b ns
    exact ⟨_, IMg (k := 0) (i := 60) (IMs (k := 38) (IMs (k := 37) I (iv_any _) rfl) (show iv 0 3 t from ht) rfl) (show iv 0 300 (g 0 60 + 1) from by
      unfold iv
      rw [ti_add (by omega) (by omega), k1]
      omega) rfl⟩
theorem kI_o (x : Int32) (g : ph_H) (k i : Nat) (h1 : ¬ k = 36) : kI x g k i = g k i := by
  unfold kI
  split
  · rfl
  · rw [hs_o (fun w => h1 w.1)]
theorem kW_o (t : Int32) (g : ph_H) (k i : Nat) (h1 : k < 29 ∨ 35 < k ∨ ¬ i = (g 0 24).toNatClampNeg) : kW t g k i = g k i := by
  unfold kW
  rw [hs_o (by omega), hs_o (by omega), hs_o (by omega), hs_o (by omega), hs_o (by omega), hs_o (by omega), hs_o (by omega)]
/-- what stepKept leaves: the machine as the step left it; the record one longer -/
theorem sk_o {g : ph_H} {t : Int32} (na : ¬ asksU t (cg1 t g)) (k i : Nat) (h1 : k < 20 ∨ 36 < k) : FX12_stepKept t g k i = FX12_step t (cg1 t g) k i := by
  rw [sk_eq]
  have e := frK_FX12_keep (h0 := kW t (kI (g 0 23) (FX12_step t (cg1 t g)))) (FX12_step t (cg1 t g) 0 24) _ (EQ_r _)
  have p : pK k i = true := by
    unfold pK
    split <;> first | omega | rfl
  rw [e k i p, kW_o _ _ _ _ (by omega), kI_o _ _ _ _ (by omega)]
theorem sk_r {g : ph_H} {t : Int32} (k i : Nat) (h1 : 28 < k) (h2 : k ≤ 35) : FX12_stepKept t g k i = kW t (kI (g 0 23) (FX12_step t (cg1 t g))) k i := by
  rw [sk_eq]
  have e := frK_FX12_keep (h0 := kW t (kI (g 0 23) (FX12_step t (cg1 t g)))) (FX12_step t (cg1 t g) 0 24) _ (EQ_r _)
  have p : pK k i = true := by
    unfold pK
    split <;> first | omega | rfl
  exact e k i p
theorem sk_k {g : ph_H} {t : Int32} (f : iv 0 300 (FX12_step t (cg1 t g) 0 24)) : (∀ k : Nat, k < 28 → FX12_stepKept t g 20 (28 * (FX12_step t (cg1 t g) 0 24).toNatClampNeg + k) = FX12_step t (cg1 t g) 10 k ∧ FX12_stepKept t g 21 (28 * (FX12_step t (cg1 t g) 0 24).toNatClampNeg + k) = FX12_step t (cg1 t g) 11 k) ∧ (∀ j : Nat, (j : Int) < 28 * (FX12_step t (cg1 t g) 0 24).toInt → FX12_stepKept t g 20 j = g 20 j ∧ FX12_stepKept t g 21 j = g 21 j) := by
  rw [sk_eq]
  unfold FX12_keep
  obtain ⟨a1, a2⟩ := kp2 2000 (FX12_step t (cg1 t g) 0 24) 0 (kW t (kI (g 0 23) (FX12_step t (cg1 t g)))) f ⟨by decide, by decide⟩ (by decide)
  have s := frS_FX12_step (h0 := cg1 t g) t (cg1 t g) (EQ_r _)
  have k0 : (0 : Int32).toInt = 0 := by decide
  refine ⟨fun k hk => ?_, fun j hj => ?_⟩
  · obtain ⟨b1, b2⟩ := a1 k (by omega) hk
    rw [b1, b2, kW_o _ _ _ _ (by omega), kI_o _ _ _ _ (by omega), kW_o _ _ _ _ (by omega), kI_o _ _ _ _ (by omega)]
    exact ⟨rfl, rfl⟩
  · obtain ⟨b1, b2⟩ := a2 j (by omega)
    rw [b1, b2, kW_o _ _ _ _ (by omega), kI_o _ _ _ _ (by omega), kW_o _ _ _ _ (by omega), kI_o _ _ _ _ (by omega), s 20 j rfl, s 21 j rfl, cg1_o _ _ _ _ (by omega) (by omega) (by omega), cg1_o _ _ _ _ (by omega) (by omega) (by omega)]
    exact ⟨rfl, rfl⟩
/-- the class's notes -/
theorem ne_o (H : ph_H) (k i : Nat) (h1 : k < 39 ∨ 44 < k ∨ ¬ i = (H 35 11).toNatClampNeg) : FX10_noteEffects_s H k i = H k i := by
  have a : ∀ H k i, (k < 43 ∨ 44 < k ∨ ¬ i = (H 35 11).toNatClampNeg) → FX10_noteEffects_s_68 H k i = H k i := fun H k i q => by
    unfold FX10_noteEffects_s_68
    rw [hs_o (by omega), hs_o (by omega)]
  unfold FX10_noteEffects_s
  repeat' split
  · rw [a _ _ _ (by simp only [hs_get]; simp; omega), hs_o (by omega), hs_o (by omega)]
  · rw [a _ _ _ (by simp only [hs_get]; simp; omega), hs_o (by omega), hs_o (by omega)]
  · rw [a _ _ _ (by simp only [hs_get]; simp; omega), hs_o (by omega), hs_o (by omega), hs_o (by omega), hs_o (by omega)]
theorem ne_at (H : ph_H) : FX10_noteEffects_s H 39 (H 35 11).toNatClampNeg = H 15 14 ∧ FX10_noteEffects_s H 40 (H 35 11).toNatClampNeg = H 15 15 ∧ FX10_noteEffects_s H 43 (H 35 11).toNatClampNeg = H 15 16 ∧ FX10_noteEffects_s H 44 (H 35 11).toNatClampNeg = H 15 17 ∧ (0 ≤ (H 15 15).toInt → (H 15 15).toInt < 12 → FX10_noteEffects_s H 41 (H 35 11).toNatClampNeg = H 16 (H 15 15).toNatClampNeg ∧ FX10_noteEffects_s H 42 (H 35 11).toNatClampNeg = H 17 (H 15 15).toNatClampNeg) := by
  have k0 : (0 : Int32).toInt = 0 := by decide
  have k12 : (12 : Int32).toInt = 12 := by decide
  unfold FX10_noteEffects_s FX10_noteEffects_s_68
  by_cases c : H 15 15 < 0
  · rw [if_pos c]
    rw [Int32.lt_iff_toInt_lt, k0] at c
    refine ⟨by simp [hs_get], by simp [hs_get], by simp [hs_get], by simp [hs_get], fun a b => by omega⟩
  · rw [if_neg c]
    by_cases d : 12 ≤ H 15 15
    · rw [if_pos d]
      rw [Int32.le_iff_toInt_le, k12] at d
      refine ⟨by simp [hs_get], by simp [hs_get], by simp [hs_get], by simp [hs_get], fun a b => by omega⟩
    · rw [if_neg d]
      refine ⟨by simp [hs_get], by simp [hs_get], by simp [hs_get], by simp [hs_get], fun a b => by simp [hs_get]⟩
theorem opOf_hs {t a : Int32} {h h' : ph_H} (e9 : ∀ i, h' 9 i = h 9 i) (e10 : ∀ i, h' 10 i = h 10 i) : FX5_opOf_t t a h' = FX5_opOf_t t a h := by
  unfold FX5_opOf_t FX5_has_t FX5_firstPart_t
  rw [e9, e10]
theorem next_eq {z : zT} {h g : ph_H} {t : Int32} (R : RC h g) (I : IM z g) (ht : iv 0 3 t) : FX3_nextInstruction_s t h = g 12 t.toNatClampNeg := by
  unfold FX3_nextInstruction_s
  rw [ended_eq R I ht]
  by_cases e : g 12 t.toNatClampNeg = 24
  · rw [if_pos e, if_neg (by decide), e]
  · rw [if_neg e, if_pos rfl]
    exact (stands R I ht e).1
theorem op_eq {z : zT} {h g : ph_H} {t : Int32} (R : RC h g) (I : IM z g) (ht : iv 0 3 t) (e : ¬ g 12 t.toNatClampNeg = 24) : FX5_opOf_t t (g 12 t.toNatClampNeg) h = g 2 ((24 * t) + g 12 t.toNatClampNeg).toNatClampNeg := by
  obtain ⟨s1, s2⟩ := stands R I ht e
  have p := (parts R I ht e).1
  have f := R.2.1 _ (t_lt ht)
  have k := nrm_id (many_iv I t.toNatClampNeg) (a := h 18 t.toNatClampNeg) (by rw [f]; exact e)
  have k24 : (24 : Int32).toInt = 24 := by decide
  unfold iv at s2
  have a1 := nn_t s2.1
  have a2 : ¬ 24 ≤ h 18 t.toNatClampNeg := by rw [Int32.le_iff_toInt_le, k24]; omega
  have a3 : ¬ g 1 t.toNatClampNeg ≤ h 18 t.toNatClampNeg := by rw [Int32.le_iff_toInt_le]; omega
  have a4 := R.2.2.2.2.2.1.1 _ (t_lt ht)
  rw [← p, ← s1]
  unfold FX5_opOf_t FX5_has_t
  rw [a4]
  simp (decide := true) only [a1, a2, a3, ↓reduceIte]
theorem fl_n {G : ph_H} (w : FL G) : ¬ G 0 25 = -1 := fun e => by
  have := w.1
  rw [e] at this
  exact absurd this (by decide)
/-- ADVANCE: the record grows on both sides alike -/
theorem adv_eq {z : zT} {h g : ph_H} {t : Int32} (R : RC h g) (T : TR h g) (I : IM z g) (ht : iv 0 3 t) (c : ¬ FX12_canGo t g = 0) (nf : g 0 25 = 0) (nk : g 0 33 = 0) (ns : iv 0 299 (g 0 24)) (hch : (g 0 60).toInt ≤ (g 0 24).toInt) :
    (FX10_advance_s t h).1 = 1 ∧ RC (FX10_advance_s t h).2 (FX12_stepKept t g) ∧ TR (FX10_advance_s t h).2 (FX12_stepKept t g) ∧ 0 ≤ (FX12_stepKept t g 0 25).toInt := by
  obtain ⟨t1, t2, t3, t4, t5, t6⟩ := T
  have k1 : (1 : Int32).toInt = 1 := by decide
  have k0 : (0 : Int32).toInt = 0 := by decide
  have k300 : (300 : Int32).toInt = 300 := by decide
  have sn := iv_nat ns rfl
  have ns' := ns
  unfold iv at ns
  have es : (g 0 24 + 1).toInt = (g 0 24).toInt + 1 := by rw [ti_add (by omega) (by omega), k1]
  have en : (g 0 24 + 1).toNatClampNeg = (g 0 24).toNatClampNeg + 1 := by
    have : ((g 0 24 + 1).toNatClampNeg : Int) = (g 0 24).toInt + 1 := by
      rw [← Int32.toNat_toInt]
      omega
    omega
  have cb : iv 0 300 (g 0 60) := IMv I 0 60
  have cn := iv_nat cb rfl
  unfold iv at cb
  have ec : (g 0 60 + 1).toInt = (g 0 60).toInt + 1 := by rw [ti_add (by omega) (by omega), k1]
  obtain ⟨z1, I1⟩ := cg1_IM (t := t) I ht hch ns'
  have co := cg1_o t g
  have R1 : RC h (cg1 t g) := R.congr (fun _ _ _ => rfl) (fun k i q => co k i (fun e => by rw [e] at q; exact absurd q (by simp [rM])) (fun e => by rw [e] at q; exact absurd q (by simp [rM])) (fun e => by rw [e.1, e.2] at q; exact absurd q (by decide))) (fun n => absurd nk n)
  have c1 : ¬ FX12_canGo t (cg1 t g) = 0 := by
    rw [← canGo_eq R1 I1 ht, canGo_eq R I ht]
    exact c
  have nf1 : cg1 t g 0 25 = 0 := by rw [co _ _ (by decide) (by decide) (by decide)]; exact nf
  have nk1 : cg1 t g 0 33 = 0 := by rw [co _ _ (by decide) (by decide) (by decide)]; exact nk
  have na : ¬ asksU t (cg1 t g) := fun a => a.2.2.1 nk1
  obtain ⟨w1, w2, w3, w4⟩ := go_eq R1 I1 ht c1 nf1 na
  obtain ⟨x24, x26, x27, x28, x35⟩ := step_rec na
  rw [co _ _ (by decide) (by decide) (by decide)] at x24
  rw [co _ _ (by decide) (by decide) (by omega)] at x27
  rw [co 12 _ (by decide) (by decide) (by omega), co 2 _ (by decide) (by decide) (by omega)] at x28
  obtain ⟨_, c12, _⟩ := cg_true c
  have fs := frS_FX12_step (h0 := cg1 t g) t (cg1 t g) (EQ_r _)
  have fg := frG_FX3_go_s (h0 := h) t h (EQ_r _)
  generalize hG2 : FX12_step t (cg1 t g) = G2 at *
  generalize hH1 : FX3_go_s t h = r at *
  have so : ∀ k i, (k < 20 ∨ 36 < k) → FX12_stepKept t g k i = G2 k i := fun k i q => by rw [sk_o na k i q, hG2]
  have sr : ∀ k i, 28 < k → k ≤ 35 → FX12_stepKept t g k i = kW t (kI (g 0 23) G2) k i := fun k i a b => by rw [sk_r k i a b, hG2]
  have sk := sk_k (g := g) (t := t) (by rw [hG2, x24]; unfold iv; omega)
  rw [hG2, x24, en] at sk
  obtain ⟨skA, skB⟩ := sk
  generalize hG : FX12_stepKept t g = G at *
  have lat : FX10_latestThread (hs r.2 35 14 r.1) = g 0 26 := by
    rw [← t6]
    unfold FX10_latestThread
    rw [hs_o (by simp), hs_o (by simp), fg 35 11 rfl, fg 36 _ rfl]
  have nI := next_eq R I ht
  have oE := op_eq R I ht c12
  have adv : FX10_advance_s t h = FX10_advance_s_51 t (g 12 t.toNatClampNeg) (FX10_noteChange t (hs r.2 35 14 r.1)) := by
    unfold FX10_advance_s FX10_advance_s_30
    rw [t3, if_pos nf, t1, if_pos (by rw [Int32.lt_iff_toInt_lt, k300]; omega), hH1, if_neg (by rw [w1]; exact fl_n w4), nI]
  rw [adv]
  unfold FX10_advance_s_51
  have N : ∀ k i, ¬ k = 45 → ¬ k = 46 → ¬ (k = 35 ∧ i = 12) → ¬ (k = 35 ∧ i = 14) → FX10_noteChange t (hs r.2 35 14 r.1) k i = r.2 k i := fun k i a b d e => by
    unfold FX10_noteChange
    split
    · rw [hs_o e]
    · rw [hs_o d, hs_o (fun w => b w.1), hs_o (fun w => a w.1), hs_o e]
  have N14 : FX10_noteChange t (hs r.2 35 14 r.1) 35 14 = r.1 := by
    unfold FX10_noteChange
    split
    · rw [hs_self]
    · rw [hs_o (by simp), hs_o (by simp), hs_o (by simp), hs_self]
  have e12 : hs r.2 35 14 r.1 35 12 = g 0 60 := by rw [hs_o (by simp), fg 35 12 rfl]; exact t2
  have e11 : hs r.2 35 14 r.1 35 11 = g 0 24 := by rw [hs_o (by simp), fg 35 11 rfl]; exact t1
  have N12 : FX10_noteChange t (hs r.2 35 14 r.1) 35 12 = cg1 t g 0 60 := by
    unfold FX10_noteChange cg1
    rw [lat]
    by_cases q : t = g 0 26
    · rw [if_pos q, if_pos q]
      exact e12
    · rw [if_neg q, if_neg q, hs_self, hs_self, e12]
  have NC : ∀ i : Nat, (i : Int) < (cg1 t g 0 60).toInt → FX10_noteChange t (hs r.2 35 14 r.1) 45 i = cg1 t g 37 i ∧ FX10_noteChange t (hs r.2 35 14 r.1) 46 i = cg1 t g 38 i := fun i hi => by
    unfold FX10_noteChange cg1
    unfold cg1 at hi
    rw [lat]
    by_cases q : t = g 0 26
    · rw [if_pos q] at hi
      rw [if_pos q, if_pos q, hs_o (by simp), hs_o (by simp), fg 45 i rfl, fg 46 i rfl]
      exact t5 i hi
    · rw [if_neg q, hs_self] at hi
      rw [if_neg q, if_neg q, e12, e11]
      by_cases d : i = (g 0 60).toNatClampNeg
      · subst d
        simp [hs_get]
      · have := t5 i (by omega)
        simp only [hs_get]
        simp [d, fg 45 i rfl, fg 46 i rfl, this]
  generalize hN : FX10_noteChange t (hs r.2 35 14 r.1) = h2 at *
  have h11 : h2 35 11 = g 0 24 := by rw [N _ _ (by decide) (by decide) (by decide) (by decide), fg 35 11 rfl]; exact t1
  rw [h11]
  have oo : FX5_opOf_t t (g 12 t.toNatClampNeg) (hs (hs (hs h2 35 11 (g 0 24 + 1)) 36 (g 0 24 + 1).toNatClampNeg t) 37 (g 0 24 + 1).toNatClampNeg (g 12 t.toNatClampNeg)) = g 2 ((24 * t) + g 12 t.toNatClampNeg).toNatClampNeg := by
    rw [← oE]
    apply opOf_hs
    · intro i
      rw [hs_o (by simp), hs_o (by simp), hs_o (by simp), N _ _ (by decide) (by decide) (by simp) (by simp), fg 9 i rfl]
    · intro i
      rw [hs_o (by simp), hs_o (by simp), hs_o (by simp), N _ _ (by decide) (by decide) (by simp) (by simp), fg 10 i rfl]
  rw [oo, en]
  generalize hX0 : hs (hs (hs (hs h2 35 11 (g 0 24 + 1)) 36 ((g 0 24).toNatClampNeg + 1) t) 37 ((g 0 24).toNatClampNeg + 1) (g 12 t.toNatClampNeg)) 38 ((g 0 24).toNatClampNeg + 1) (g 2 ((24 * t) + g 12 t.toNatClampNeg).toNatClampNeg) = X0
  have X11 : X0 35 11 = g 0 24 + 1 := by rw [← hX0, hs_o (by simp), hs_o (by simp), hs_o (by simp), hs_self]
  have X0o : ∀ k i, ¬ (k = 35 ∧ i = 11) → (k < 36 ∨ 38 < k ∨ ¬ i = (g 0 24).toNatClampNeg + 1) → X0 k i = h2 k i := fun k i a b => by
    rw [← hX0, hs_o (by omega), hs_o (by omega), hs_o (by omega), hs_o a]
  have no := ne_o X0
  have na' := ne_at X0
  rw [X11, en] at no na'
  generalize hX : FX10_noteEffects_s X0 = X at *
  show (1 : Int32) = 1 ∧ RC X G ∧ TR X G ∧ 0 ≤ (G 0 25).toInt
  have Xm : ∀ k i, (15 ≤ k ∧ k ≤ 24 ∨ k < 15) → X k i = r.2 k i := fun k i q => by
    rw [no k i (by omega), X0o k i (by omega) (by omega), N k i (by omega) (by omega) (by omega) (by omega)]
  have g0e : ∀ i, G 0 i = G2 0 i := fun i => so 0 i (by omega)
  have x60 : G2 0 60 = cg1 t g 0 60 := fs 0 60 rfl
  have gN : ∀ k i, (k < 20 ∨ 36 < k) → G k i = G2 k i := so
  refine ⟨rfl, w2.congr (fun k i q => Xm k i ?_) (fun k i q => gN k i ?_) (fun n => absurd ?_ n), ?_, by rw [g0e]; exact w4.1⟩
  · unfold cM at q
    split at q <;> first | omega | (exact absurd q (by decide))
  · unfold rM at q
    split at q <;> first | omega | (exact absurd q (by decide))
  · rw [fs 0 33 rfl]
    exact nk1
  have kwv : ∀ k i, (k < 29 ∨ 35 < k ∨ ¬ i = (g 0 24).toNatClampNeg + 1) → ¬ k = 36 → kW t (kI (g 0 23) G2) k i = G2 k i := fun k i q n => by
    rw [kW_o _ _ _ _ (by rw [kI_o _ _ _ _ (by decide), x24, en]; exact q), kI_o _ _ _ _ n]
  have kwa : ∀ k, 29 ≤ k → k ≤ 35 → kW t (kI (g 0 23) G2) k ((g 0 24).toNatClampNeg + 1) = if k = 29 then t else if k = 30 then G2 0 27 else if k = 31 then G2 0 28 else if k = 32 then (if G2 0 25 ≤ 0 then G2 0 29 else -2) else if k = 33 then (if G2 0 25 ≤ 0 then G2 0 30 else -2) else if k = 34 then (if G2 0 25 ≤ 0 then G2 0 31 else 0) else G2 0 32 := fun k a b => by
    unfold kW
    rw [kI_o _ _ 0 24 (by decide), kI_o _ _ 0 25 (by decide), kI_o _ _ 0 27 (by decide), kI_o _ _ 0 28 (by decide), kI_o _ _ 0 29 (by decide), kI_o _ _ 0 30 (by decide), kI_o _ _ 0 31 (by decide), kI_o _ _ 0 32 (by decide), x24, en]
    have hk : k = 29 ∨ k = 30 ∨ k = 31 ∨ k = 32 ∨ k = 33 ∨ k = 34 ∨ k = 35 := by omega
    rcases hk with rfl | rfl | rfl | rfl | rfl | rfl | rfl <;> simp [hs_get]
  obtain ⟨ef1, ef2, ef3, ef4⟩ := w3
  have SS : ∀ s : Nat, ¬ s = (g 0 24).toNatClampNeg + 1 → (s : Int) ≤ (g 0 24).toInt → ∀ k, 29 ≤ k → k ≤ 35 → G k s = g k s := fun s a b k p q => by
    rw [sr k s (by omega) q, kwv k s (by omega) (by omega), fs k s (by unfold pS; split <;> first | omega | rfl), co k s (by omega) (by omega) (by omega)]
  have XX : ∀ s : Nat, ¬ s = (g 0 24).toNatClampNeg + 1 → ∀ k, 36 ≤ k → k ≤ 44 → X k s = h k s := fun s a k p q => by
    rw [no k s (by omega), X0o k s (by omega) (by omega), N k s (by omega) (by omega) (by omega) (by omega), fg k s (by unfold pG; split <;> first | omega | rfl)]
  refine ⟨?_, ?_, ?_, ?_, ?_, ?_⟩
  · rw [no 35 11 (by omega), X11, g0e, x24]
  · rw [no 35 12 (by omega), X0o 35 12 (by omega) (by omega), N12, g0e, x60]
  · rw [no 35 14 (by omega), X0o 35 14 (by omega) (by omega), N14, w1, g0e]
  · intro s s0 sl
    rw [g0e, x24, es] at sl
    by_cases d : s = (g 0 24).toNatClampNeg + 1
    · subst d
      have v : ∀ k, 29 ≤ k → k ≤ 35 → G k ((g 0 24).toNatClampNeg + 1) = _ := fun k a b => (sr k _ (by omega) b).trans (kwa k a b)
      have v29 := v 29 (by omega) (by omega)
      have v30 := v 30 (by omega) (by omega)
      have v31 := v 31 (by omega) (by omega)
      have v32 := v 32 (by omega) (by omega)
      have v33 := v 33 (by omega) (by omega)
      have v34 := v 34 (by omega) (by omega)
      have v35 := v 35 (by omega) (by omega)
      simp only [if_true, Nat.reduceEqDiff, if_false] at v29 v30 v31 v32 v33 v34 v35
      have m14 : X0 15 14 = G2 0 29 := by rw [X0o _ _ (by omega) (by omega), N _ _ (by omega) (by omega) (by omega) (by omega)]; exact ef1
      have m15 : X0 15 15 = G2 0 30 := by rw [X0o _ _ (by omega) (by omega), N _ _ (by omega) (by omega) (by omega) (by omega)]; exact ef2
      have m16 : X0 15 16 = G2 0 31 := by rw [X0o _ _ (by omega) (by omega), N _ _ (by omega) (by omega) (by omega) (by omega)]; exact ef3
      have m17 : X0 15 17 = r.2 15 17 := by rw [X0o _ _ (by omega) (by omega), N _ _ (by omega) (by omega) (by omega) (by omega)]
      obtain ⟨n1, n2, n3, n4, n5⟩ := na'
      rw [m14] at n1
      rw [m15] at n2 n5
      rw [m16] at n3
      rw [m17] at n4
      have ff : ¬ G2 0 25 ≤ 0 → G2 0 29 = -2 ∧ G2 0 30 = -2 ∧ G2 0 31 = 0 := fun f => w4.2.1 (fun e => f (by rw [e]; decide))
      have g32 : G 32 ((g 0 24).toNatClampNeg + 1) = G2 0 29 := by
        rw [v32]
        by_cases f : G2 0 25 ≤ 0
        · rw [if_pos f]
        · rw [if_neg f, (ff f).1]
      have g33 : G 33 ((g 0 24).toNatClampNeg + 1) = G2 0 30 := by
        rw [v33]
        by_cases f : G2 0 25 ≤ 0
        · rw [if_pos f]
        · rw [if_neg f, (ff f).2.1]
      have g34 : G 34 ((g 0 24).toNatClampNeg + 1) = G2 0 31 := by
        rw [v34]
        by_cases f : G2 0 25 ≤ 0
        · rw [if_pos f]
        · rw [if_neg f, (ff f).2.2]
      refine ⟨?_, ?_, ?_, ?_, ?_, ?_, ?_, ?_, by rw [g32]; exact w4.2.2.1, by rw [g33]; exact w4.2.2.2⟩
      · rw [no 36 _ (by omega), v29, ← hX0, hs_o (by simp), hs_o (by simp), hs_self]
      · rw [no 37 _ (by omega), v30, x27, ← hX0, hs_o (by simp), hs_self]
      · rw [no 38 _ (by omega), v31, x28, ← hX0, hs_self]
      · rw [n1, g32]
      · rw [n2, g33]
      · rw [n3, g34]
      · rw [g34, v35, n4]
        exact ef4
      · rw [g33]
        intro a b
        obtain ⟨b1, b2⟩ := n5 a b
        have wl : (G2 0 30).toNatClampNeg < 28 := by
          have : ((G2 0 30).toNatClampNeg : Int) = (G2 0 30).toInt := by
            rw [← Int32.toNat_toInt]
            omega
          omega
        obtain ⟨q1, q2⟩ := skA _ wl
        obtain ⟨r1, r2⟩ := w2.1 _ wl
        rw [b1, b2, q1, q2, X0o _ _ (by omega) (by omega), X0o _ _ (by omega) (by omega), N _ _ (by omega) (by omega) (by omega) (by omega), N _ _ (by omega) (by omega) (by omega) (by omega)]
        exact ⟨r1, r2⟩
    · have sl2 : (s : Int) ≤ (g 0 24).toInt := by omega
      obtain ⟨u1, u2, u3, u4, u5, u6, u7, u8, u9, u10⟩ := t4 s s0 sl2
      have s29 := SS s d sl2
      have x36 := XX s d
      unfold TRs
      rw [s29 29 (by omega) (by omega), s29 30 (by omega) (by omega), s29 31 (by omega) (by omega), s29 32 (by omega) (by omega), s29 33 (by omega) (by omega), s29 34 (by omega) (by omega), s29 35 (by omega) (by omega), x36 36 (by omega) (by omega), x36 37 (by omega) (by omega), x36 38 (by omega) (by omega), x36 39 (by omega) (by omega), x36 40 (by omega) (by omega), x36 41 (by omega) (by omega), x36 42 (by omega) (by omega), x36 43 (by omega) (by omega), x36 44 (by omega) (by omega)]
      refine ⟨u1, u2, u3, u4, u5, u6, u7, fun a b => ?_, u9, u10⟩
      have wl : (g 33 s).toNatClampNeg < 12 := by
        have : ((g 33 s).toNatClampNeg : Int) = (g 33 s).toInt := by
          rw [← Int32.toNat_toInt]
          omega
        omega
      obtain ⟨q1, q2⟩ := skB (28 * s + (g 33 s).toNatClampNeg) (by rw [es]; omega)
      rw [q1, q2]
      exact u8 a b
  · intro i hi
    rw [g0e, x60] at hi
    rw [gN 37 i (by omega), gN 38 i (by omega), fs 37 i rfl, fs 38 i rfl, no 45 i (by omega), no 46 i (by omega), X0o 45 i (by omega) (by omega), X0o 46 i (by omega) (by omega)]
    exact NC i hi
  · unfold FX10_latestThread
    rw [no 35 11 (by omega), X11, if_neg (by rw [Int32.le_iff_toInt_le, k0]; omega), if_neg (by rw [Int32.lt_iff_toInt_lt, k300]; omega), g0e, x26, en, no 36 _ (by omega), ← hX0, hs_o (by simp), hs_o (by simp), hs_self]
end MG_48_xB0
section MG_48_xB1
/-! BEGIN on both sides -/
theorem hc_at (h : ph_H) (k0 k1 : Nat) (m : Int32) (i : Nat) : hc h k0 k1 0 0 m k1 i = if i < m.toNatClampNeg then h k0 i else h k1 i := by
  have z : (0 : Int32).toNatClampNeg = 0 := by decide
  unfold hc
  rw [va_up_self, z]
  unfold va_cpy
  by_cases c : i < m.toNatClampNeg
  · simp [c]
  · simp [c]
theorem fill_16 : ∀ (q : Nat) (v x n : Int32) (h : ph_H), 0 ≤ x.toInt → x.toInt ≤ n.toInt → n.toInt ≤ 1000 → n.toInt - x.toInt < (q : Int) → (∀ k i, ¬ k = 16 → FJ7_fill_53178_k16_5 q v x n h k i = h k i) ∧ (∀ i : Nat, x.toInt ≤ i → (i : Int) < n.toInt → FJ7_fill_53178_k16_5 q v x n h 16 i = v) ∧ (∀ i : Nat, (i : Int) < x.toInt → FJ7_fill_53178_k16_5 q v x n h 16 i = h 16 i)
  | 0, v, x, n, h, a, b, c, m => by omega
  | q + 1, v, x, n, h, a, b, c, m => by
    have k1 : (1 : Int32).toInt = 1 := by decide
    unfold FJ7_fill_53178_k16_5
    by_cases d : n ≤ x
    · rw [if_pos d]
      rw [Int32.le_iff_toInt_le] at d
      exact ⟨fun _ _ _ => rfl, fun i e f => by omega, fun _ _ => rfl⟩
    · rw [if_neg d]
      rw [Int32.le_iff_toInt_le] at d
      have e1 : (x + 1).toInt = x.toInt + 1 := by rw [ti_add (by omega) (by omega), k1]
      have xn : (x.toNatClampNeg : Int) = x.toInt := by
        rw [← Int32.toNat_toInt]
        omega
      obtain ⟨a1, a2, a3⟩ := fill_16 q v (x + 1) n (hs h 16 x.toNatClampNeg v) (by omega) (by omega) c (by omega)
      refine ⟨fun k i e => ?_, fun i e f => ?_, fun i e => ?_⟩
      · rw [a1 k i e, hs_o (fun w => e w.1)]
      · by_cases g : (i : Int) = x.toInt
        · rw [a3 i (by omega), hs_get, if_pos rfl, if_pos (by omega)]
        · exact a2 i (by omega) f
      · rw [a3 i (by omega), hs_o (fun w => by omega)]
theorem fill_17 : ∀ (q : Nat) (v x n : Int32) (h : ph_H), 0 ≤ x.toInt → x.toInt ≤ n.toInt → n.toInt ≤ 1000 → n.toInt - x.toInt < (q : Int) → (∀ k i, ¬ k = 17 → FJ7_fill_53178_k17_5 q v x n h k i = h k i) ∧ (∀ i : Nat, x.toInt ≤ i → (i : Int) < n.toInt → FJ7_fill_53178_k17_5 q v x n h 17 i = v) ∧ (∀ i : Nat, (i : Int) < x.toInt → FJ7_fill_53178_k17_5 q v x n h 17 i = h 17 i)
  | 0, v, x, n, h, a, b, c, m => by omega
  | q + 1, v, x, n, h, a, b, c, m => by
    have k1 : (1 : Int32).toInt = 1 := by decide
    unfold FJ7_fill_53178_k17_5
    by_cases d : n ≤ x
    · rw [if_pos d]
      rw [Int32.le_iff_toInt_le] at d
      exact ⟨fun _ _ _ => rfl, fun i e f => by omega, fun _ _ => rfl⟩
    · rw [if_neg d]
      rw [Int32.le_iff_toInt_le] at d
      have e1 : (x + 1).toInt = x.toInt + 1 := by rw [ti_add (by omega) (by omega), k1]
      have xn : (x.toNatClampNeg : Int) = x.toInt := by
        rw [← Int32.toNat_toInt]
        omega
      obtain ⟨a1, a2, a3⟩ := fill_17 q v (x + 1) n (hs h 17 x.toNatClampNeg v) (by omega) (by omega) c (by omega)
      refine ⟨fun k i e => ?_, fun i e f => ?_, fun i e => ?_⟩
      · rw [a1 k i e, hs_o (fun w => e w.1)]
      · by_cases g : (i : Int) = x.toInt
        · rw [a3 i (by omega), hs_get, if_pos rfl, if_pos (by omega)]
        · exact a2 i (by omega) f
      · rw [a3 i (by omega), hs_o (fun w => by omega)]
theorem fill_18 : ∀ (q : Nat) (v x n : Int32) (h : ph_H), 0 ≤ x.toInt → x.toInt ≤ n.toInt → n.toInt ≤ 1000 → n.toInt - x.toInt < (q : Int) → (∀ k i, ¬ k = 18 → FJ7_fill_53178_k18_5 q v x n h k i = h k i) ∧ (∀ i : Nat, x.toInt ≤ i → (i : Int) < n.toInt → FJ7_fill_53178_k18_5 q v x n h 18 i = v) ∧ (∀ i : Nat, (i : Int) < x.toInt → FJ7_fill_53178_k18_5 q v x n h 18 i = h 18 i)
  | 0, v, x, n, h, a, b, c, m => by omega
  | q + 1, v, x, n, h, a, b, c, m => by
    have k1 : (1 : Int32).toInt = 1 := by decide
    unfold FJ7_fill_53178_k18_5
    by_cases d : n ≤ x
    · rw [if_pos d]
      rw [Int32.le_iff_toInt_le] at d
      exact ⟨fun _ _ _ => rfl, fun i e f => by omega, fun _ _ => rfl⟩
    · rw [if_neg d]
      rw [Int32.le_iff_toInt_le] at d
      have e1 : (x + 1).toInt = x.toInt + 1 := by rw [ti_add (by omega) (by omega), k1]
      have xn : (x.toNatClampNeg : Int) = x.toInt := by
        rw [← Int32.toNat_toInt]
        omega
      obtain ⟨a1, a2, a3⟩ := fill_18 q v (x + 1) n (hs h 18 x.toNatClampNeg v) (by omega) (by omega) c (by omega)
      refine ⟨fun k i e => ?_, fun i e f => ?_, fun i e => ?_⟩
      · rw [a1 k i e, hs_o (fun w => e w.1)]
      · by_cases g : (i : Int) = x.toInt
        · rw [a3 i (by omega), hs_get, if_pos rfl, if_pos (by omega)]
        · exact a2 i (by omega) f
      · rw [a3 i (by omega), hs_o (fun w => by omega)]
theorem fill_19 : ∀ (q : Nat) (v x n : Int32) (h : ph_H), 0 ≤ x.toInt → x.toInt ≤ n.toInt → n.toInt ≤ 1000 → n.toInt - x.toInt < (q : Int) → (∀ k i, ¬ k = 19 → FJ7_fill_53178_k19_5 q v x n h k i = h k i) ∧ (∀ i : Nat, x.toInt ≤ i → (i : Int) < n.toInt → FJ7_fill_53178_k19_5 q v x n h 19 i = v) ∧ (∀ i : Nat, (i : Int) < x.toInt → FJ7_fill_53178_k19_5 q v x n h 19 i = h 19 i)
  | 0, v, x, n, h, a, b, c, m => by omega
  | q + 1, v, x, n, h, a, b, c, m => by
    have k1 : (1 : Int32).toInt = 1 := by decide
    unfold FJ7_fill_53178_k19_5
    by_cases d : n ≤ x
    · rw [if_pos d]
      rw [Int32.le_iff_toInt_le] at d
      exact ⟨fun _ _ _ => rfl, fun i e f => by omega, fun _ _ => rfl⟩
    · rw [if_neg d]
      rw [Int32.le_iff_toInt_le] at d
      have e1 : (x + 1).toInt = x.toInt + 1 := by rw [ti_add (by omega) (by omega), k1]
      have xn : (x.toNatClampNeg : Int) = x.toInt := by
        rw [← Int32.toNat_toInt]
        omega
      obtain ⟨a1, a2, a3⟩ := fill_19 q v (x + 1) n (hs h 19 x.toNatClampNeg v) (by omega) (by omega) c (by omega)
      refine ⟨fun k i e => ?_, fun i e f => ?_, fun i e => ?_⟩
      · rw [a1 k i e, hs_o (fun w => e w.1)]
      · by_cases g : (i : Int) = x.toInt
        · rw [a3 i (by omega), hs_get, if_pos rfl, if_pos (by omega)]
        · exact a2 i (by omega) f
      · rw [a3 i (by omega), hs_o (fun w => by omega)]
theorem cbeg (kv : Int32) (h : ph_H) : (∀ i, i < 28 → FX3_begin_st kv h 16 i = 0) ∧ (∀ i, i < 28 → FX3_begin_st kv h 17 i = if i < 12 then h 11 i else 0) ∧ (∀ t, t < 4 → FX3_begin_st kv h 18 t = 0) ∧ (∀ t, t < 4 → FX3_begin_st kv h 19 t = if t = 0 then 1 else 0) ∧ FX3_begin_st kv h 15 10 = 0 ∧ FX3_begin_st kv h 15 11 = kv ∧ FX3_begin_st kv h 15 12 = 0 ∧ (∀ k i, ¬ (15 ≤ k ∧ k ≤ 19) → FX3_begin_st kv h k i = h k i) := by
  have k28 : (28 : Int32).toInt = 28 := by decide
  have k4 : (4 : Int32).toInt = 4 := by decide
  have k0 : (0 : Int32).toInt = 0 := by decide
  have n0 : (0 : Int32).toNatClampNeg = 0 := by decide
  have n12 : (12 : Int32).toNatClampNeg = 12 := by decide
  unfold FX3_begin_st FX3_begin_st_13 FX3_begin_st_21 FX3_begin_st_44 FX3_begin_st_52 FJ7_fill_53178_k16 FJ7_fill_53178_k17 FJ7_fill_53178_k18 FJ7_fill_53178_k19
  obtain ⟨a1, a2, -⟩ := fill_16 2000 0 0 28 h (by decide) (by decide) (by decide) (by decide)
  generalize FJ7_fill_53178_k16_5 2000 0 0 28 h = h1 at *
  obtain ⟨b1, b2, -⟩ := fill_17 2000 0 0 28 h1 (by decide) (by decide) (by decide) (by decide)
  generalize FJ7_fill_53178_k17_5 2000 0 0 28 h1 = h2 at *
  have c0 : ∀ k i, ¬ k = 17 → hc h2 11 17 0 0 12 k i = h2 k i := fun k i e => hc_o e
  have c1 : ∀ i, hc h2 11 17 0 0 12 17 i = if i < 12 then h2 11 i else h2 17 i := fun i => by
    rw [hc_at, n12]
  generalize hc h2 11 17 0 0 12 = h3 at *
  obtain ⟨d1, d2, -⟩ := fill_18 2000 0 0 4 h3 (by decide) (by decide) (by decide) (by decide)
  generalize FJ7_fill_53178_k18_5 2000 0 0 4 h3 = h4 at *
  obtain ⟨e1, e2, -⟩ := fill_19 2000 0 0 4 h4 (by decide) (by decide) (by decide) (by decide)
  generalize FJ7_fill_53178_k19_5 2000 0 0 4 h4 = h5 at *
  rw [n0]
  refine ⟨fun i hi => ?_, fun i hi => ?_, fun t ht => ?_, fun t ht => ?_, ?_, ?_, ?_, fun k i q => ?_⟩
  · rw [hs_o (by simp), hs_o (by simp), hs_o (by simp), hs_o (by simp), e1 _ _ (by decide), d1 _ _ (by decide), c0 _ _ (by decide), b1 _ _ (by decide), a2 i (by omega) (by omega)]
  · rw [hs_o (by simp), hs_o (by simp), hs_o (by simp), hs_o (by simp), e1 _ _ (by decide), d1 _ _ (by decide), c1 i, b1 _ _ (by decide), a1 _ _ (by decide), b2 i (by omega) (by omega)]
  · rw [hs_o (by simp), hs_o (by simp), hs_o (by simp), hs_o (by simp), e1 _ _ (by decide), d2 t (by omega) (by omega)]
  · rw [hs_o (by simp), hs_o (by simp), hs_o (by simp), hs_get, if_pos rfl]
    by_cases c : t = 0
    · rw [if_pos c, if_pos c]
    · rw [if_neg c, if_neg c, e2 t (by omega) (by omega)]
  · rw [hs_o (by simp), hs_o (by simp), hs_self]
  · rw [hs_o (by simp), hs_self]
  · rw [hs_self]
  · rw [hs_o (by omega), hs_o (by omega), hs_o (by omega), hs_o (by omega), e1 _ _ (by omega), d1 _ _ (by omega), c0 _ _ (by omega), b1 _ _ (by omega), a1 _ _ (by omega)]
theorem rb45 : ∀ (q : Nat) (x : Int32) (g : ph_H), iv 0 4 x → 4 - x.toInt < (q : Int) → (∀ t : Nat, x.toInt ≤ t → t < 4 → FX12_begin_45 q x g 12 t = (if g 1 t ≤ 0 then 24 else 0) ∧ FX12_begin_45 q x g 13 t = (if t = 0 then 1 else 0) ∧ FX12_begin_45 q x g 14 t = -1 ∧ FX12_begin_45 q x g 15 t = -1) ∧ (∀ t : Nat, (t : Int) < x.toInt → FX12_begin_45 q x g 12 t = g 12 t ∧ FX12_begin_45 q x g 13 t = g 13 t ∧ FX12_begin_45 q x g 14 t = g 14 t ∧ FX12_begin_45 q x g 15 t = g 15 t) ∧ (∀ k i, ¬ k = 0 → ¬ (12 ≤ k ∧ k ≤ 15) → FX12_begin_45 q x g k i = g k i) ∧ (∀ i, FX12_begin_45 q x g 0 i = if i = 18 ∨ i = 23 ∨ i = 24 ∨ i = 25 ∨ i = 26 ∨ i = 35 then 0 else g 0 i)
  | 0, x, g, f, m => by unfold iv at f; omega
  | q + 1, x, g, f, m => by
    have k1 : (1 : Int32).toInt = 1 := by decide
    have k4 : (4 : Int32).toInt = 4 := by decide
    have k0 : (0 : Int32).toInt = 0 := by decide
    have xn := iv_nat f rfl
    unfold iv at f
    have v1 : vp_nar .boolean 1 = 1 := rfl
    have v0 : vp_nar .boolean 0 = 0 := rfl
    unfold FX12_begin_45 FX12_begin_70 FX12_begin_85
    by_cases c : 4 ≤ x
    · rw [if_pos c]
      rw [Int32.le_iff_toInt_le, k4] at c
      refine ⟨fun t a b => by omega, fun t a => ⟨by simp [hs_get], by simp [hs_get], by simp [hs_get], by simp [hs_get]⟩, fun k i a b => by simp [hs_get, a], fun i => ?_⟩
      simp only [hs_get, if_true]
      by_cases c1 : i = 35
      · simp [c1]
      · by_cases c2 : i = 26
        · simp [c2]
        · by_cases c3 : i = 25
          · simp [c3]
          · by_cases c4 : i = 24
            · simp [c4]
            · by_cases c5 : i = 23
              · simp [c5]
              · simp [c1, c2, c3, c4, c5]
    · rw [if_neg c]
      rw [Int32.le_iff_toInt_le, k4] at c
      have e1 : (x + 1).toInt = x.toInt + 1 := by rw [ti_add (by omega) (by omega), k1]

      have fin : ∀ (s a : Int32), s = (if g 1 x.toNatClampNeg ≤ 0 then 24 else 0) → a = (if x = 0 then 1 else 0) → (∀ t : Nat, x.toInt ≤ t → t < 4 → FX12_begin_45 q (x + 1) (hs (hs (hs (hs g 12 x.toNatClampNeg s) 13 x.toNatClampNeg (vp_nar .boolean a)) 14 x.toNatClampNeg (-1)) 15 x.toNatClampNeg (-1)) 12 t = (if g 1 t ≤ 0 then 24 else 0) ∧ FX12_begin_45 q (x + 1) (hs (hs (hs (hs g 12 x.toNatClampNeg s) 13 x.toNatClampNeg (vp_nar .boolean a)) 14 x.toNatClampNeg (-1)) 15 x.toNatClampNeg (-1)) 13 t = (if t = 0 then 1 else 0) ∧ FX12_begin_45 q (x + 1) (hs (hs (hs (hs g 12 x.toNatClampNeg s) 13 x.toNatClampNeg (vp_nar .boolean a)) 14 x.toNatClampNeg (-1)) 15 x.toNatClampNeg (-1)) 14 t = -1 ∧ FX12_begin_45 q (x + 1) (hs (hs (hs (hs g 12 x.toNatClampNeg s) 13 x.toNatClampNeg (vp_nar .boolean a)) 14 x.toNatClampNeg (-1)) 15 x.toNatClampNeg (-1)) 15 t = -1) ∧ (∀ t : Nat, (t : Int) < x.toInt → FX12_begin_45 q (x + 1) (hs (hs (hs (hs g 12 x.toNatClampNeg s) 13 x.toNatClampNeg (vp_nar .boolean a)) 14 x.toNatClampNeg (-1)) 15 x.toNatClampNeg (-1)) 12 t = g 12 t ∧ FX12_begin_45 q (x + 1) (hs (hs (hs (hs g 12 x.toNatClampNeg s) 13 x.toNatClampNeg (vp_nar .boolean a)) 14 x.toNatClampNeg (-1)) 15 x.toNatClampNeg (-1)) 13 t = g 13 t ∧ FX12_begin_45 q (x + 1) (hs (hs (hs (hs g 12 x.toNatClampNeg s) 13 x.toNatClampNeg (vp_nar .boolean a)) 14 x.toNatClampNeg (-1)) 15 x.toNatClampNeg (-1)) 14 t = g 14 t ∧ FX12_begin_45 q (x + 1) (hs (hs (hs (hs g 12 x.toNatClampNeg s) 13 x.toNatClampNeg (vp_nar .boolean a)) 14 x.toNatClampNeg (-1)) 15 x.toNatClampNeg (-1)) 15 t = g 15 t) ∧ (∀ k i, ¬ k = 0 → ¬ (12 ≤ k ∧ k ≤ 15) → FX12_begin_45 q (x + 1) (hs (hs (hs (hs g 12 x.toNatClampNeg s) 13 x.toNatClampNeg (vp_nar .boolean a)) 14 x.toNatClampNeg (-1)) 15 x.toNatClampNeg (-1)) k i = g k i) ∧ (∀ i, FX12_begin_45 q (x + 1) (hs (hs (hs (hs g 12 x.toNatClampNeg s) 13 x.toNatClampNeg (vp_nar .boolean a)) 14 x.toNatClampNeg (-1)) 15 x.toNatClampNeg (-1)) 0 i = if i = 18 ∨ i = 23 ∨ i = 24 ∨ i = 25 ∨ i = 26 ∨ i = 35 then 0 else g 0 i) := fun s a es ea => by
        obtain ⟨a1, a2, a3, a4⟩ := rb45 q (x + 1) (hs (hs (hs (hs g 12 x.toNatClampNeg s) 13 x.toNatClampNeg (vp_nar .boolean a)) 14 x.toNatClampNeg (-1)) 15 x.toNatClampNeg (-1)) (by unfold iv; omega) (by omega)
        generalize FX12_begin_45 q (x + 1) (hs (hs (hs (hs g 12 x.toNatClampNeg s) 13 x.toNatClampNeg (vp_nar .boolean a)) 14 x.toNatClampNeg (-1)) 15 x.toNatClampNeg (-1)) = G at *
        refine ⟨fun t p r => ?_, fun t p => ?_, fun k i p r => ?_, fun i => ?_⟩
        · by_cases d : (t : Int) = x.toInt
          · have dx : t = x.toNatClampNeg := by omega
            obtain ⟨b1, b2, b3, b4⟩ := a2 t (by omega)
            rw [b1, b2, b3, b4]
            refine ⟨?_, ?_, ?_, ?_⟩
            · rw [dx, hs_o (by simp), hs_o (by simp), hs_o (by simp), hs_self, es]
            · rw [dx, hs_o (by simp), hs_o (by simp), hs_self, ea]
              by_cases x0 : x = 0
              · subst x0
                rfl
              · rw [if_neg x0, if_neg (fun w => x0 (tI (by omega)))]
                rfl
            · rw [dx, hs_o (by simp), hs_self]
            · rw [dx, hs_self]
          · have := a1 t (by omega) r
            rw [hs_o (by simp), hs_o (by simp), hs_o (by simp), hs_o (by simp)] at this
            exact this
        · have n : ¬ t = x.toNatClampNeg := by omega
          obtain ⟨b1, b2, b3, b4⟩ := a2 t (by omega)
          rw [b1, b2, b3, b4]
          simp [hs_get, n]
        · rw [a3 k i p r, hs_o (by omega), hs_o (by omega), hs_o (by omega), hs_o (by omega)]
        · rw [a4 i, hs_o (by simp), hs_o (by simp), hs_o (by simp), hs_o (by simp)]
      by_cases d : g 1 x.toNatClampNeg ≤ 0
      · rw [if_pos d]
        by_cases e : x = 0
        · rw [if_pos e]
          exact fin 24 1 (by rw [if_pos d]) (by rw [if_pos e])
        · rw [if_neg e]
          exact fin 24 0 (by rw [if_pos d]) (by rw [if_neg e])
      · rw [if_neg d]
        by_cases e : x = 0
        · rw [if_pos e]
          exact fin 0 1 (by rw [if_neg d]) (by rw [if_pos e])
        · rw [if_neg e]
          exact fin 0 0 (by rw [if_neg d]) (by rw [if_neg e])
theorem rb2 : ∀ (q : Nat) (x : Int32) (g : ph_H), iv 0 28 x → 28 - x.toInt < (q : Int) → ∃ g', FX12_begin_2 q x g = FX12_begin_45 2000 0 g' ∧ (∀ k : Nat, x.toInt ≤ k → k < 28 → g' 10 k = 0 ∧ g' 11 k = if k < 12 then g 6 k else 0) ∧ (∀ k : Nat, (k : Int) < x.toInt → g' 10 k = g 10 k ∧ g' 11 k = g 11 k) ∧ (∀ k i, ¬ k = 10 → ¬ k = 11 → g' k i = g k i)
  | 0, x, g, f, m => by unfold iv at f; omega
  | q + 1, x, g, f, m => by
    have k1 : (1 : Int32).toInt = 1 := by decide
    have k28 : (28 : Int32).toInt = 28 := by decide
    have k12 : (12 : Int32).toInt = 12 := by decide
    have xn := iv_nat f rfl
    unfold iv at f
    unfold FX12_begin_2 FX12_begin_36
    by_cases c : 28 ≤ x
    · rw [if_pos c]
      rw [Int32.le_iff_toInt_le, k28] at c
      exact ⟨g, rfl, fun k a b => by omega, fun _ _ => ⟨rfl, rfl⟩, fun _ _ _ _ => rfl⟩
    · rw [if_neg c]
      rw [Int32.le_iff_toInt_le, k28] at c
      have e1 : (x + 1).toInt = x.toInt + 1 := by rw [ti_add (by omega) (by omega), k1]
      have fin : ∀ s : Int32, s = (if x.toNatClampNeg < 12 then g 6 x.toNatClampNeg else 0) → ∃ g', FX12_begin_2 q (x + 1) (hs (hs g 10 x.toNatClampNeg 0) 11 x.toNatClampNeg s) = FX12_begin_45 2000 0 g' ∧ (∀ k : Nat, x.toInt ≤ k → k < 28 → g' 10 k = 0 ∧ g' 11 k = if k < 12 then g 6 k else 0) ∧ (∀ k : Nat, (k : Int) < x.toInt → g' 10 k = g 10 k ∧ g' 11 k = g 11 k) ∧ (∀ k i, ¬ k = 10 → ¬ k = 11 → g' k i = g k i) := fun s es => by
        obtain ⟨g', a1, a2, a3, a4⟩ := rb2 q (x + 1) (hs (hs g 10 x.toNatClampNeg 0) 11 x.toNatClampNeg s) (by unfold iv; omega) (by omega)
        refine ⟨g', a1, fun k p r => ?_, fun k p => ?_, fun k i p r => ?_⟩
        · by_cases d : (k : Int) = x.toInt
          · have dx : k = x.toNatClampNeg := by omega
            obtain ⟨b1, b2⟩ := a3 k (by omega)
            rw [b1, b2, dx, hs_o (by simp), hs_self, hs_self, es]
            exact ⟨rfl, rfl⟩
          · obtain ⟨b1, b2⟩ := a2 k (by omega) r
            rw [b1, b2, hs_o (by simp), hs_o (by simp)]
            exact ⟨rfl, rfl⟩
        · have n : ¬ k = x.toNatClampNeg := by omega
          obtain ⟨b1, b2⟩ := a3 k (by omega)
          rw [b1, b2]
          simp [hs_get, n]
        · rw [a4 k i p r, hs_o (fun w => r w.1), hs_o (fun w => p w.1)]
      by_cases d : 12 ≤ x
      · rw [if_pos d]
        rw [Int32.le_iff_toInt_le, k12] at d
        exact fin 0 (by rw [if_neg (by omega)])
      · rw [if_neg d]
        rw [Int32.le_iff_toInt_le, k12] at d
        exact fin _ (by rw [if_pos (by omega)])
theorem rbeg (g : ph_H) : (∀ k, k < 28 → FX12_begin g 10 k = 0 ∧ FX12_begin g 11 k = if k < 12 then g 6 k else 0) ∧ (∀ t, t < 4 → FX12_begin g 12 t = (if g 1 t ≤ 0 then 24 else 0) ∧ FX12_begin g 13 t = (if t = 0 then 1 else 0) ∧ FX12_begin g 14 t = -1 ∧ FX12_begin g 15 t = -1) ∧ (∀ k i, ¬ k = 0 → ¬ (10 ≤ k ∧ k ≤ 15) → FX12_begin g k i = g k i) ∧ (∀ i, FX12_begin g 0 i = if i = 18 ∨ i = 23 ∨ i = 24 ∨ i = 25 ∨ i = 26 ∨ i = 35 then 0 else g 0 i) := by
  have k0 : (0 : Int32).toInt = 0 := by decide
  unfold FX12_begin
  obtain ⟨g', a1, a2, a3, a4⟩ := rb2 2000 0 g ⟨by decide, by decide⟩ (by decide)
  obtain ⟨b1, b2, b3, b4⟩ := rb45 2000 0 g' ⟨by decide, by decide⟩ (by decide)
  rw [a1]
  refine ⟨fun k hk => ?_, fun t ht => ?_, fun k i p r => ?_, fun i => ?_⟩
  · rw [b3 10 k (by omega) (by omega), b3 11 k (by omega) (by omega)]
    exact a2 k (by omega) hk
  · have := b1 t (by omega) ht
    rw [a4 1 t (by decide) (by decide)] at this
    exact this
  · rw [b3 k i p (by omega), a4 k i (by omega) (by omega)]
  · rw [b4 i, a4 0 i (by decide) (by decide)]
def PR (h g : ph_H) : Prop := Rpr h g ∧ (∀ c, c < 12 → h 11 c = g 6 c) ∧ (∀ i, iv 0 19 (g 2 i))
theorem begin_RC {h g : ph_H} {kv : Int32} (p : PR h g) (e : kv = kn g) (n : 0 ≤ (kn g).toInt) (v : ∀ k : Nat, (k : Int) < (kn g).toInt → h 12 k = vi g k) : RC (FX3_begin_st kv h) (FX12_begin g) := by
  obtain ⟨c1, c2, c3, c4, c5, c6, c7, c8⟩ := cbeg kv h
  obtain ⟨r1, r2, r3, r4⟩ := rbeg g
  have k0 : (0 : Int32).toInt = 0 := by decide
  have kn1 : (-1 : Int32).toInt = -1 := by decide
  have ek : kn (FX12_begin g) = kn g := by
    unfold kn
    rw [r4, r4, r4]
    simp
  have ev : ∀ k, vi (FX12_begin g) k = vi g k := fun k => by
    unfold vi
    rw [r4, r3 7 k (by decide) (by decide), r3 36 k (by decide) (by decide)]
    simp
  have e18 : FX12_begin g 0 18 = 0 := by rw [r4]; simp
  have e23 : FX12_begin g 0 23 = 0 := by rw [r4]; simp
  refine ⟨fun i hi => ?_, fun t ht => ?_, fun t ht => ?_, ⟨?_, fun x hx => ?_⟩, ⟨?_, ?_, ?_, fun k hk => ?_⟩, ⟨fun t ht => ?_, fun i hi => ?_⟩, ⟨fun k hk => ?_, fun t ht => ?_, fun i => ?_⟩⟩
  · obtain ⟨a, b⟩ := r1 i hi
    rw [c1 i hi, c2 i hi, a, b]
    refine ⟨rfl, ?_⟩
    by_cases c : i < 12
    · rw [if_pos c, if_pos c]
      exact p.2.1 i c
    · rw [if_neg c, if_neg c]
  · rw [c3 t ht, (r2 t ht).1, r3 1 t (by decide) (by decide)]
    unfold nrm
    rw [if_neg (by decide)]
    by_cases c : g 1 t ≤ 0
    · rw [if_pos c, if_neg (fun w => by
        rw [Int32.lt_iff_toInt_lt] at w
        rw [Int32.le_iff_toInt_le] at c
        omega)]
    · rw [if_neg c, if_pos (nle c)]
  · obtain ⟨a, b, c, d⟩ := r2 t ht
    rw [c4 t ht, b, c, d]
    by_cases w : t = 0
    · rw [if_pos w]
      exact Or.inr (Or.inl ⟨rfl, rfl, rfl, rfl⟩)
    · rw [if_neg w]
      exact Or.inl ⟨rfl, rfl, rfl, rfl⟩
  · rw [c5, e18]
  · rw [e18, k0] at hx
    omega
  · rw [c7, e23]
  · rw [c6, ek, e]
  · rw [e23, ek, k0]
    exact n
  · rw [c8 _ _ (by decide), ev]
    exact v k (by rw [ek] at hk; exact hk)
  · rw [c8 _ _ (by decide), r3 1 t (by decide) (by decide)]
    exact p.1.1 t ht
  · rw [c8 _ _ (by decide), c8 _ _ (by decide), c8 _ _ (by decide), c8 _ _ (by decide), r3 2 i (by decide) (by decide), r3 3 i (by decide) (by decide), r3 4 i (by decide) (by decide), r3 5 i (by decide) (by decide)]
    exact p.1.2 i hi
  · exact Or.inl (r1 k hk).1
  · obtain ⟨a, b, c, d⟩ := r2 t ht
    rw [c, d, e18, k0, kn1]
    omega
  · rw [r3 2 i (by decide) (by decide)]
    exact p.2.2 i
end MG_48_xB1
section MG_48_xB1z
def pC (k i : Nat) : Bool := match k with
  | 0 => i == 8 || i == 10
  | 1 => i == 6 || i == 7
  | 2 => true
  | 3 => true
  | 4 => true
  | 5 => true
  | 6 => true
  | 7 => true
  | 8 => true
  | 9 => true
  | 10 => true
  | 11 => true
  | 12 => true
  | 13 => true
  | 14 => true
  | 35 => true
  | 36 => true
  | 37 => true
  | 38 => true
  | 39 => true
  | 40 => true
  | 41 => true
  | 42 => true
  | 43 => true
  | 44 => true
  | 45 => true
  | 46 => true
  | _ => false
theorem pC_57 (n i : Nat) : pC (57 + n) i = false := by
  unfold pC
  split <;> first | omega | rfl
theorem frC_FX3_hold_s {h0 : ph_H} (a0 : Int32) (a1 : Int32) (a2 : Int32) (h : ph_H) (e : EQ pC h0 h) : EQ pC h0 (FX3_hold_s a0 a1 a2 h).2 := (EQ_s rfl (EQ_s rfl e))
theorem frC_FX3_getCell_s {h0 : ph_H} (a0 : Int32) (a1 : Int32) (h : ph_H) (e : EQ pC h0 h) : EQ pC h0 (FX3_getCell_s a0 a1 h).2 := (frC_FX3_hold_s _ _ _  _ (EQ_s rfl e))
theorem frC_FX3_goTo_s {h0 : ph_H} (a0 : Int32) (h : ph_H) (e : EQ pC h0 h) : EQ pC h0 (FX3_goTo_s a0 h).2 := (EQ_s rfl e)
theorem frC_FX3_goUnless_s_25 {h0 : ph_H} (s0 : Int32) (h : ph_H) (e : EQ pC h0 h) : EQ pC h0 (FX3_goUnless_s_25 s0 h).2 := e
theorem frC_FX3_goUnless_s {h0 : ph_H} (a0 : Int32) (a1 : Int32) (h : ph_H) (e : EQ pC h0 h) : EQ pC h0 (FX3_goUnless_s a0 a1 h).2 := (EQ2_if (EQ2_if (frC_FX3_goUnless_s_25 _  _ (frC_FX3_goTo_s _  _ e)) e) e)
theorem frC_FX3_free_s {h0 : ph_H} (a0 : Int32) (h : ph_H) (e : EQ pC h0 h) : EQ pC h0 (FX3_free_s a0 h).2 := (EQ_s rfl (EQ_s rfl (EQ_s rfl e)))
theorem frC_FX3_leaveLock_s {h0 : ph_H} (a0 : Int32) (a1 : Int32) (h : ph_H) (e : EQ pC h0 h) : EQ pC h0 (FX3_leaveLock_s a0 a1 h).2 := (EQ2_if (EQ2_if (frC_FX3_free_s _  _ e) e) e)
theorem frC_FX3_lieDown_s {h0 : ph_H} (a0 : Int32) (a1 : Int32) (h : ph_H) (e : EQ pC h0 h) : EQ pC h0 (FX3_lieDown_s a0 a1 h).2 := (EQ2_if (EQ2_if (frC_FX3_free_s _  _ (EQ_s rfl (EQ_s rfl (EQ_s rfl e)))) e) e)
theorem frC_FX3_makeThing_s {h0 : ph_H} (a0 : Int32) (a1 : Int32) (a2 : Int32) (h : ph_H) (e : EQ pC h0 h) : EQ pC h0 (FX3_makeThing_s a0 a1 a2 h).2 := (EQ_s rfl (EQ_s rfl (EQ_s rfl (EQ_s rfl (EQ_s rfl (EQ_s rfl e))))))
theorem frC_FX3_makeLock_s_22 {h0 : ph_H} (s0 : Int32) (s1 : Int32) (h : ph_H) (e : EQ pC h0 h) : EQ pC h0 (FX3_makeLock_s_22 s0 s1 h).2 := (frC_FX3_makeThing_s _ _ _  _ e)
theorem frC_FX3_makeLock_s {h0 : ph_H} (a0 : Int32) (a1 : Int32) (h : ph_H) (e : EQ pC h0 h) : EQ pC h0 (FX3_makeLock_s a0 a1 h).2 := (EQ2_if (EQ2_if (frC_FX3_makeLock_s_22 _ _  _ e) (frC_FX3_makeLock_s_22 _ _  _ e)) e)
theorem frC_FX3_makeRow_s_44 {h0 : ph_H}  : ∀ (q : Nat) (y0 : Int32) (y1 : Int32) (y2 : Int32) (h : ph_H), EQ pC h0 h → EQ pC h0 (FX3_makeRow_s_44  q y0 y1 y2 h).2 := by
  intro q
  induction q with
  | zero =>
    intro y0 y1 y2 h e
    exact e
  | succ q ih =>
    intro y0 y1 y2 h e
    exact (EQ2_if (frC_FX3_makeThing_s _ _ _  _ e) (ih _ _ _ _ (EQ_s rfl e)))
theorem frC_FX3_makeRow_s {h0 : ph_H} (a0 : Int32) (a1 : Int32) (h : ph_H) (e : EQ pC h0 h) : EQ pC h0 (FX3_makeRow_s a0 a1 h).2 := (EQ2_if (EQ2_if (EQ2_if e (EQ2_if (frC_FX3_makeRow_s_44   _ _ _ _ _ e) e)) e) e)
theorem frC_FX3_putCell_s {h0 : ph_H} (a0 : Int32) (a1 : Int32) (h : ph_H) (e : EQ pC h0 h) : EQ pC h0 (FX3_putCell_s a0 a1 h).2 := (frC_FX3_hold_s _ _ _  _ (EQ_s rfl e))
theorem frC_FX3_readRow_s {h0 : ph_H} (a0 : Int32) (a1 : Int32) (a2 : Int32) (h : ph_H) (e : EQ pC h0 h) : EQ pC h0 (FX3_readRow_s a0 a1 a2 h).2 := (EQ2_if (EQ2_if (EQ2_if e (frC_FX3_hold_s _ _ _  _ (EQ_s rfl e))) e) e)
theorem frC_FX3_reckon_s_58 {h0 : ph_H} (x2 : Int32) (s0 : Int32) (h : ph_H) (e : EQ pC h0 h) : EQ pC h0 (FX3_reckon_s_58 x2 s0 h).2 := (frC_FX3_hold_s _ _ _  _ e)
theorem frC_FX3_reckon_s {h0 : ph_H} (a0 : Int32) (a1 : Int32) (a2 : Int32) (h : ph_H) (e : EQ pC h0 h) : EQ pC h0 (FX3_reckon_s a0 a1 a2 h).2 := (EQ2_if e (EQ2_if (frC_FX3_reckon_s_58 _ _  _ e) (EQ2_if (frC_FX3_reckon_s_58 _ _  _ e) (frC_FX3_reckon_s_58 _ _  _ e))))
theorem frC_FX3_startThread_s {h0 : ph_H} (a0 : Int32) (h : ph_H) (e : EQ pC h0 h) : EQ pC h0 (FX3_startThread_s a0 h).2 := (EQ2_if (EQ_s rfl (EQ_s rfl (EQ_s rfl e))) e)
theorem frC_FX3_takeInput_s {h0 : ph_H} (a0 : Int32) (h : ph_H) (e : EQ pC h0 h) : EQ pC h0 (FX3_takeInput_s a0 h).2 := (EQ2_if e (EQ2_if (frC_FX3_hold_s _ _ _  _ (EQ_s rfl e)) e))
theorem frC_FX3_own_s {h0 : ph_H} (a0 : Int32) (a1 : Int32) (h : ph_H) (e : EQ pC h0 h) : EQ pC h0 (FX3_own_s a0 a1 h).2 := (EQ_s rfl (EQ_s rfl (EQ_s rfl e)))
theorem frC_FX3_takeLock_s {h0 : ph_H} (a0 : Int32) (a1 : Int32) (h : ph_H) (e : EQ pC h0 h) : EQ pC h0 (FX3_takeLock_s a0 a1 h).2 := (EQ2_if (EQ2_if e (frC_FX3_own_s _ _  _ e)) e)
theorem frC_FX3_wakeSleepers_s_64 {h0 : ph_H} (L28 : Int32 → Int32 → ph_H → Int32 × ph_H) (x3 : Int32) (x4 : Int32) (hL28 : ∀ (y0 : Int32) (y1 : Int32) (h : ph_H), EQ pC h0 h → EQ pC h0 (L28 y0 y1 h).2) (h : ph_H) (e : EQ pC h0 h) : EQ pC h0 (FX3_wakeSleepers_s_64 L28 x3 x4 h).2 := (hL28 _ _ _ e)
theorem frC_FX3_wakeSleepers_s_28 {h0 : ph_H}  : ∀ (q : Nat) (y0 : Int32) (y1 : Int32) (h : ph_H), EQ pC h0 h → EQ pC h0 (FX3_wakeSleepers_s_28  q y0 y1 h).2 := by
  intro q
  induction q with
  | zero =>
    intro y0 y1 h e
    exact e
  | succ q ih =>
    intro y0 y1 h e
    exact (EQ2_if (EQ_s rfl e) (EQ2_if (EQ2_if (frC_FX3_wakeSleepers_s_64 _ _ _ ih _ (EQ_s rfl e)) (frC_FX3_wakeSleepers_s_64 _ _ _ ih _ e)) (frC_FX3_wakeSleepers_s_64 _ _ _ ih _ e)))
theorem frC_FX3_wakeSleepers_s {h0 : ph_H} (a0 : Int32) (a1 : Int32) (h : ph_H) (e : EQ pC h0 h) : EQ pC h0 (FX3_wakeSleepers_s a0 a1 h).2 := (EQ2_if (EQ2_if (frC_FX3_wakeSleepers_s_28   _ _ _ _ e) e) e)
theorem frC_FX3_writeRow_s {h0 : ph_H} (a0 : Int32) (a1 : Int32) (a2 : Int32) (h : ph_H) (e : EQ pC h0 h) : EQ pC h0 (FX3_writeRow_s a0 a1 a2 h).2 := (EQ2_if (EQ2_if e (EQ2_if e (EQ_s rfl (EQ_s rfl e)))) e)
theorem frC_FX3_perform_s_288 {h0 : ph_H} (s0 : Int32) (s1 : Int32) (h : ph_H) (e : EQ pC h0 h) : EQ pC h0 (FX3_perform_s_288 s0 s1 h).2 := (frC_FX3_makeLock_s _ _  _ e)
theorem frC_FX3_perform_s {h0 : ph_H} (a0 : Int32) (h : ph_H) (e : EQ pC h0 h) : EQ pC h0 (FX3_perform_s a0 h).2 := (EQ2_if (frC_FX3_hold_s _ _ _  _ e) (EQ2_if (frC_FX3_getCell_s _ _  _ e) (EQ2_if (frC_FX3_putCell_s _ _  _ e) (EQ2_if (frC_FX3_reckon_s _ _ _  _ e) (EQ2_if (frC_FX3_reckon_s _ _ _  _ e) (EQ2_if (frC_FX3_reckon_s _ _ _  _ e) (EQ2_if (frC_FX3_goTo_s _  _ e) (EQ2_if (frC_FX3_goUnless_s _ _  _ e) (EQ2_if (frC_FX3_makeRow_s _ _  _ e) (EQ2_if (frC_FX3_readRow_s _ _ _  _ e) (EQ2_if (frC_FX3_writeRow_s _ _ _  _ e) (EQ2_if (EQ2_if (frC_FX3_perform_s_288 _ _  _ e) (frC_FX3_perform_s_288 _ _  _ e)) (EQ2_if (frC_FX3_takeLock_s _ _  _ e) (EQ2_if (frC_FX3_leaveLock_s _ _  _ e) (EQ2_if (frC_FX3_lieDown_s _ _  _ e) (EQ2_if (frC_FX3_wakeSleepers_s _ _  _ e) (EQ2_if (frC_FX3_takeInput_s _  _ e) (EQ2_if (frC_FX3_startThread_s _  _ e) (EQ2_if e (frC_FX3_goTo_s _  _ e))))))))))))))))))))
theorem frC_FX3_rise_s {h0 : ph_H} (a0 : Int32) (h : ph_H) (e : EQ pC h0 h) : EQ pC h0 (FX3_rise_s a0 h).2 := (frC_FX3_own_s _ _  _ (EQ_s rfl e))
theorem frC_FX3_go_s_67 {h0 : ph_H} (x1 : Int32) (s0 : Int32) (h : ph_H) (e : EQ pC h0 h) : EQ pC h0 (FX3_go_s_67 x1 s0 h).2 := (EQ2_if (EQ_s rfl e) e)
theorem frC_FX3_go_s_59 {h0 : ph_H} (x1 : Int32) (s0 : Int32) (h : ph_H) (e : EQ pC h0 h) : EQ pC h0 (FX3_go_s_59 x1 s0 h).2 := (frC_FX3_go_s_67 _ _  _ e)
theorem frC_FX3_go_s {h0 : ph_H} (a0 : Int32) (h : ph_H) (e : EQ pC h0 h) : EQ pC h0 (FX3_go_s a0 h).2 := (EQ2_if e (EQ2_if (frC_FX3_go_s_59 _ _  _ (frC_FX3_rise_s _  _ (EQ_s rfl (EQ_s rfl (EQ_s rfl (EQ_s rfl (EQ_s rfl e))))))) (frC_FX3_go_s_67 _ _  _ (frC_FX3_perform_s _  _ (EQ_s rfl (EQ_s rfl (EQ_s rfl (EQ_s rfl (EQ_s rfl e)))))))))
theorem frC_FJ7_fill_53178_k16_5 {h0 : ph_H}  : ∀ (q : Nat) (y0 : Int32) (y1 : Int32) (y2 : Int32) (h : ph_H), EQ pC h0 h → EQ pC h0 (FJ7_fill_53178_k16_5  q y0 y1 y2 h) := by
  intro q
  induction q with
  | zero =>
    intro y0 y1 y2 h e
    exact e
  | succ q ih =>
    intro y0 y1 y2 h e
    exact (EQ_if e (ih _ _ _ _ (EQ_s rfl e)))
theorem frC_FJ7_fill_53178_k16 {h0 : ph_H} (a1 : Int32) (h : ph_H) (e : EQ pC h0 h) : EQ pC h0 (FJ7_fill_53178_k16 a1 h) := (frC_FJ7_fill_53178_k16_5   _ _ _ _ _ e)
theorem frC_FJ7_fill_53178_k17_5 {h0 : ph_H}  : ∀ (q : Nat) (y0 : Int32) (y1 : Int32) (y2 : Int32) (h : ph_H), EQ pC h0 h → EQ pC h0 (FJ7_fill_53178_k17_5  q y0 y1 y2 h) := by
  intro q
  induction q with
  | zero =>
    intro y0 y1 y2 h e
    exact e
  | succ q ih =>
    intro y0 y1 y2 h e
    exact (EQ_if e (ih _ _ _ _ (EQ_s rfl e)))
theorem frC_FJ7_fill_53178_k17 {h0 : ph_H} (a1 : Int32) (h : ph_H) (e : EQ pC h0 h) : EQ pC h0 (FJ7_fill_53178_k17 a1 h) := (frC_FJ7_fill_53178_k17_5   _ _ _ _ _ e)
theorem frC_FJ7_fill_53178_k18_5 {h0 : ph_H}  : ∀ (q : Nat) (y0 : Int32) (y1 : Int32) (y2 : Int32) (h : ph_H), EQ pC h0 h → EQ pC h0 (FJ7_fill_53178_k18_5  q y0 y1 y2 h) := by
  intro q
  induction q with
  | zero =>
    intro y0 y1 y2 h e
    exact e
  | succ q ih =>
    intro y0 y1 y2 h e
    exact (EQ_if e (ih _ _ _ _ (EQ_s rfl e)))
theorem frC_FJ7_fill_53178_k18 {h0 : ph_H} (a1 : Int32) (h : ph_H) (e : EQ pC h0 h) : EQ pC h0 (FJ7_fill_53178_k18 a1 h) := (frC_FJ7_fill_53178_k18_5   _ _ _ _ _ e)
theorem frC_FJ7_fill_53178_k19_5 {h0 : ph_H}  : ∀ (q : Nat) (y0 : Int32) (y1 : Int32) (y2 : Int32) (h : ph_H), EQ pC h0 h → EQ pC h0 (FJ7_fill_53178_k19_5  q y0 y1 y2 h) := by
  intro q
  induction q with
  | zero =>
    intro y0 y1 y2 h e
    exact e
  | succ q ih =>
    intro y0 y1 y2 h e
    exact (EQ_if e (ih _ _ _ _ (EQ_s rfl e)))
theorem frC_FJ7_fill_53178_k19 {h0 : ph_H} (a1 : Int32) (h : ph_H) (e : EQ pC h0 h) : EQ pC h0 (FJ7_fill_53178_k19 a1 h) := (frC_FJ7_fill_53178_k19_5   _ _ _ _ _ e)
theorem frC_FX3_begin_st_52 {h0 : ph_H} (x2 : Int32) (h : ph_H) (e : EQ pC h0 h) : EQ pC h0 (FX3_begin_st_52 x2 h) := (EQ_s rfl (EQ_s rfl (EQ_s rfl (EQ_s rfl e))))
theorem frC_FX3_begin_st_44 {h0 : ph_H} (x2 : Int32) (h : ph_H) (e : EQ pC h0 h) : EQ pC h0 (FX3_begin_st_44 x2 h) := (frC_FX3_begin_st_52 _  _ (frC_FJ7_fill_53178_k19 _  _ e))
theorem frC_FX3_begin_st_21 {h0 : ph_H} (x2 : Int32) (h : ph_H) (e : EQ pC h0 h) : EQ pC h0 (FX3_begin_st_21 x2 h) := (frC_FX3_begin_st_44 _  _ (frC_FJ7_fill_53178_k18 _  _ (EQ_c (fun _ => rfl) e)))
theorem frC_FX3_begin_st_13 {h0 : ph_H} (x2 : Int32) (h : ph_H) (e : EQ pC h0 h) : EQ pC h0 (FX3_begin_st_13 x2 h) := (frC_FX3_begin_st_21 _  _ (frC_FJ7_fill_53178_k17 _  _ e))
theorem frC_FX3_begin_st {h0 : ph_H} (a1 : Int32) (h : ph_H) (e : EQ pC h0 h) : EQ pC h0 (FX3_begin_st a1 h) := (frC_FX3_begin_st_13 _  _ (frC_FJ7_fill_53178_k16 _  _ e))
theorem frC_FX3_hold_oc1 {h0 : ph_H} (a0 : Int32) (a1 : Int32) (a2 : Int32) (h : ph_H) (e : EQ pC h0 h) : EQ pC h0 (FX3_hold_oc1 a0 a1 a2 h).2 := (EQ_s rfl (EQ_s rfl e))
theorem frC_FX3_getCell_oc1 {h0 : ph_H} (a0 : Int32) (a1 : Int32) (h : ph_H) (e : EQ pC h0 h) : EQ pC h0 (FX3_getCell_oc1 a0 a1 h).2 := (frC_FX3_hold_oc1 _ _ _  _ (EQ_s rfl e))
theorem frC_FX3_goTo_oc1 {h0 : ph_H} (a0 : Int32) (h : ph_H) (e : EQ pC h0 h) : EQ pC h0 (FX3_goTo_oc1 a0 h).2 := (EQ_s rfl e)
theorem frC_FX3_goUnless_oc1_25 {h0 : ph_H} (s0 : Int32) (h : ph_H) (e : EQ pC h0 h) : EQ pC h0 (FX3_goUnless_oc1_25 s0 h).2 := e
theorem frC_FX3_goUnless_oc1 {h0 : ph_H} (a0 : Int32) (a1 : Int32) (h : ph_H) (e : EQ pC h0 h) : EQ pC h0 (FX3_goUnless_oc1 a0 a1 h).2 := (EQ2_if (EQ2_if (frC_FX3_goUnless_oc1_25 _  _ (frC_FX3_goTo_oc1 _  _ e)) e) e)
theorem frC_FX3_free_oc1 {h0 : ph_H} (a0 : Int32) (h : ph_H) (e : EQ pC h0 h) : EQ pC h0 (FX3_free_oc1 a0 h).2 := (EQ_s rfl (EQ_s rfl (EQ_s rfl e)))
theorem frC_FX3_leaveLock_oc1 {h0 : ph_H} (a0 : Int32) (a1 : Int32) (h : ph_H) (e : EQ pC h0 h) : EQ pC h0 (FX3_leaveLock_oc1 a0 a1 h).2 := (EQ2_if (EQ2_if (frC_FX3_free_oc1 _  _ e) e) e)
theorem frC_FX3_lieDown_oc1 {h0 : ph_H} (a0 : Int32) (a1 : Int32) (h : ph_H) (e : EQ pC h0 h) : EQ pC h0 (FX3_lieDown_oc1 a0 a1 h).2 := (EQ2_if (EQ2_if (frC_FX3_free_oc1 _  _ (EQ_s rfl (EQ_s rfl (EQ_s rfl e)))) e) e)
theorem frC_FX3_makeThing_oc1 {h0 : ph_H} (a0 : Int32) (a1 : Int32) (a2 : Int32) (h : ph_H) (e : EQ pC h0 h) : EQ pC h0 (FX3_makeThing_oc1 a0 a1 a2 h).2 := (EQ_s rfl (EQ_s rfl (EQ_s rfl (EQ_s rfl (EQ_s rfl (EQ_s rfl e))))))
theorem frC_FX3_makeLock_oc1_22 {h0 : ph_H} (s0 : Int32) (s1 : Int32) (h : ph_H) (e : EQ pC h0 h) : EQ pC h0 (FX3_makeLock_oc1_22 s0 s1 h).2 := (frC_FX3_makeThing_oc1 _ _ _  _ e)
theorem frC_FX3_makeLock_oc1 {h0 : ph_H} (a0 : Int32) (a1 : Int32) (h : ph_H) (e : EQ pC h0 h) : EQ pC h0 (FX3_makeLock_oc1 a0 a1 h).2 := (EQ2_if (EQ2_if (frC_FX3_makeLock_oc1_22 _ _  _ e) (frC_FX3_makeLock_oc1_22 _ _  _ e)) e)
theorem frC_FX3_makeRow_oc1_44 {h0 : ph_H}  : ∀ (q : Nat) (y0 : Int32) (y1 : Int32) (y2 : Int32) (h : ph_H), EQ pC h0 h → EQ pC h0 (FX3_makeRow_oc1_44  q y0 y1 y2 h).2 := by
  intro q
  induction q with
  | zero =>
    intro y0 y1 y2 h e
    exact e
  | succ q ih =>
    intro y0 y1 y2 h e
    exact (EQ2_if (frC_FX3_makeThing_oc1 _ _ _  _ e) (ih _ _ _ _ (EQ_s rfl e)))
theorem frC_FX3_makeRow_oc1 {h0 : ph_H} (a0 : Int32) (a1 : Int32) (h : ph_H) (e : EQ pC h0 h) : EQ pC h0 (FX3_makeRow_oc1 a0 a1 h).2 := (EQ2_if (EQ2_if (EQ2_if e (EQ2_if (frC_FX3_makeRow_oc1_44   _ _ _ _ _ e) e)) e) e)
theorem frC_FX3_putCell_oc1 {h0 : ph_H} (a0 : Int32) (a1 : Int32) (h : ph_H) (e : EQ pC h0 h) : EQ pC h0 (FX3_putCell_oc1 a0 a1 h).2 := (frC_FX3_hold_oc1 _ _ _  _ (EQ_s rfl e))
theorem frC_FX3_readRow_oc1 {h0 : ph_H} (a0 : Int32) (a1 : Int32) (a2 : Int32) (h : ph_H) (e : EQ pC h0 h) : EQ pC h0 (FX3_readRow_oc1 a0 a1 a2 h).2 := (EQ2_if (EQ2_if (EQ2_if e (frC_FX3_hold_oc1 _ _ _  _ (EQ_s rfl e))) e) e)
theorem frC_FX3_reckon_oc1_58 {h0 : ph_H} (x2 : Int32) (s0 : Int32) (h : ph_H) (e : EQ pC h0 h) : EQ pC h0 (FX3_reckon_oc1_58 x2 s0 h).2 := (frC_FX3_hold_oc1 _ _ _  _ e)
theorem frC_FX3_reckon_oc1 {h0 : ph_H} (a0 : Int32) (a1 : Int32) (a2 : Int32) (h : ph_H) (e : EQ pC h0 h) : EQ pC h0 (FX3_reckon_oc1 a0 a1 a2 h).2 := (EQ2_if e (EQ2_if (frC_FX3_reckon_oc1_58 _ _  _ e) (EQ2_if (frC_FX3_reckon_oc1_58 _ _  _ e) (frC_FX3_reckon_oc1_58 _ _  _ e))))
theorem frC_FX3_startThread_oc1 {h0 : ph_H} (a0 : Int32) (h : ph_H) (e : EQ pC h0 h) : EQ pC h0 (FX3_startThread_oc1 a0 h).2 := (EQ2_if (EQ_s rfl (EQ_s rfl (EQ_s rfl e))) e)
theorem frC_FX3_takeInput_oc1 {h0 : ph_H} (a0 : Int32) (h : ph_H) (e : EQ pC h0 h) : EQ pC h0 (FX3_takeInput_oc1 a0 h).2 := (EQ2_if e (EQ2_if (frC_FX3_hold_oc1 _ _ _  _ (EQ_s rfl e)) e))
theorem frC_FX3_own_oc1 {h0 : ph_H} (a0 : Int32) (a1 : Int32) (h : ph_H) (e : EQ pC h0 h) : EQ pC h0 (FX3_own_oc1 a0 a1 h).2 := (EQ_s rfl (EQ_s rfl (EQ_s rfl e)))
theorem frC_FX3_takeLock_oc1 {h0 : ph_H} (a0 : Int32) (a1 : Int32) (h : ph_H) (e : EQ pC h0 h) : EQ pC h0 (FX3_takeLock_oc1 a0 a1 h).2 := (EQ2_if (EQ2_if e (frC_FX3_own_oc1 _ _  _ e)) e)
theorem frC_FX3_wakeSleepers_oc1_64 {h0 : ph_H} (L28 : Int32 → Int32 → ph_H → Int32 × ph_H) (x3 : Int32) (x4 : Int32) (hL28 : ∀ (y0 : Int32) (y1 : Int32) (h : ph_H), EQ pC h0 h → EQ pC h0 (L28 y0 y1 h).2) (h : ph_H) (e : EQ pC h0 h) : EQ pC h0 (FX3_wakeSleepers_oc1_64 L28 x3 x4 h).2 := (hL28 _ _ _ e)
theorem frC_FX3_wakeSleepers_oc1_28 {h0 : ph_H}  : ∀ (q : Nat) (y0 : Int32) (y1 : Int32) (h : ph_H), EQ pC h0 h → EQ pC h0 (FX3_wakeSleepers_oc1_28  q y0 y1 h).2 := by
  intro q
  induction q with
  | zero =>
    intro y0 y1 h e
    exact e
  | succ q ih =>
    intro y0 y1 h e
    exact (EQ2_if (EQ_s rfl e) (EQ2_if (EQ2_if (frC_FX3_wakeSleepers_oc1_64 _ _ _ ih _ (EQ_s rfl e)) (frC_FX3_wakeSleepers_oc1_64 _ _ _ ih _ e)) (frC_FX3_wakeSleepers_oc1_64 _ _ _ ih _ e)))
theorem frC_FX3_wakeSleepers_oc1 {h0 : ph_H} (a0 : Int32) (a1 : Int32) (h : ph_H) (e : EQ pC h0 h) : EQ pC h0 (FX3_wakeSleepers_oc1 a0 a1 h).2 := (EQ2_if (EQ2_if (frC_FX3_wakeSleepers_oc1_28   _ _ _ _ e) e) e)
theorem frC_FX3_writeRow_oc1 {h0 : ph_H} (a0 : Int32) (a1 : Int32) (a2 : Int32) (h : ph_H) (e : EQ pC h0 h) : EQ pC h0 (FX3_writeRow_oc1 a0 a1 a2 h).2 := (EQ2_if (EQ2_if e (EQ2_if e (EQ_s rfl (EQ_s rfl e)))) e)
theorem frC_FX3_perform_oc1_288 {h0 : ph_H} (s0 : Int32) (s1 : Int32) (h : ph_H) (e : EQ pC h0 h) : EQ pC h0 (FX3_perform_oc1_288 s0 s1 h).2 := (frC_FX3_makeLock_oc1 _ _  _ e)
theorem frC_FX3_perform_oc1 {h0 : ph_H} (a0 : Int32) (h : ph_H) (e : EQ pC h0 h) : EQ pC h0 (FX3_perform_oc1 a0 h).2 := (EQ2_if (frC_FX3_hold_oc1 _ _ _  _ e) (EQ2_if (frC_FX3_getCell_oc1 _ _  _ e) (EQ2_if (frC_FX3_putCell_oc1 _ _  _ e) (EQ2_if (frC_FX3_reckon_oc1 _ _ _  _ e) (EQ2_if (frC_FX3_reckon_oc1 _ _ _  _ e) (EQ2_if (frC_FX3_reckon_oc1 _ _ _  _ e) (EQ2_if (frC_FX3_goTo_oc1 _  _ e) (EQ2_if (frC_FX3_goUnless_oc1 _ _  _ e) (EQ2_if (frC_FX3_makeRow_oc1 _ _  _ e) (EQ2_if (frC_FX3_readRow_oc1 _ _ _  _ e) (EQ2_if (frC_FX3_writeRow_oc1 _ _ _  _ e) (EQ2_if (EQ2_if (frC_FX3_perform_oc1_288 _ _  _ e) (frC_FX3_perform_oc1_288 _ _  _ e)) (EQ2_if (frC_FX3_takeLock_oc1 _ _  _ e) (EQ2_if (frC_FX3_leaveLock_oc1 _ _  _ e) (EQ2_if (frC_FX3_lieDown_oc1 _ _  _ e) (EQ2_if (frC_FX3_wakeSleepers_oc1 _ _  _ e) (EQ2_if (frC_FX3_takeInput_oc1 _  _ e) (EQ2_if (frC_FX3_startThread_oc1 _  _ e) (EQ2_if e (frC_FX3_goTo_oc1 _  _ e))))))))))))))))))))
theorem frC_FX3_rise_oc1 {h0 : ph_H} (a0 : Int32) (h : ph_H) (e : EQ pC h0 h) : EQ pC h0 (FX3_rise_oc1 a0 h).2 := (frC_FX3_own_oc1 _ _  _ (EQ_s rfl e))
theorem frC_FX3_go_oc1_67 {h0 : ph_H} (x1 : Int32) (s0 : Int32) (h : ph_H) (e : EQ pC h0 h) : EQ pC h0 (FX3_go_oc1_67 x1 s0 h).2 := (EQ2_if (EQ_s rfl e) e)
theorem frC_FX3_go_oc1_59 {h0 : ph_H} (x1 : Int32) (s0 : Int32) (h : ph_H) (e : EQ pC h0 h) : EQ pC h0 (FX3_go_oc1_59 x1 s0 h).2 := (frC_FX3_go_oc1_67 _ _  _ e)
theorem frC_FX3_go_oc1 {h0 : ph_H} (a0 : Int32) (h : ph_H) (e : EQ pC h0 h) : EQ pC h0 (FX3_go_oc1 a0 h).2 := (EQ2_if e (EQ2_if (frC_FX3_go_oc1_59 _ _  _ (frC_FX3_rise_oc1 _  _ (EQ_s rfl (EQ_s rfl (EQ_s rfl (EQ_s rfl (EQ_s rfl e))))))) (frC_FX3_go_oc1_67 _ _  _ (frC_FX3_perform_oc1 _  _ (EQ_s rfl (EQ_s rfl (EQ_s rfl (EQ_s rfl (EQ_s rfl e)))))))))
theorem frC_FX11_goByRecordc1_120 {h0 : ph_H} (L37 : Int32 → Int32 → Int32 → Int32 → ph_H → Int32 × ph_H) (x1 : Int32) (x2 : Int32) (x3 : Int32) (x4 : Int32) (s0 : Int32) (hL37 : ∀ (y0 : Int32) (y1 : Int32) (y2 : Int32) (y3 : Int32) (h : ph_H), EQ pC h0 h → EQ pC h0 (L37 y0 y1 y2 y3 h).2) (h : ph_H) (e : EQ pC h0 h) : EQ pC h0 (FX11_goByRecordc1_120 L37 x1 x2 x3 x4 s0 h).2 := (EQ2_if e (EQ2_if e (EQ2_if (hL37 _ _ _ _ _ (EQ_s rfl e)) (EQ_s rfl e))))
theorem frC_FX11_goByRecordc1_106 {h0 : ph_H} (L37 : Int32 → Int32 → Int32 → Int32 → ph_H → Int32 × ph_H) (x1 : Int32) (x2 : Int32) (x3 : Int32) (x4 : Int32) (hL37 : ∀ (y0 : Int32) (y1 : Int32) (y2 : Int32) (y3 : Int32) (h : ph_H), EQ pC h0 h → EQ pC h0 (L37 y0 y1 y2 y3 h).2) (h : ph_H) (e : EQ pC h0 h) : EQ pC h0 (FX11_goByRecordc1_106 L37 x1 x2 x3 x4 h).2 := (EQ2_if (frC_FX11_goByRecordc1_120 _ _ _ _ _ _ hL37 _ (frC_FX3_go_oc1 _  _ e)) e)
theorem frC_FX11_goByRecordc1_88 {h0 : ph_H} (L37 : Int32 → Int32 → Int32 → Int32 → ph_H → Int32 × ph_H) (x1 : Int32) (x2 : Int32) (x3 : Int32) (x4 : Int32) (hL37 : ∀ (y0 : Int32) (y1 : Int32) (y2 : Int32) (y3 : Int32) (h : ph_H), EQ pC h0 h → EQ pC h0 (L37 y0 y1 y2 y3 h).2) (h : ph_H) (e : EQ pC h0 h) : EQ pC h0 (FX11_goByRecordc1_88 L37 x1 x2 x3 x4 h).2 := (EQ2_if (frC_FX11_goByRecordc1_106 _ _ _ _ _ hL37 _ e) (frC_FX11_goByRecordc1_106 _ _ _ _ _ hL37 _ e))
theorem frC_FX11_goByRecordc1_37 {h0 : ph_H}  : ∀ (q : Nat) (y0 : Int32) (y1 : Int32) (y2 : Int32) (y3 : Int32) (h : ph_H), EQ pC h0 h → EQ pC h0 (FX11_goByRecordc1_37  q y0 y1 y2 y3 h).2 := by
  intro q
  induction q with
  | zero =>
    intro y0 y1 y2 y3 h e
    exact e
  | succ q ih =>
    intro y0 y1 y2 y3 h e
    exact (EQ2_if (EQ2_if e e) (EQ2_if (frC_FX11_goByRecordc1_88 _ _ _ _ _ ih _ e) (EQ2_if (frC_FX11_goByRecordc1_88 _ _ _ _ _ ih _ e) (EQ2_if (frC_FX11_goByRecordc1_88 _ _ _ _ _ ih _ e) (frC_FX11_goByRecordc1_88 _ _ _ _ _ ih _ e)))))
theorem frC_FX11_goByRecordc1_30 {h0 : ph_H} (x1 : Int32) (x2 : Int32) (x3 : Int32) (s0 : Int32) (h : ph_H) (e : EQ pC h0 h) : EQ pC h0 (FX11_goByRecordc1_30 x1 x2 x3 s0 h).2 := (frC_FX11_goByRecordc1_37   _ _ _ _ _ _ (EQ_s rfl e))
theorem frC_FX11_goByRecordc1_29 {h0 : ph_H} (x1 : Int32) (x2 : Int32) (x3 : Int32) (h : ph_H) (e : EQ pC h0 h) : EQ pC h0 (FX11_goByRecordc1_29 x1 x2 x3 h).2 := (frC_FX11_goByRecordc1_30 _ _ _ _  _ e)
theorem frC_FX11_goByRecordc1 {h0 : ph_H} (a0 : Int32) (h : ph_H) (e : EQ pC h0 h) : EQ pC h0 (FX11_goByRecordc1 a0 h).2 := (EQ2_if (frC_FX11_goByRecordc1_29 _ _ _  _ e) (EQ2_if (frC_FX11_goByRecordc1_29 _ _ _  _ e) (frC_FX11_goByRecordc1_30 _ _ _ _  _ e)))
theorem frC_FJ7_fill_53178_k26_5 {h0 : ph_H}  : ∀ (q : Nat) (y0 : Int32) (y1 : Int32) (y2 : Int32) (h : ph_H), EQ pC h0 h → EQ pC h0 (FJ7_fill_53178_k26_5  q y0 y1 y2 h) := by
  intro q
  induction q with
  | zero =>
    intro y0 y1 y2 h e
    exact e
  | succ q ih =>
    intro y0 y1 y2 h e
    exact (EQ_if e (ih _ _ _ _ (EQ_s rfl e)))
theorem frC_FJ7_fill_53178_k26 {h0 : ph_H} (a1 : Int32) (h : ph_H) (e : EQ pC h0 h) : EQ pC h0 (FJ7_fill_53178_k26 a1 h) := (frC_FJ7_fill_53178_k26_5   _ _ _ _ _ e)
theorem frC_FJ7_fill_53178_k27_5 {h0 : ph_H}  : ∀ (q : Nat) (y0 : Int32) (y1 : Int32) (y2 : Int32) (h : ph_H), EQ pC h0 h → EQ pC h0 (FJ7_fill_53178_k27_5  q y0 y1 y2 h) := by
  intro q
  induction q with
  | zero =>
    intro y0 y1 y2 h e
    exact e
  | succ q ih =>
    intro y0 y1 y2 h e
    exact (EQ_if e (ih _ _ _ _ (EQ_s rfl e)))
theorem frC_FJ7_fill_53178_k27 {h0 : ph_H} (a1 : Int32) (h : ph_H) (e : EQ pC h0 h) : EQ pC h0 (FJ7_fill_53178_k27 a1 h) := (frC_FJ7_fill_53178_k27_5   _ _ _ _ _ e)
theorem frC_FJ7_fill_53178_k28_5 {h0 : ph_H}  : ∀ (q : Nat) (y0 : Int32) (y1 : Int32) (y2 : Int32) (h : ph_H), EQ pC h0 h → EQ pC h0 (FJ7_fill_53178_k28_5  q y0 y1 y2 h) := by
  intro q
  induction q with
  | zero =>
    intro y0 y1 y2 h e
    exact e
  | succ q ih =>
    intro y0 y1 y2 h e
    exact (EQ_if e (ih _ _ _ _ (EQ_s rfl e)))
theorem frC_FJ7_fill_53178_k28 {h0 : ph_H} (a1 : Int32) (h : ph_H) (e : EQ pC h0 h) : EQ pC h0 (FJ7_fill_53178_k28 a1 h) := (frC_FJ7_fill_53178_k28_5   _ _ _ _ _ e)
theorem frC_FJ7_fill_53178_k29_5 {h0 : ph_H}  : ∀ (q : Nat) (y0 : Int32) (y1 : Int32) (y2 : Int32) (h : ph_H), EQ pC h0 h → EQ pC h0 (FJ7_fill_53178_k29_5  q y0 y1 y2 h) := by
  intro q
  induction q with
  | zero =>
    intro y0 y1 y2 h e
    exact e
  | succ q ih =>
    intro y0 y1 y2 h e
    exact (EQ_if e (ih _ _ _ _ (EQ_s rfl e)))
theorem frC_FJ7_fill_53178_k29 {h0 : ph_H} (a1 : Int32) (h : ph_H) (e : EQ pC h0 h) : EQ pC h0 (FJ7_fill_53178_k29 a1 h) := (frC_FJ7_fill_53178_k29_5   _ _ _ _ _ e)
theorem frC_FX3_begin_on_52 {h0 : ph_H} (x2 : Int32) (h : ph_H) (e : EQ pC h0 h) : EQ pC h0 (FX3_begin_on_52 x2 h) := (EQ_s rfl (EQ_s rfl (EQ_s rfl (EQ_s rfl e))))
theorem frC_FX3_begin_on_44 {h0 : ph_H} (x2 : Int32) (h : ph_H) (e : EQ pC h0 h) : EQ pC h0 (FX3_begin_on_44 x2 h) := (frC_FX3_begin_on_52 _  _ (frC_FJ7_fill_53178_k29 _  _ e))
theorem frC_FX3_begin_on_21 {h0 : ph_H} (x2 : Int32) (h : ph_H) (e : EQ pC h0 h) : EQ pC h0 (FX3_begin_on_21 x2 h) := (frC_FX3_begin_on_44 _  _ (frC_FJ7_fill_53178_k28 _  _ (EQ_c (fun _ => rfl) e)))
theorem frC_FX3_begin_on_13 {h0 : ph_H} (x2 : Int32) (h : ph_H) (e : EQ pC h0 h) : EQ pC h0 (FX3_begin_on_13 x2 h) := (frC_FX3_begin_on_21 _  _ (frC_FJ7_fill_53178_k27 _  _ e))
theorem frC_FX3_begin_on {h0 : ph_H} (a1 : Int32) (h : ph_H) (e : EQ pC h0 h) : EQ pC h0 (FX3_begin_on a1 h) := (frC_FX3_begin_on_13 _  _ (frC_FJ7_fill_53178_k26 _  _ e))
theorem frC_FX11_play_54 {h0 : ph_H} (x1 : Int32) (h : ph_H) (e : EQ pC h0 h) : EQ pC h0 (FX11_play_54 x1 h).2 := (EQ_s rfl (frC_FX11_goByRecordc1 _  _ e))
theorem frC_FX11_play {h0 : ph_H} (a0 : Int32) (a1 : Int32) (h : ph_H) (e : EQ pC h0 h) : EQ pC h0 (FX11_play a0 a1 h).2 := (EQ2_if e (EQ2_if e (EQ2_if e (EQ2_if e (EQ2_if (frC_FX11_play_54 _  _ (frC_FX3_begin_on _  _ e)) e)))))
theorem frC_FX11_replay_s_33 {h0 : ph_H} (L3 : Int32 → Int32 → ph_H → ph_H) (x3 : Int32) (x4 : Int32) (s0 : Int32) (hL3 : ∀ (y0 : Int32) (y1 : Int32) (h : ph_H), EQ pC h0 h → EQ pC h0 (L3 y0 y1 h)) (h : ph_H) (e : EQ pC h0 h) : EQ pC h0 (FX11_replay_s_33 L3 x3 x4 s0 h) := (hL3 _ _ _ e)
theorem frC_FX11_replay_s_3 {h0 : ph_H}  : ∀ (q : Nat) (y0 : Int32) (y1 : Int32) (h : ph_H), EQ pC h0 h → EQ pC h0 (FX11_replay_s_3  q y0 y1 h) := by
  intro q
  induction q with
  | zero =>
    intro y0 y1 h e
    exact e
  | succ q ih =>
    intro y0 y1 h e
    exact (EQ_if e (EQ_if e (frC_FX11_replay_s_33 _ _ _ _ ih _ (frC_FX3_go_s _  _ e))))
theorem frC_FX11_replay_s {h0 : ph_H} (a1 : Int32) (a2 : Int32) (h : ph_H) (e : EQ pC h0 h) : EQ pC h0 (FX11_replay_s a1 a2 h) := (frC_FX11_replay_s_3   _ _ _ _ e)
theorem frC_FX11_seenBehind_44 {h0 : ph_H} (x1 : Int32) (h : ph_H) (e : EQ pC h0 h) : EQ pC h0 (FX11_seenBehind_44 x1 h) := (EQ_s rfl e)
theorem frC_FX11_seenBehind_31 {h0 : ph_H} (x1 : Int32) (h : ph_H) (e : EQ pC h0 h) : EQ pC h0 (FX11_seenBehind_31 x1 h) := (frC_FX11_seenBehind_44 _  _ (frC_FX11_replay_s _ _  _ e))
theorem frC_FX11_seenBehind_26 {h0 : ph_H} (x1 : Int32) (h : ph_H) (e : EQ pC h0 h) : EQ pC h0 (FX11_seenBehind_26 x1 h) := (frC_FX11_seenBehind_31 _  _ (EQ_s rfl e))
theorem frC_FX11_seenBehind {h0 : ph_H} (a0 : Int32) (h : ph_H) (e : EQ pC h0 h) : EQ pC h0 (FX11_seenBehind a0 h) := (EQ_if (frC_FX11_seenBehind_31 _  _ e) (frC_FX11_seenBehind_26 _  _ (frC_FX3_begin_st _  _ e)))
theorem frC_FX11_thing_18 {h0 : ph_H} (x1 : Int32) (x2 : Int32) (h : ph_H) (e : EQ pC h0 h) : EQ pC h0 (FX11_thing_18 x1 x2 h).2 := (EQ2_if e (EQ2_if e (EQ2_if (EQ2_if e (EQ2_if e e)) e)))
theorem frC_FX11_thing {h0 : ph_H} (a0 : Int32) (a1 : Int32) (h : ph_H) (e : EQ pC h0 h) : EQ pC h0 (FX11_thing a0 a1 h).2 := (EQ2_if e (frC_FX11_thing_18 _ _  _ (frC_FX11_seenBehind _  _ e)))
theorem frC_FX11_thread_36 {h0 : ph_H} (x1 : Int32) (x2 : Int32) (h : ph_H) (e : EQ pC h0 h) : EQ pC h0 (FX11_thread_36 x1 x2 h).2 := (EQ2_if e e)
theorem frC_FX11_thread {h0 : ph_H} (a0 : Int32) (a1 : Int32) (h : ph_H) (e : EQ pC h0 h) : EQ pC h0 (FX11_thread a0 a1 h).2 := (EQ2_if e (EQ2_if e (EQ2_if e (EQ2_if (frC_FX11_thread_36 _ _  _ (frC_FX11_seenBehind _  _ e)) e))))
theorem frC_FJ7_fill_53178_k49_5 {h0 : ph_H}  : ∀ (q : Nat) (y0 : Int32) (y1 : Int32) (y2 : Int32) (h : ph_H), EQ pC h0 h → EQ pC h0 (FJ7_fill_53178_k49_5  q y0 y1 y2 h) := by
  intro q
  induction q with
  | zero =>
    intro y0 y1 y2 h e
    exact e
  | succ q ih =>
    intro y0 y1 y2 h e
    exact (EQ_if e (ih _ _ _ _ (EQ_s rfl e)))
theorem frC_FJ7_fill_53178_k49 {h0 : ph_H} (a1 : Int32) (h : ph_H) (e : EQ pC h0 h) : EQ pC h0 (FJ7_fill_53178_k49 a1 h) := (frC_FJ7_fill_53178_k49_5   _ _ _ _ _ e)
theorem frC_FJ7_fill_53178_k50_5 {h0 : ph_H}  : ∀ (q : Nat) (y0 : Int32) (y1 : Int32) (y2 : Int32) (h : ph_H), EQ pC h0 h → EQ pC h0 (FJ7_fill_53178_k50_5  q y0 y1 y2 h) := by
  intro q
  induction q with
  | zero =>
    intro y0 y1 y2 h e
    exact e
  | succ q ih =>
    intro y0 y1 y2 h e
    exact (EQ_if e (ih _ _ _ _ (EQ_s rfl e)))
theorem frC_FJ7_fill_53178_k50 {h0 : ph_H} (a1 : Int32) (h : ph_H) (e : EQ pC h0 h) : EQ pC h0 (FJ7_fill_53178_k50 a1 h) := (frC_FJ7_fill_53178_k50_5   _ _ _ _ _ e)
theorem frC_FX4_join_k49k49_3 {h0 : ph_H}  : ∀ (q : Nat) (y0 : Int32) (y1 : Int32) (y2 : Int32) (h : ph_H), EQ pC h0 h → EQ pC h0 (FX4_join_k49k49_3  q y0 y1 y2 h) := by
  intro q
  induction q with
  | zero =>
    intro y0 y1 y2 h e
    exact e
  | succ q ih =>
    intro y0 y1 y2 h e
    exact (EQ_if e (ih _ _ _ _ (EQ_s rfl e)))
theorem frC_FX4_join_k49k49 {h0 : ph_H} (a1 : Int32) (a3 : Int32) (h : ph_H) (e : EQ pC h0 h) : EQ pC h0 (FX4_join_k49k49 a1 a3 h) := (frC_FX4_join_k49k49_3   _ _ _ _ _ e)
theorem frC_FX4_join_k49k50_3 {h0 : ph_H}  : ∀ (q : Nat) (y0 : Int32) (y1 : Int32) (y2 : Int32) (h : ph_H), EQ pC h0 h → EQ pC h0 (FX4_join_k49k50_3  q y0 y1 y2 h) := by
  intro q
  induction q with
  | zero =>
    intro y0 y1 y2 h e
    exact e
  | succ q ih =>
    intro y0 y1 y2 h e
    exact (EQ_if e (ih _ _ _ _ (EQ_s rfl e)))
theorem frC_FX4_join_k49k50 {h0 : ph_H} (a1 : Int32) (a3 : Int32) (h : ph_H) (e : EQ pC h0 h) : EQ pC h0 (FX4_join_k49k50 a1 a3 h) := (frC_FX4_join_k49k50_3   _ _ _ _ _ e)
theorem frC_FX4_join_k50k49_3 {h0 : ph_H}  : ∀ (q : Nat) (y0 : Int32) (y1 : Int32) (y2 : Int32) (h : ph_H), EQ pC h0 h → EQ pC h0 (FX4_join_k50k49_3  q y0 y1 y2 h) := by
  intro q
  induction q with
  | zero =>
    intro y0 y1 y2 h e
    exact e
  | succ q ih =>
    intro y0 y1 y2 h e
    exact (EQ_if e (ih _ _ _ _ (EQ_s rfl e)))
theorem frC_FX4_join_k50k49 {h0 : ph_H} (a1 : Int32) (a3 : Int32) (h : ph_H) (e : EQ pC h0 h) : EQ pC h0 (FX4_join_k50k49 a1 a3 h) := (frC_FX4_join_k50k49_3   _ _ _ _ _ e)
theorem frC_FX4_learn_125 {h0 : ph_H} (x1 : Int32) (x2 : Int32) (h : ph_H) (e : EQ pC h0 h) : EQ pC h0 (FX4_learn_125 x1 x2 h) := (EQ_c (fun _ => rfl) e)
theorem frC_FX4_learn_67 {h0 : ph_H} (x1 : Int32) (x2 : Int32) (h : ph_H) (e : EQ pC h0 h) : EQ pC h0 (FX4_learn_67 x1 x2 h) := (frC_FX4_learn_125 _ _  _ e)
theorem frC_FX4_learn_96 {h0 : ph_H} (x1 : Int32) (x2 : Int32) (h : ph_H) (e : EQ pC h0 h) : EQ pC h0 (FX4_learn_96 x1 x2 h) := (frC_FX4_learn_125 _ _  _ e)
theorem frC_FX4_learn {h0 : ph_H} (a0 : Int32) (h : ph_H) (e : EQ pC h0 h) : EQ pC h0 (FX4_learn a0 h) := (EQ_if (frC_FX4_learn_67 _ _  _ (frC_FX4_join_k50k49 _ _  _ (EQ_s rfl e))) (EQ_if (frC_FX4_learn_96 _ _  _ (frC_FX4_join_k49k50 _ _  _ (EQ_s rfl e))) (EQ_if (frC_FX4_learn_125 _ _  _ (frC_FX4_join_k49k49 _ _  _ (EQ_s rfl e))) (frC_FX4_learn_125 _ _  _ (EQ_s rfl e)))))
theorem frC_FX4_prepare_47 {h0 : ph_H} (L31 : Int32 → ph_H → ph_H) (x1 : Int32) (hL31 : ∀ (y0 : Int32) (h : ph_H), EQ pC h0 h → EQ pC h0 (L31 y0 h)) (h : ph_H) (e : EQ pC h0 h) : EQ pC h0 (FX4_prepare_47 L31 x1 h) := (hL31 _ _ (EQ_s rfl (EQ_s rfl e)))
theorem frC_FX4_prepare_31 {h0 : ph_H}  : ∀ (q : Nat) (y0 : Int32) (h : ph_H), EQ pC h0 h → EQ pC h0 (FX4_prepare_31  q y0 h) := by
  intro q
  induction q with
  | zero =>
    intro y0 h e
    exact e
  | succ q ih =>
    intro y0 h e
    exact (EQ_if (EQ_s rfl e) (frC_FX4_prepare_47 _ _ ih _ (frC_FX4_learn _  _ e)))
theorem frC_FX4_prepare_24 {h0 : ph_H}  (h : ph_H) (e : EQ pC h0 h) : EQ pC h0 (FX4_prepare_24 h) := (frC_FX4_prepare_31   _ _ _ (EQ_s rfl e))
theorem frC_FX4_prepare_16 {h0 : ph_H}  (h : ph_H) (e : EQ pC h0 h) : EQ pC h0 (FX4_prepare_16 h) := (frC_FX4_prepare_24   _ (frC_FJ7_fill_53178_k50 _  _ e))
theorem frC_FX4_prepare {h0 : ph_H}  (h : ph_H) (e : EQ pC h0 h) : EQ pC h0 (FX4_prepare h) := (EQ_if (frC_FX4_prepare_16   _ (frC_FJ7_fill_53178_k49 _  _ e)) e)
theorem frC_FX11_ahead_40 {h0 : ph_H} (x1 : Int32) (x2 : Int32) (h : ph_H) (e : EQ pC h0 h) : EQ pC h0 (FX11_ahead_40 x1 x2 h).2 := (EQ2_if e e)
theorem frC_FX11_ahead {h0 : ph_H} (a0 : Int32) (a1 : Int32) (h : ph_H) (e : EQ pC h0 h) : EQ pC h0 (FX11_ahead a0 a1 h).2 := (EQ2_if e (EQ2_if e (EQ2_if e (EQ2_if (frC_FX11_ahead_40 _ _  _ (frC_FX4_prepare   _ e)) e))))
theorem frC_FX11_race_28 {h0 : ph_H} (x1 : Int32) (x2 : Int32) (h : ph_H) (e : EQ pC h0 h) : EQ pC h0 (FX11_race_28 x1 x2 h).2 := (EQ2_if e (EQ2_if e (EQ2_if (EQ2_if e (EQ2_if e e)) e)))
theorem frC_FX11_race {h0 : ph_H} (a0 : Int32) (a1 : Int32) (h : ph_H) (e : EQ pC h0 h) : EQ pC h0 (FX11_race a0 a1 h).2 := (EQ2_if e (EQ2_if e (EQ2_if (frC_FX11_race_28 _ _  _ (frC_FX4_prepare   _ e)) e)))
theorem frC_FX3_hold_oc2 {h0 : ph_H} (a0 : Int32) (a1 : Int32) (a2 : Int32) (h : ph_H) (e : EQ pC h0 h) : EQ pC h0 (FX3_hold_oc2 a0 a1 a2 h).2 := (EQ_s rfl (EQ_s rfl e))
theorem frC_FX3_getCell_oc2 {h0 : ph_H} (a0 : Int32) (a1 : Int32) (h : ph_H) (e : EQ pC h0 h) : EQ pC h0 (FX3_getCell_oc2 a0 a1 h).2 := (frC_FX3_hold_oc2 _ _ _  _ (EQ_s rfl e))
theorem frC_FX3_goTo_oc2 {h0 : ph_H} (a0 : Int32) (h : ph_H) (e : EQ pC h0 h) : EQ pC h0 (FX3_goTo_oc2 a0 h).2 := (EQ_s rfl e)
theorem frC_FX3_goUnless_oc2_25 {h0 : ph_H} (s0 : Int32) (h : ph_H) (e : EQ pC h0 h) : EQ pC h0 (FX3_goUnless_oc2_25 s0 h).2 := e
theorem frC_FX3_goUnless_oc2 {h0 : ph_H} (a0 : Int32) (a1 : Int32) (h : ph_H) (e : EQ pC h0 h) : EQ pC h0 (FX3_goUnless_oc2 a0 a1 h).2 := (EQ2_if (EQ2_if (frC_FX3_goUnless_oc2_25 _  _ (frC_FX3_goTo_oc2 _  _ e)) e) e)
theorem frC_FX3_free_oc2 {h0 : ph_H} (a0 : Int32) (h : ph_H) (e : EQ pC h0 h) : EQ pC h0 (FX3_free_oc2 a0 h).2 := (EQ_s rfl (EQ_s rfl (EQ_s rfl e)))
theorem frC_FX3_leaveLock_oc2 {h0 : ph_H} (a0 : Int32) (a1 : Int32) (h : ph_H) (e : EQ pC h0 h) : EQ pC h0 (FX3_leaveLock_oc2 a0 a1 h).2 := (EQ2_if (EQ2_if (frC_FX3_free_oc2 _  _ e) e) e)
theorem frC_FX3_lieDown_oc2 {h0 : ph_H} (a0 : Int32) (a1 : Int32) (h : ph_H) (e : EQ pC h0 h) : EQ pC h0 (FX3_lieDown_oc2 a0 a1 h).2 := (EQ2_if (EQ2_if (frC_FX3_free_oc2 _  _ (EQ_s rfl (EQ_s rfl (EQ_s rfl e)))) e) e)
theorem frC_FX3_makeThing_oc2 {h0 : ph_H} (a0 : Int32) (a1 : Int32) (a2 : Int32) (h : ph_H) (e : EQ pC h0 h) : EQ pC h0 (FX3_makeThing_oc2 a0 a1 a2 h).2 := (EQ_s rfl (EQ_s rfl (EQ_s rfl (EQ_s rfl (EQ_s rfl (EQ_s rfl e))))))
theorem frC_FX3_makeLock_oc2_22 {h0 : ph_H} (s0 : Int32) (s1 : Int32) (h : ph_H) (e : EQ pC h0 h) : EQ pC h0 (FX3_makeLock_oc2_22 s0 s1 h).2 := (frC_FX3_makeThing_oc2 _ _ _  _ e)
theorem frC_FX3_makeLock_oc2 {h0 : ph_H} (a0 : Int32) (a1 : Int32) (h : ph_H) (e : EQ pC h0 h) : EQ pC h0 (FX3_makeLock_oc2 a0 a1 h).2 := (EQ2_if (EQ2_if (frC_FX3_makeLock_oc2_22 _ _  _ e) (frC_FX3_makeLock_oc2_22 _ _  _ e)) e)
theorem frC_FX3_makeRow_oc2_44 {h0 : ph_H}  : ∀ (q : Nat) (y0 : Int32) (y1 : Int32) (y2 : Int32) (h : ph_H), EQ pC h0 h → EQ pC h0 (FX3_makeRow_oc2_44  q y0 y1 y2 h).2 := by
  intro q
  induction q with
  | zero =>
    intro y0 y1 y2 h e
    exact e
  | succ q ih =>
    intro y0 y1 y2 h e
    exact (EQ2_if (frC_FX3_makeThing_oc2 _ _ _  _ e) (ih _ _ _ _ (EQ_s rfl e)))
theorem frC_FX3_makeRow_oc2 {h0 : ph_H} (a0 : Int32) (a1 : Int32) (h : ph_H) (e : EQ pC h0 h) : EQ pC h0 (FX3_makeRow_oc2 a0 a1 h).2 := (EQ2_if (EQ2_if (EQ2_if e (EQ2_if (frC_FX3_makeRow_oc2_44   _ _ _ _ _ e) e)) e) e)
theorem frC_FX3_putCell_oc2 {h0 : ph_H} (a0 : Int32) (a1 : Int32) (h : ph_H) (e : EQ pC h0 h) : EQ pC h0 (FX3_putCell_oc2 a0 a1 h).2 := (frC_FX3_hold_oc2 _ _ _  _ (EQ_s rfl e))
theorem frC_FX3_readRow_oc2 {h0 : ph_H} (a0 : Int32) (a1 : Int32) (a2 : Int32) (h : ph_H) (e : EQ pC h0 h) : EQ pC h0 (FX3_readRow_oc2 a0 a1 a2 h).2 := (EQ2_if (EQ2_if (EQ2_if e (frC_FX3_hold_oc2 _ _ _  _ (EQ_s rfl e))) e) e)
theorem frC_FX3_reckon_oc2_58 {h0 : ph_H} (x2 : Int32) (s0 : Int32) (h : ph_H) (e : EQ pC h0 h) : EQ pC h0 (FX3_reckon_oc2_58 x2 s0 h).2 := (frC_FX3_hold_oc2 _ _ _  _ e)
theorem frC_FX3_reckon_oc2 {h0 : ph_H} (a0 : Int32) (a1 : Int32) (a2 : Int32) (h : ph_H) (e : EQ pC h0 h) : EQ pC h0 (FX3_reckon_oc2 a0 a1 a2 h).2 := (EQ2_if e (EQ2_if (frC_FX3_reckon_oc2_58 _ _  _ e) (EQ2_if (frC_FX3_reckon_oc2_58 _ _  _ e) (frC_FX3_reckon_oc2_58 _ _  _ e))))
theorem frC_FX3_startThread_oc2 {h0 : ph_H} (a0 : Int32) (h : ph_H) (e : EQ pC h0 h) : EQ pC h0 (FX3_startThread_oc2 a0 h).2 := (EQ2_if (EQ_s rfl (EQ_s rfl (EQ_s rfl e))) e)
theorem frC_FX3_takeInput_oc2 {h0 : ph_H} (a0 : Int32) (h : ph_H) (e : EQ pC h0 h) : EQ pC h0 (FX3_takeInput_oc2 a0 h).2 := (EQ2_if e (EQ2_if (frC_FX3_hold_oc2 _ _ _  _ (EQ_s rfl e)) e))
theorem frC_FX3_own_oc2 {h0 : ph_H} (a0 : Int32) (a1 : Int32) (h : ph_H) (e : EQ pC h0 h) : EQ pC h0 (FX3_own_oc2 a0 a1 h).2 := (EQ_s rfl (EQ_s rfl (EQ_s rfl e)))
theorem frC_FX3_takeLock_oc2 {h0 : ph_H} (a0 : Int32) (a1 : Int32) (h : ph_H) (e : EQ pC h0 h) : EQ pC h0 (FX3_takeLock_oc2 a0 a1 h).2 := (EQ2_if (EQ2_if e (frC_FX3_own_oc2 _ _  _ e)) e)
theorem frC_FX3_wakeSleepers_oc2_64 {h0 : ph_H} (L28 : Int32 → Int32 → ph_H → Int32 × ph_H) (x3 : Int32) (x4 : Int32) (hL28 : ∀ (y0 : Int32) (y1 : Int32) (h : ph_H), EQ pC h0 h → EQ pC h0 (L28 y0 y1 h).2) (h : ph_H) (e : EQ pC h0 h) : EQ pC h0 (FX3_wakeSleepers_oc2_64 L28 x3 x4 h).2 := (hL28 _ _ _ e)
theorem frC_FX3_wakeSleepers_oc2_28 {h0 : ph_H}  : ∀ (q : Nat) (y0 : Int32) (y1 : Int32) (h : ph_H), EQ pC h0 h → EQ pC h0 (FX3_wakeSleepers_oc2_28  q y0 y1 h).2 := by
  intro q
  induction q with
  | zero =>
    intro y0 y1 h e
    exact e
  | succ q ih =>
    intro y0 y1 h e
    exact (EQ2_if (EQ_s rfl e) (EQ2_if (EQ2_if (frC_FX3_wakeSleepers_oc2_64 _ _ _ ih _ (EQ_s rfl e)) (frC_FX3_wakeSleepers_oc2_64 _ _ _ ih _ e)) (frC_FX3_wakeSleepers_oc2_64 _ _ _ ih _ e)))
theorem frC_FX3_wakeSleepers_oc2 {h0 : ph_H} (a0 : Int32) (a1 : Int32) (h : ph_H) (e : EQ pC h0 h) : EQ pC h0 (FX3_wakeSleepers_oc2 a0 a1 h).2 := (EQ2_if (EQ2_if (frC_FX3_wakeSleepers_oc2_28   _ _ _ _ e) e) e)
theorem frC_FX3_writeRow_oc2 {h0 : ph_H} (a0 : Int32) (a1 : Int32) (a2 : Int32) (h : ph_H) (e : EQ pC h0 h) : EQ pC h0 (FX3_writeRow_oc2 a0 a1 a2 h).2 := (EQ2_if (EQ2_if e (EQ2_if e (EQ_s rfl (EQ_s rfl e)))) e)
theorem frC_FX3_perform_oc2_288 {h0 : ph_H} (s0 : Int32) (s1 : Int32) (h : ph_H) (e : EQ pC h0 h) : EQ pC h0 (FX3_perform_oc2_288 s0 s1 h).2 := (frC_FX3_makeLock_oc2 _ _  _ e)
theorem frC_FX3_perform_oc2 {h0 : ph_H} (a0 : Int32) (h : ph_H) (e : EQ pC h0 h) : EQ pC h0 (FX3_perform_oc2 a0 h).2 := (EQ2_if (frC_FX3_hold_oc2 _ _ _  _ e) (EQ2_if (frC_FX3_getCell_oc2 _ _  _ e) (EQ2_if (frC_FX3_putCell_oc2 _ _  _ e) (EQ2_if (frC_FX3_reckon_oc2 _ _ _  _ e) (EQ2_if (frC_FX3_reckon_oc2 _ _ _  _ e) (EQ2_if (frC_FX3_reckon_oc2 _ _ _  _ e) (EQ2_if (frC_FX3_goTo_oc2 _  _ e) (EQ2_if (frC_FX3_goUnless_oc2 _ _  _ e) (EQ2_if (frC_FX3_makeRow_oc2 _ _  _ e) (EQ2_if (frC_FX3_readRow_oc2 _ _ _  _ e) (EQ2_if (frC_FX3_writeRow_oc2 _ _ _  _ e) (EQ2_if (EQ2_if (frC_FX3_perform_oc2_288 _ _  _ e) (frC_FX3_perform_oc2_288 _ _  _ e)) (EQ2_if (frC_FX3_takeLock_oc2 _ _  _ e) (EQ2_if (frC_FX3_leaveLock_oc2 _ _  _ e) (EQ2_if (frC_FX3_lieDown_oc2 _ _  _ e) (EQ2_if (frC_FX3_wakeSleepers_oc2 _ _  _ e) (EQ2_if (frC_FX3_takeInput_oc2 _  _ e) (EQ2_if (frC_FX3_startThread_oc2 _  _ e) (EQ2_if e (frC_FX3_goTo_oc2 _  _ e))))))))))))))))))))
theorem frC_FX3_rise_oc2 {h0 : ph_H} (a0 : Int32) (h : ph_H) (e : EQ pC h0 h) : EQ pC h0 (FX3_rise_oc2 a0 h).2 := (frC_FX3_own_oc2 _ _  _ (EQ_s rfl e))
theorem frC_FX3_go_oc2_67 {h0 : ph_H} (x1 : Int32) (s0 : Int32) (h : ph_H) (e : EQ pC h0 h) : EQ pC h0 (FX3_go_oc2_67 x1 s0 h).2 := (EQ2_if (EQ_s rfl e) e)
theorem frC_FX3_go_oc2_59 {h0 : ph_H} (x1 : Int32) (s0 : Int32) (h : ph_H) (e : EQ pC h0 h) : EQ pC h0 (FX3_go_oc2_59 x1 s0 h).2 := (frC_FX3_go_oc2_67 _ _  _ e)
theorem frC_FX3_go_oc2 {h0 : ph_H} (a0 : Int32) (h : ph_H) (e : EQ pC h0 h) : EQ pC h0 (FX3_go_oc2 a0 h).2 := (EQ2_if e (EQ2_if (frC_FX3_go_oc2_59 _ _  _ (frC_FX3_rise_oc2 _  _ (EQ_s rfl (EQ_s rfl (EQ_s rfl (EQ_s rfl (EQ_s rfl e))))))) (frC_FX3_go_oc2_67 _ _  _ (frC_FX3_perform_oc2 _  _ (EQ_s rfl (EQ_s rfl (EQ_s rfl (EQ_s rfl (EQ_s rfl e)))))))))
theorem frC_FX11_replay_oc2_33 {h0 : ph_H} (L3 : Int32 → Int32 → ph_H → ph_H) (x3 : Int32) (x4 : Int32) (s0 : Int32) (hL3 : ∀ (y0 : Int32) (y1 : Int32) (h : ph_H), EQ pC h0 h → EQ pC h0 (L3 y0 y1 h)) (h : ph_H) (e : EQ pC h0 h) : EQ pC h0 (FX11_replay_oc2_33 L3 x3 x4 s0 h) := (hL3 _ _ _ e)
theorem frC_FX11_replay_oc2_3 {h0 : ph_H}  : ∀ (q : Nat) (y0 : Int32) (y1 : Int32) (h : ph_H), EQ pC h0 h → EQ pC h0 (FX11_replay_oc2_3  q y0 y1 h) := by
  intro q
  induction q with
  | zero =>
    intro y0 y1 h e
    exact e
  | succ q ih =>
    intro y0 y1 h e
    exact (EQ_if e (EQ_if e (frC_FX11_replay_oc2_33 _ _ _ _ ih _ (frC_FX3_go_oc2 _  _ e))))
theorem frC_FX11_replay_oc2 {h0 : ph_H} (a1 : Int32) (a2 : Int32) (h : ph_H) (e : EQ pC h0 h) : EQ pC h0 (FX11_replay_oc2 a1 a2 h) := (frC_FX11_replay_oc2_3   _ _ _ _ e)
theorem frC_FX3_begin_ot_52 {h0 : ph_H} (x2 : Int32) (h : ph_H) (e : EQ pC h0 h) : EQ pC h0 (FX3_begin_ot_52 x2 h) := (EQ_s rfl (EQ_s rfl (EQ_s rfl (EQ_s rfl e))))
theorem frC_FX3_begin_ot_44 {h0 : ph_H} (x2 : Int32) (h : ph_H) (e : EQ pC h0 h) : EQ pC h0 (FX3_begin_ot_44 x2 h) := (frC_FX3_begin_ot_52 _  _ (frC_FJ7_fill_53178_k29 _  _ e))
theorem frC_FX3_begin_ot_21 {h0 : ph_H} (x2 : Int32) (h : ph_H) (e : EQ pC h0 h) : EQ pC h0 (FX3_begin_ot_21 x2 h) := (frC_FX3_begin_ot_44 _  _ (frC_FJ7_fill_53178_k28 _  _ (EQ_c (fun _ => rfl) e)))
theorem frC_FX3_begin_ot_13 {h0 : ph_H} (x2 : Int32) (h : ph_H) (e : EQ pC h0 h) : EQ pC h0 (FX3_begin_ot_13 x2 h) := (frC_FX3_begin_ot_21 _  _ (frC_FJ7_fill_53178_k27 _  _ e))
theorem frC_FX3_begin_ot {h0 : ph_H} (a1 : Int32) (h : ph_H) (e : EQ pC h0 h) : EQ pC h0 (FX3_begin_ot a1 h) := (frC_FX3_begin_ot_13 _  _ (frC_FJ7_fill_53178_k26 _  _ e))
theorem frC_FX11_differ_61 {h0 : ph_H}  (h : ph_H) (e : EQ pC h0 h) : EQ pC h0 (FX11_differ_61 h).2 := e
theorem frC_FX11_differ_56 {h0 : ph_H} (x2 : Int32) (h : ph_H) (e : EQ pC h0 h) : EQ pC h0 (FX11_differ_56 x2 h).2 := (frC_FX11_differ_61   _ (frC_FX11_seenBehind _  _ e))
theorem frC_FX11_differ_46 {h0 : ph_H} (x1 : Int32) (x2 : Int32) (h : ph_H) (e : EQ pC h0 h) : EQ pC h0 (FX11_differ_46 x1 x2 h).2 := (frC_FX11_differ_56 _  _ (frC_FX11_replay_oc2 _ _  _ e))
theorem frC_FX11_differ {h0 : ph_H} (a0 : Int32) (a1 : Int32) (h : ph_H) (e : EQ pC h0 h) : EQ pC h0 (FX11_differ a0 a1 h).2 := (EQ2_if e (EQ2_if e (EQ2_if e (frC_FX11_differ_46 _ _  _ (frC_FX3_begin_ot _  _ e)))))
theorem frC_FX6_goThrough_97 {h0 : ph_H} (L37 : Int32 → Int32 → ph_H → ph_H) (x1 : Int32) (x2 : Int32) (s0 : Int32) (hL37 : ∀ (y0 : Int32) (y1 : Int32) (h : ph_H), EQ pC h0 h → EQ pC h0 (L37 y0 y1 h)) (h : ph_H) (e : EQ pC h0 h) : EQ pC h0 (FX6_goThrough_97 L37 x1 x2 s0 h) := (hL37 _ _ _ (EQ_s rfl (EQ_s rfl e)))
theorem frC_FX6_goThrough_82 {h0 : ph_H} (L37 : Int32 → Int32 → ph_H → ph_H) (x1 : Int32) (x2 : Int32) (hL37 : ∀ (y0 : Int32) (y1 : Int32) (h : ph_H), EQ pC h0 h → EQ pC h0 (L37 y0 y1 h)) (h : ph_H) (e : EQ pC h0 h) : EQ pC h0 (FX6_goThrough_82 L37 x1 x2 h) := (frC_FX6_goThrough_97 _ _ _ _ hL37 _ (frC_FX3_go_oc1 _  _ e))
theorem frC_FX6_goThrough_122 {h0 : ph_H} (x1 : Int32) (h : ph_H) (e : EQ pC h0 h) : EQ pC h0 (FX6_goThrough_122 x1 h) := (EQ_if e (EQ_s rfl e))
theorem frC_FX6_goThrough_37 {h0 : ph_H}  : ∀ (q : Nat) (y0 : Int32) (y1 : Int32) (h : ph_H), EQ pC h0 h → EQ pC h0 (FX6_goThrough_37  q y0 y1 h) := by
  intro q
  induction q with
  | zero =>
    intro y0 y1 h e
    exact e
  | succ q ih =>
    intro y0 y1 h e
    exact (EQ_if (frC_FX6_goThrough_122 _  _ e) (EQ_if (frC_FX6_goThrough_122 _  _ e) (EQ_if (EQ_if (frC_FX6_goThrough_82 _ _ _ ih _ e) (frC_FX6_goThrough_82 _ _ _ ih _ (EQ_s (pC_57 _ _) e))) (frC_FX6_goThrough_122 _  _ e))))
theorem frC_FX6_goThrough_18 {h0 : ph_H} (x1 : Int32) (h : ph_H) (e : EQ pC h0 h) : EQ pC h0 (FX6_goThrough_18 x1 h) := (frC_FX6_goThrough_37   _ _ _ _ (EQ_s rfl (EQ_s rfl e)))
theorem frC_FX6_goThrough {h0 : ph_H} (a0 : Int32) (h : ph_H) (e : EQ pC h0 h) : EQ pC h0 (FX6_goThrough a0 h) := (frC_FX6_goThrough_18 _  _ (frC_FX3_begin_on _  _ e))
theorem frC_FX3_begin_onc1_52 {h0 : ph_H} (x2 : Int32) (h : ph_H) (e : EQ pC h0 h) : EQ pC h0 (FX3_begin_onc1_52 x2 h) := (EQ_s rfl (EQ_s rfl (EQ_s rfl (EQ_s rfl e))))
theorem frC_FX3_begin_onc1_44 {h0 : ph_H} (x2 : Int32) (h : ph_H) (e : EQ pC h0 h) : EQ pC h0 (FX3_begin_onc1_44 x2 h) := (frC_FX3_begin_onc1_52 _  _ (frC_FJ7_fill_53178_k29 _  _ e))
theorem frC_FX3_begin_onc1_21 {h0 : ph_H} (x2 : Int32) (h : ph_H) (e : EQ pC h0 h) : EQ pC h0 (FX3_begin_onc1_21 x2 h) := (frC_FX3_begin_onc1_44 _  _ (frC_FJ7_fill_53178_k28 _  _ (EQ_c (fun _ => rfl) e)))
theorem frC_FX3_begin_onc1_13 {h0 : ph_H} (x2 : Int32) (h : ph_H) (e : EQ pC h0 h) : EQ pC h0 (FX3_begin_onc1_13 x2 h) := (frC_FX3_begin_onc1_21 _  _ (frC_FJ7_fill_53178_k27 _  _ e))
theorem frC_FX3_begin_onc1 {h0 : ph_H} (a1 : Int32) (h : ph_H) (e : EQ pC h0 h) : EQ pC h0 (FX3_begin_onc1 a1 h) := (frC_FX3_begin_onc1_13 _  _ (frC_FJ7_fill_53178_k26 _  _ e))
theorem frC_FX6_goThroughc1_97 {h0 : ph_H} (L37 : Int32 → Int32 → ph_H → ph_H) (x1 : Int32) (x2 : Int32) (s0 : Int32) (hL37 : ∀ (y0 : Int32) (y1 : Int32) (h : ph_H), EQ pC h0 h → EQ pC h0 (L37 y0 y1 h)) (h : ph_H) (e : EQ pC h0 h) : EQ pC h0 (FX6_goThroughc1_97 L37 x1 x2 s0 h) := (hL37 _ _ _ (EQ_s rfl (EQ_s rfl e)))
theorem frC_FX6_goThroughc1_82 {h0 : ph_H} (L37 : Int32 → Int32 → ph_H → ph_H) (x1 : Int32) (x2 : Int32) (hL37 : ∀ (y0 : Int32) (y1 : Int32) (h : ph_H), EQ pC h0 h → EQ pC h0 (L37 y0 y1 h)) (h : ph_H) (e : EQ pC h0 h) : EQ pC h0 (FX6_goThroughc1_82 L37 x1 x2 h) := (frC_FX6_goThroughc1_97 _ _ _ _ hL37 _ (frC_FX3_go_oc1 _  _ e))
theorem frC_FX6_goThroughc1_122 {h0 : ph_H} (x1 : Int32) (h : ph_H) (e : EQ pC h0 h) : EQ pC h0 (FX6_goThroughc1_122 x1 h) := (EQ_if e (EQ_s rfl e))
theorem frC_FX6_goThroughc1_37 {h0 : ph_H}  : ∀ (q : Nat) (y0 : Int32) (y1 : Int32) (h : ph_H), EQ pC h0 h → EQ pC h0 (FX6_goThroughc1_37  q y0 y1 h) := by
  intro q
  induction q with
  | zero =>
    intro y0 y1 h e
    exact e
  | succ q ih =>
    intro y0 y1 h e
    exact (EQ_if (frC_FX6_goThroughc1_122 _  _ e) (EQ_if (frC_FX6_goThroughc1_122 _  _ e) (EQ_if (EQ_if (frC_FX6_goThroughc1_82 _ _ _ ih _ e) (frC_FX6_goThroughc1_82 _ _ _ ih _ (EQ_s (pC_57 _ _) e))) (frC_FX6_goThroughc1_122 _  _ e))))
theorem frC_FX6_goThroughc1_18 {h0 : ph_H} (x1 : Int32) (h : ph_H) (e : EQ pC h0 h) : EQ pC h0 (FX6_goThroughc1_18 x1 h) := (frC_FX6_goThroughc1_37   _ _ _ _ (EQ_s rfl (EQ_s rfl e)))
theorem frC_FX6_goThroughc1 {h0 : ph_H} (a0 : Int32) (h : ph_H) (e : EQ pC h0 h) : EQ pC h0 (FX6_goThroughc1 a0 h) := (frC_FX6_goThroughc1_18 _  _ (frC_FX3_begin_onc1 _  _ e))
theorem frC_FX6_putAhead {h0 : ph_H} (a0 : Int32) (a1 : Int32) (h : ph_H) (e : EQ pC h0 h) : EQ pC h0 (FX6_putAhead a0 a1 h) := (EQ_s rfl (EQ_s rfl e))
theorem frC_FX6_moveOn_29 {h0 : ph_H} (L16 : Int32 → Int32 → Int32 → ph_H → Int32 × ph_H) (hL16 : ∀ (y0 : Int32) (y1 : Int32) (y2 : Int32) (h : ph_H), EQ pC h0 h → EQ pC h0 (L16 y0 y1 y2 h).2) : ∀ (q : Nat) (y0 : Int32) (y1 : Int32) (y2 : Int32) (h : ph_H), EQ pC h0 h → EQ pC h0 (FX6_moveOn_29 L16 q y0 y1 y2 h).2 := by
  intro q
  induction q with
  | zero =>
    intro y0 y1 y2 h e
    exact e
  | succ q ih =>
    intro y0 y1 y2 h e
    exact (EQ2_if (hL16 _ _ _ _ e) (EQ2_if (ih _ _ _ _ e) (EQ_s rfl (EQ_s rfl e))))
theorem frC_FX6_moveOn_16 {h0 : ph_H}  : ∀ (q : Nat) (y0 : Int32) (y1 : Int32) (y2 : Int32) (h : ph_H), EQ pC h0 h → EQ pC h0 (FX6_moveOn_16  q y0 y1 y2 h).2 := by
  intro q
  induction q with
  | zero =>
    intro y0 y1 y2 h e
    exact e
  | succ q ih =>
    intro y0 y1 y2 h e
    exact (EQ2_if e (frC_FX6_moveOn_29 _ ih _ _ _ _ _ e))
theorem frC_FX6_moveOn {h0 : ph_H} (a0 : Int32) (h : ph_H) (e : EQ pC h0 h) : EQ pC h0 (FX6_moveOn a0 h).2 := (frC_FX6_moveOn_16   _ _ _ _ _ e)
theorem frC_FX6_putChangesc1_71 {h0 : ph_H} (L16 : Int32 → ph_H → Int32 × ph_H) (x1 : Int32) (hL16 : ∀ (y0 : Int32) (h : ph_H), EQ pC h0 h → EQ pC h0 (L16 y0 h).2) (h : ph_H) (e : EQ pC h0 h) : EQ pC h0 (FX6_putChangesc1_71 L16 x1 h).2 := (hL16 _ _ e)
theorem frC_FX6_putChangesc1_53 {h0 : ph_H} (L16 : Int32 → ph_H → Int32 × ph_H) (x1 : Int32) (hL16 : ∀ (y0 : Int32) (h : ph_H), EQ pC h0 h → EQ pC h0 (L16 y0 h).2) (h : ph_H) (e : EQ pC h0 h) : EQ pC h0 (FX6_putChangesc1_53 L16 x1 h).2 := (frC_FX6_putChangesc1_71 _ _ hL16 _ (frC_FX6_putAhead _ _  _ (EQ_s rfl e)))
theorem frC_FX6_putChangesc1_38 {h0 : ph_H} (L16 : Int32 → ph_H → Int32 × ph_H) (x1 : Int32) (s0 : Int32) (hL16 : ∀ (y0 : Int32) (h : ph_H), EQ pC h0 h → EQ pC h0 (L16 y0 h).2) (h : ph_H) (e : EQ pC h0 h) : EQ pC h0 (FX6_putChangesc1_38 L16 x1 s0 h).2 := (EQ2_if e (frC_FX6_putChangesc1_53 _ _ hL16 _ (frC_FX6_goThroughc1 _  _ (EQ_s rfl e))))
theorem frC_FX6_putChangesc1_28 {h0 : ph_H} (L16 : Int32 → ph_H → Int32 × ph_H) (x1 : Int32) (s0 : Int32) (hL16 : ∀ (y0 : Int32) (h : ph_H), EQ pC h0 h → EQ pC h0 (L16 y0 h).2) (h : ph_H) (e : EQ pC h0 h) : EQ pC h0 (FX6_putChangesc1_28 L16 x1 s0 h).2 := (EQ2_if (frC_FX6_putChangesc1_38 _ _ _ hL16 _ (frC_FX6_moveOn _  _ e)) e)
theorem frC_FX6_putChangesc1_16 {h0 : ph_H}  : ∀ (q : Nat) (y0 : Int32) (h : ph_H), EQ pC h0 h → EQ pC h0 (FX6_putChangesc1_16  q y0 h).2 := by
  intro q
  induction q with
  | zero =>
    intro y0 h e
    exact e
  | succ q ih =>
    intro y0 h e
    exact (EQ2_if e (frC_FX6_putChangesc1_28 _ _ _ ih _ (frC_FX6_moveOn _  _ e)))
theorem frC_FX6_putChangesc1 {h0 : ph_H}  (h : ph_H) (e : EQ pC h0 h) : EQ pC h0 (FX6_putChangesc1 h).2 := (EQ2_if (frC_FX6_moveOn _  _ e) (frC_FX6_putChangesc1_16   _ _ _ e))
theorem frC_FX6_look_84 {h0 : ph_H} (L17 : Int32 → Int32 → Int32 → ph_H → Int32 × ph_H) (L47 : Int32 → Int32 → Int32 → ph_H → Int32 × ph_H) (x1 : Int32) (x2 : Int32) (x3 : Int32) (hL17 : ∀ (y0 : Int32) (y1 : Int32) (y2 : Int32) (h : ph_H), EQ pC h0 h → EQ pC h0 (L17 y0 y1 y2 h).2) (hL47 : ∀ (y0 : Int32) (y1 : Int32) (y2 : Int32) (h : ph_H), EQ pC h0 h → EQ pC h0 (L47 y0 y1 y2 h).2) (h : ph_H) (e : EQ pC h0 h) : EQ pC h0 (FX6_look_84 L17 L47 x1 x2 x3 h).2 := (hL47 _ _ _ _ e)
theorem frC_FX6_look_87 {h0 : ph_H} (L17 : Int32 → Int32 → Int32 → ph_H → Int32 × ph_H) (x1 : Int32) (x2 : Int32) (x3 : Int32) (hL17 : ∀ (y0 : Int32) (y1 : Int32) (y2 : Int32) (h : ph_H), EQ pC h0 h → EQ pC h0 (L17 y0 y1 y2 h).2) (h : ph_H) (e : EQ pC h0 h) : EQ pC h0 (FX6_look_87 L17 x1 x2 x3 h).2 := (hL17 _ _ _ _ e)
theorem frC_FX6_look_66 {h0 : ph_H} (L17 : Int32 → Int32 → Int32 → ph_H → Int32 × ph_H) (L47 : Int32 → Int32 → Int32 → ph_H → Int32 × ph_H) (x1 : Int32) (x2 : Int32) (x3 : Int32) (s0 : Int32) (hL17 : ∀ (y0 : Int32) (y1 : Int32) (y2 : Int32) (h : ph_H), EQ pC h0 h → EQ pC h0 (L17 y0 y1 y2 h).2) (hL47 : ∀ (y0 : Int32) (y1 : Int32) (y2 : Int32) (h : ph_H), EQ pC h0 h → EQ pC h0 (L47 y0 y1 y2 h).2) (h : ph_H) (e : EQ pC h0 h) : EQ pC h0 (FX6_look_66 L17 L47 x1 x2 x3 s0 h).2 := (EQ2_if (frC_FX6_look_87 _ _ _ _ hL17 _ e) (frC_FX6_look_84 _ _ _ _ _ hL17 hL47 _ (frC_FX6_goThroughc1 _  _ (EQ_s rfl e))))
theorem frC_FX6_look_47 {h0 : ph_H} (L17 : Int32 → Int32 → Int32 → ph_H → Int32 × ph_H) (hL17 : ∀ (y0 : Int32) (y1 : Int32) (y2 : Int32) (h : ph_H), EQ pC h0 h → EQ pC h0 (L17 y0 y1 y2 h).2) : ∀ (q : Nat) (y0 : Int32) (y1 : Int32) (y2 : Int32) (h : ph_H), EQ pC h0 h → EQ pC h0 (FX6_look_47 L17 q y0 y1 y2 h).2 := by
  intro q
  induction q with
  | zero =>
    intro y0 y1 y2 h e
    exact e
  | succ q ih =>
    intro y0 y1 y2 h e
    exact (EQ2_if (frC_FX6_look_87 _ _ _ _ hL17 _ e) (EQ2_if (frC_FX6_look_66 _ _ _ _ _ _ hL17 ih _ (frC_FX6_putChangesc1   _ e)) (frC_FX6_look_87 _ _ _ _ hL17 _ e)))
theorem frC_FX6_look_40 {h0 : ph_H} (L17 : Int32 → Int32 → Int32 → ph_H → Int32 × ph_H) (x1 : Int32) (x2 : Int32) (x3 : Int32) (hL17 : ∀ (y0 : Int32) (y1 : Int32) (y2 : Int32) (h : ph_H), EQ pC h0 h → EQ pC h0 (L17 y0 y1 y2 h).2) (h : ph_H) (e : EQ pC h0 h) : EQ pC h0 (FX6_look_40 L17 x1 x2 x3 h).2 := (frC_FX6_look_47 _ hL17 _ _ _ _ _ (EQ_s rfl e))
theorem frC_FX6_look_106 {h0 : ph_H} (s0 : Int32) (h : ph_H) (e : EQ pC h0 h) : EQ pC h0 (FX6_look_106 s0 h).2 := (EQ2_if (EQ_s rfl e) (EQ_s rfl e))
theorem frC_FX6_look_93 {h0 : ph_H}  (h : ph_H) (e : EQ pC h0 h) : EQ pC h0 (FX6_look_93 h).2 := (EQ2_if (frC_FX6_look_106 _  _ e) (frC_FX6_look_106 _  _ e))
theorem frC_FX6_look_17 {h0 : ph_H}  : ∀ (q : Nat) (y0 : Int32) (y1 : Int32) (y2 : Int32) (h : ph_H), EQ pC h0 h → EQ pC h0 (FX6_look_17  q y0 y1 y2 h).2 := by
  intro q
  induction q with
  | zero =>
    intro y0 y1 y2 h e
    exact e
  | succ q ih =>
    intro y0 y1 y2 h e
    exact (EQ2_if (frC_FX6_look_93   _ e) (EQ2_if (frC_FX6_look_40 _ _ _ _ ih _ (frC_FX6_putAhead _ _  _ (EQ_s rfl e))) (frC_FX6_look_93   _ e)))
theorem frC_FX6_look_15 {h0 : ph_H} (x1 : Int32) (x2 : Int32) (h : ph_H) (e : EQ pC h0 h) : EQ pC h0 (FX6_look_15 x1 x2 h).2 := (frC_FX6_look_17   _ _ _ _ _ e)
theorem frC_FX6_look {h0 : ph_H} (a0 : Int32) (a1 : Int32) (h : ph_H) (e : EQ pC h0 h) : EQ pC h0 (FX6_look a0 a1 h).2 := (frC_FX6_look_15 _ _  _ (frC_FX6_goThrough _  _ (EQ_s rfl (EQ_s rfl e))))
theorem frC_FX11_find {h0 : ph_H} (a0 : Int32) (a1 : Int32) (h : ph_H) (e : EQ pC h0 h) : EQ pC h0 (FX11_find a0 a1 h).2 := (EQ2_if e (EQ2_if e (EQ2_if e (EQ2_if (frC_FX6_look _ _  _ e) e))))
def pN (k i : Nat) : Bool := match k with
  | 1 => i == 6 || i == 7
  | 2 => true
  | 3 => true
  | 4 => true
  | 5 => true
  | 6 => true
  | 7 => true
  | _ => false
theorem pN_57 (n i : Nat) : pN (57 + n) i = false := by
  unfold pN
  split <;> first | omega | rfl
theorem frN_FX10_noteChange {h0 : ph_H} (a0 : Int32) (h : ph_H) (e : EQ pN h0 h) : EQ pN h0 (FX10_noteChange a0 h) := (EQ_if e (EQ_s rfl (EQ_s rfl (EQ_s rfl e))))
theorem frN_FX10_noteEffects_s_68 {h0 : ph_H}  (h : ph_H) (e : EQ pN h0 h) : EQ pN h0 (FX10_noteEffects_s_68 h) := (EQ_s rfl (EQ_s rfl e))
theorem frN_FX10_noteEffects_s {h0 : ph_H}  (h : ph_H) (e : EQ pN h0 h) : EQ pN h0 (FX10_noteEffects_s h) := (EQ_if (frN_FX10_noteEffects_s_68   _ (EQ_s rfl (EQ_s rfl e))) (EQ_if (frN_FX10_noteEffects_s_68   _ (EQ_s rfl (EQ_s rfl e))) (frN_FX10_noteEffects_s_68   _ (EQ_s rfl (EQ_s rfl (EQ_s rfl (EQ_s rfl e)))))))
theorem frN_FX3_hold_s {h0 : ph_H} (a0 : Int32) (a1 : Int32) (a2 : Int32) (h : ph_H) (e : EQ pN h0 h) : EQ pN h0 (FX3_hold_s a0 a1 a2 h).2 := (EQ_s rfl (EQ_s rfl e))
theorem frN_FX3_getCell_s {h0 : ph_H} (a0 : Int32) (a1 : Int32) (h : ph_H) (e : EQ pN h0 h) : EQ pN h0 (FX3_getCell_s a0 a1 h).2 := (frN_FX3_hold_s _ _ _  _ (EQ_s rfl e))
theorem frN_FX3_goTo_s {h0 : ph_H} (a0 : Int32) (h : ph_H) (e : EQ pN h0 h) : EQ pN h0 (FX3_goTo_s a0 h).2 := (EQ_s rfl e)
theorem frN_FX3_goUnless_s_25 {h0 : ph_H} (s0 : Int32) (h : ph_H) (e : EQ pN h0 h) : EQ pN h0 (FX3_goUnless_s_25 s0 h).2 := e
theorem frN_FX3_goUnless_s {h0 : ph_H} (a0 : Int32) (a1 : Int32) (h : ph_H) (e : EQ pN h0 h) : EQ pN h0 (FX3_goUnless_s a0 a1 h).2 := (EQ2_if (EQ2_if (frN_FX3_goUnless_s_25 _  _ (frN_FX3_goTo_s _  _ e)) e) e)
theorem frN_FX3_free_s {h0 : ph_H} (a0 : Int32) (h : ph_H) (e : EQ pN h0 h) : EQ pN h0 (FX3_free_s a0 h).2 := (EQ_s rfl (EQ_s rfl (EQ_s rfl e)))
theorem frN_FX3_leaveLock_s {h0 : ph_H} (a0 : Int32) (a1 : Int32) (h : ph_H) (e : EQ pN h0 h) : EQ pN h0 (FX3_leaveLock_s a0 a1 h).2 := (EQ2_if (EQ2_if (frN_FX3_free_s _  _ e) e) e)
theorem frN_FX3_lieDown_s {h0 : ph_H} (a0 : Int32) (a1 : Int32) (h : ph_H) (e : EQ pN h0 h) : EQ pN h0 (FX3_lieDown_s a0 a1 h).2 := (EQ2_if (EQ2_if (frN_FX3_free_s _  _ (EQ_s rfl (EQ_s rfl (EQ_s rfl e)))) e) e)
theorem frN_FX3_makeThing_s {h0 : ph_H} (a0 : Int32) (a1 : Int32) (a2 : Int32) (h : ph_H) (e : EQ pN h0 h) : EQ pN h0 (FX3_makeThing_s a0 a1 a2 h).2 := (EQ_s rfl (EQ_s rfl (EQ_s rfl (EQ_s rfl (EQ_s rfl (EQ_s rfl e))))))
theorem frN_FX3_makeLock_s_22 {h0 : ph_H} (s0 : Int32) (s1 : Int32) (h : ph_H) (e : EQ pN h0 h) : EQ pN h0 (FX3_makeLock_s_22 s0 s1 h).2 := (frN_FX3_makeThing_s _ _ _  _ e)
theorem frN_FX3_makeLock_s {h0 : ph_H} (a0 : Int32) (a1 : Int32) (h : ph_H) (e : EQ pN h0 h) : EQ pN h0 (FX3_makeLock_s a0 a1 h).2 := (EQ2_if (EQ2_if (frN_FX3_makeLock_s_22 _ _  _ e) (frN_FX3_makeLock_s_22 _ _  _ e)) e)
theorem frN_FX3_makeRow_s_44 {h0 : ph_H}  : ∀ (q : Nat) (y0 : Int32) (y1 : Int32) (y2 : Int32) (h : ph_H), EQ pN h0 h → EQ pN h0 (FX3_makeRow_s_44  q y0 y1 y2 h).2 := by
  intro q
  induction q with
  | zero =>
    intro y0 y1 y2 h e
    exact e
  | succ q ih =>
    intro y0 y1 y2 h e
    exact (EQ2_if (frN_FX3_makeThing_s _ _ _  _ e) (ih _ _ _ _ (EQ_s rfl e)))
theorem frN_FX3_makeRow_s {h0 : ph_H} (a0 : Int32) (a1 : Int32) (h : ph_H) (e : EQ pN h0 h) : EQ pN h0 (FX3_makeRow_s a0 a1 h).2 := (EQ2_if (EQ2_if (EQ2_if e (EQ2_if (frN_FX3_makeRow_s_44   _ _ _ _ _ e) e)) e) e)
theorem frN_FX3_putCell_s {h0 : ph_H} (a0 : Int32) (a1 : Int32) (h : ph_H) (e : EQ pN h0 h) : EQ pN h0 (FX3_putCell_s a0 a1 h).2 := (frN_FX3_hold_s _ _ _  _ (EQ_s rfl e))
theorem frN_FX3_readRow_s {h0 : ph_H} (a0 : Int32) (a1 : Int32) (a2 : Int32) (h : ph_H) (e : EQ pN h0 h) : EQ pN h0 (FX3_readRow_s a0 a1 a2 h).2 := (EQ2_if (EQ2_if (EQ2_if e (frN_FX3_hold_s _ _ _  _ (EQ_s rfl e))) e) e)
theorem frN_FX3_reckon_s_58 {h0 : ph_H} (x2 : Int32) (s0 : Int32) (h : ph_H) (e : EQ pN h0 h) : EQ pN h0 (FX3_reckon_s_58 x2 s0 h).2 := (frN_FX3_hold_s _ _ _  _ e)
theorem frN_FX3_reckon_s {h0 : ph_H} (a0 : Int32) (a1 : Int32) (a2 : Int32) (h : ph_H) (e : EQ pN h0 h) : EQ pN h0 (FX3_reckon_s a0 a1 a2 h).2 := (EQ2_if e (EQ2_if (frN_FX3_reckon_s_58 _ _  _ e) (EQ2_if (frN_FX3_reckon_s_58 _ _  _ e) (frN_FX3_reckon_s_58 _ _  _ e))))
theorem frN_FX3_startThread_s {h0 : ph_H} (a0 : Int32) (h : ph_H) (e : EQ pN h0 h) : EQ pN h0 (FX3_startThread_s a0 h).2 := (EQ2_if (EQ_s rfl (EQ_s rfl (EQ_s rfl e))) e)
theorem frN_FX3_takeInput_s {h0 : ph_H} (a0 : Int32) (h : ph_H) (e : EQ pN h0 h) : EQ pN h0 (FX3_takeInput_s a0 h).2 := (EQ2_if e (EQ2_if (frN_FX3_hold_s _ _ _  _ (EQ_s rfl e)) e))
theorem frN_FX3_own_s {h0 : ph_H} (a0 : Int32) (a1 : Int32) (h : ph_H) (e : EQ pN h0 h) : EQ pN h0 (FX3_own_s a0 a1 h).2 := (EQ_s rfl (EQ_s rfl (EQ_s rfl e)))
theorem frN_FX3_takeLock_s {h0 : ph_H} (a0 : Int32) (a1 : Int32) (h : ph_H) (e : EQ pN h0 h) : EQ pN h0 (FX3_takeLock_s a0 a1 h).2 := (EQ2_if (EQ2_if e (frN_FX3_own_s _ _  _ e)) e)
theorem frN_FX3_wakeSleepers_s_64 {h0 : ph_H} (L28 : Int32 → Int32 → ph_H → Int32 × ph_H) (x3 : Int32) (x4 : Int32) (hL28 : ∀ (y0 : Int32) (y1 : Int32) (h : ph_H), EQ pN h0 h → EQ pN h0 (L28 y0 y1 h).2) (h : ph_H) (e : EQ pN h0 h) : EQ pN h0 (FX3_wakeSleepers_s_64 L28 x3 x4 h).2 := (hL28 _ _ _ e)
theorem frN_FX3_wakeSleepers_s_28 {h0 : ph_H}  : ∀ (q : Nat) (y0 : Int32) (y1 : Int32) (h : ph_H), EQ pN h0 h → EQ pN h0 (FX3_wakeSleepers_s_28  q y0 y1 h).2 := by
  intro q
  induction q with
  | zero =>
    intro y0 y1 h e
    exact e
  | succ q ih =>
    intro y0 y1 h e
    exact (EQ2_if (EQ_s rfl e) (EQ2_if (EQ2_if (frN_FX3_wakeSleepers_s_64 _ _ _ ih _ (EQ_s rfl e)) (frN_FX3_wakeSleepers_s_64 _ _ _ ih _ e)) (frN_FX3_wakeSleepers_s_64 _ _ _ ih _ e)))
theorem frN_FX3_wakeSleepers_s {h0 : ph_H} (a0 : Int32) (a1 : Int32) (h : ph_H) (e : EQ pN h0 h) : EQ pN h0 (FX3_wakeSleepers_s a0 a1 h).2 := (EQ2_if (EQ2_if (frN_FX3_wakeSleepers_s_28   _ _ _ _ e) e) e)
theorem frN_FX3_writeRow_s {h0 : ph_H} (a0 : Int32) (a1 : Int32) (a2 : Int32) (h : ph_H) (e : EQ pN h0 h) : EQ pN h0 (FX3_writeRow_s a0 a1 a2 h).2 := (EQ2_if (EQ2_if e (EQ2_if e (EQ_s rfl (EQ_s rfl e)))) e)
theorem frN_FX3_perform_s_288 {h0 : ph_H} (s0 : Int32) (s1 : Int32) (h : ph_H) (e : EQ pN h0 h) : EQ pN h0 (FX3_perform_s_288 s0 s1 h).2 := (frN_FX3_makeLock_s _ _  _ e)
theorem frN_FX3_perform_s {h0 : ph_H} (a0 : Int32) (h : ph_H) (e : EQ pN h0 h) : EQ pN h0 (FX3_perform_s a0 h).2 := (EQ2_if (frN_FX3_hold_s _ _ _  _ e) (EQ2_if (frN_FX3_getCell_s _ _  _ e) (EQ2_if (frN_FX3_putCell_s _ _  _ e) (EQ2_if (frN_FX3_reckon_s _ _ _  _ e) (EQ2_if (frN_FX3_reckon_s _ _ _  _ e) (EQ2_if (frN_FX3_reckon_s _ _ _  _ e) (EQ2_if (frN_FX3_goTo_s _  _ e) (EQ2_if (frN_FX3_goUnless_s _ _  _ e) (EQ2_if (frN_FX3_makeRow_s _ _  _ e) (EQ2_if (frN_FX3_readRow_s _ _ _  _ e) (EQ2_if (frN_FX3_writeRow_s _ _ _  _ e) (EQ2_if (EQ2_if (frN_FX3_perform_s_288 _ _  _ e) (frN_FX3_perform_s_288 _ _  _ e)) (EQ2_if (frN_FX3_takeLock_s _ _  _ e) (EQ2_if (frN_FX3_leaveLock_s _ _  _ e) (EQ2_if (frN_FX3_lieDown_s _ _  _ e) (EQ2_if (frN_FX3_wakeSleepers_s _ _  _ e) (EQ2_if (frN_FX3_takeInput_s _  _ e) (EQ2_if (frN_FX3_startThread_s _  _ e) (EQ2_if e (frN_FX3_goTo_s _  _ e))))))))))))))))))))
theorem frN_FX3_rise_s {h0 : ph_H} (a0 : Int32) (h : ph_H) (e : EQ pN h0 h) : EQ pN h0 (FX3_rise_s a0 h).2 := (frN_FX3_own_s _ _  _ (EQ_s rfl e))
theorem frN_FX3_go_s_67 {h0 : ph_H} (x1 : Int32) (s0 : Int32) (h : ph_H) (e : EQ pN h0 h) : EQ pN h0 (FX3_go_s_67 x1 s0 h).2 := (EQ2_if (EQ_s rfl e) e)
theorem frN_FX3_go_s_59 {h0 : ph_H} (x1 : Int32) (s0 : Int32) (h : ph_H) (e : EQ pN h0 h) : EQ pN h0 (FX3_go_s_59 x1 s0 h).2 := (frN_FX3_go_s_67 _ _  _ e)
theorem frN_FX3_go_s {h0 : ph_H} (a0 : Int32) (h : ph_H) (e : EQ pN h0 h) : EQ pN h0 (FX3_go_s a0 h).2 := (EQ2_if e (EQ2_if (frN_FX3_go_s_59 _ _  _ (frN_FX3_rise_s _  _ (EQ_s rfl (EQ_s rfl (EQ_s rfl (EQ_s rfl (EQ_s rfl e))))))) (frN_FX3_go_s_67 _ _  _ (frN_FX3_perform_s _  _ (EQ_s rfl (EQ_s rfl (EQ_s rfl (EQ_s rfl (EQ_s rfl e)))))))))
theorem frN_FX10_advance_s_51 {h0 : ph_H} (x2 : Int32) (x3 : Int32) (h : ph_H) (e : EQ pN h0 h) : EQ pN h0 (FX10_advance_s_51 x2 x3 h).2 := (frN_FX10_noteEffects_s   _ (EQ_s rfl (EQ_s rfl (EQ_s rfl (EQ_s rfl e)))))
theorem frN_FX10_advance_s_30 {h0 : ph_H} (x2 : Int32) (x3 : Int32) (s0 : Int32) (h : ph_H) (e : EQ pN h0 h) : EQ pN h0 (FX10_advance_s_30 x2 x3 s0 h).2 := (EQ2_if e (frN_FX10_advance_s_51 _ _  _ (frN_FX10_noteChange _  _ (EQ_s rfl e))))
theorem frN_FX10_advance_s {h0 : ph_H} (a1 : Int32) (h : ph_H) (e : EQ pN h0 h) : EQ pN h0 (FX10_advance_s a1 h).2 := (EQ2_if (EQ2_if (frN_FX10_advance_s_30 _ _ _  _ (frN_FX3_go_s _  _ e)) e) e)
theorem frN_FX10_goOn_s_45 {h0 : ph_H} (L4 : Int32 → Int32 → ph_H → ph_H) (x3 : Int32) (s0 : Int32) (hL4 : ∀ (y0 : Int32) (y1 : Int32) (h : ph_H), EQ pN h0 h → EQ pN h0 (L4 y0 y1 h)) (h : ph_H) (e : EQ pN h0 h) : EQ pN h0 (FX10_goOn_s_45 L4 x3 s0 h) := (hL4 _ _ _ e)
theorem frN_FX10_goOn_s_44 {h0 : ph_H} (L4 : Int32 → Int32 → ph_H → ph_H) (x3 : Int32) (hL4 : ∀ (y0 : Int32) (y1 : Int32) (h : ph_H), EQ pN h0 h → EQ pN h0 (L4 y0 y1 h)) (h : ph_H) (e : EQ pN h0 h) : EQ pN h0 (FX10_goOn_s_44 L4 x3 h) := (frN_FX10_goOn_s_45 _ _ _ hL4 _ e)
theorem frN_FX10_goOn_s_37 {h0 : ph_H} (L4 : Int32 → Int32 → ph_H → ph_H) (x3 : Int32) (s0 : Int32) (hL4 : ∀ (y0 : Int32) (y1 : Int32) (h : ph_H), EQ pN h0 h → EQ pN h0 (L4 y0 y1 h)) (h : ph_H) (e : EQ pN h0 h) : EQ pN h0 (FX10_goOn_s_37 L4 x3 s0 h) := (EQ_if (frN_FX10_goOn_s_44 _ _ hL4 _ e) (frN_FX10_goOn_s_45 _ _ _ hL4 _ e))
theorem frN_FX10_goOn_s_4 {h0 : ph_H}  : ∀ (q : Nat) (y0 : Int32) (y1 : Int32) (h : ph_H), EQ pN h0 h → EQ pN h0 (FX10_goOn_s_4  q y0 y1 h) := by
  intro q
  induction q with
  | zero =>
    intro y0 y1 h e
    exact e
  | succ q ih =>
    intro y0 y1 h e
    exact (EQ_if e (EQ_if e (EQ_if (frN_FX10_goOn_s_44 _ _ ih _ e) (frN_FX10_goOn_s_37 _ _ _ ih _ (frN_FX10_advance_s _  _ e)))))
theorem frN_FX10_goOn_s {h0 : ph_H}  (h : ph_H) (e : EQ pN h0 h) : EQ pN h0 (FX10_goOn_s h) := (frN_FX10_goOn_s_4   _ _ _ _ e)
theorem frN_FX10_takeTurns_st_53 {h0 : ph_H} (L2 : Int32 → ph_H → ph_H) (L30 : Int32 → Int32 → Int32 → Int32 → ph_H → ph_H) (x3 : Int32) (x4 : Int32) (x6 : Int32) (s0 : Int32) (hL2 : ∀ (y0 : Int32) (h : ph_H), EQ pN h0 h → EQ pN h0 (L2 y0 h)) (hL30 : ∀ (y0 : Int32) (y1 : Int32) (y2 : Int32) (y3 : Int32) (h : ph_H), EQ pN h0 h → EQ pN h0 (L30 y0 y1 y2 y3 h)) (h : ph_H) (e : EQ pN h0 h) : EQ pN h0 (FX10_takeTurns_st_53 L2 L30 x3 x4 x6 s0 h) := (hL30 _ _ _ _ _ e)
theorem frN_FX10_takeTurns_st_61 {h0 : ph_H} (L2 : Int32 → ph_H → ph_H) (x3 : Int32) (hL2 : ∀ (y0 : Int32) (h : ph_H), EQ pN h0 h → EQ pN h0 (L2 y0 h)) (h : ph_H) (e : EQ pN h0 h) : EQ pN h0 (FX10_takeTurns_st_61 L2 x3 h) := (hL2 _ _ e)
theorem frN_FX10_takeTurns_st_30 {h0 : ph_H} (L2 : Int32 → ph_H → ph_H) (hL2 : ∀ (y0 : Int32) (h : ph_H), EQ pN h0 h → EQ pN h0 (L2 y0 h)) : ∀ (q : Nat) (y0 : Int32) (y1 : Int32) (y2 : Int32) (y3 : Int32) (h : ph_H), EQ pN h0 h → EQ pN h0 (FX10_takeTurns_st_30 L2 q y0 y1 y2 y3 h) := by
  intro q
  induction q with
  | zero =>
    intro y0 y1 y2 y3 h e
    exact e
  | succ q ih =>
    intro y0 y1 y2 y3 h e
    exact (EQ_if (frN_FX10_takeTurns_st_61 _ _ hL2 _ e) (EQ_if (frN_FX10_takeTurns_st_61 _ _ hL2 _ e) (frN_FX10_takeTurns_st_53 _ _ _ _ _ _ hL2 ih _ (frN_FX10_advance_s _  _ e))))
theorem frN_FX10_takeTurns_st_2 {h0 : ph_H}  : ∀ (q : Nat) (y0 : Int32) (h : ph_H), EQ pN h0 h → EQ pN h0 (FX10_takeTurns_st_2  q y0 h) := by
  intro q
  induction q with
  | zero =>
    intro y0 h e
    exact e
  | succ q ih =>
    intro y0 h e
    exact (EQ_if e (EQ_if e (frN_FX10_takeTurns_st_30 _ ih _ _ _ _ _ _ e)))
theorem frN_FX10_takeTurns_st {h0 : ph_H}  (h : ph_H) (e : EQ pN h0 h) : EQ pN h0 (FX10_takeTurns_st h) := (frN_FX10_takeTurns_st_2   _ _ _ e)
theorem frN_FX10_record_s_29 {h0 : ph_H}  (h : ph_H) (e : EQ pN h0 h) : EQ pN h0 (FX10_record_s_29 h) := (EQ_s rfl (EQ_s rfl (EQ_s rfl e)))
theorem frN_FX10_record_s_24 {h0 : ph_H}  (h : ph_H) (e : EQ pN h0 h) : EQ pN h0 (FX10_record_s_24 h) := (frN_FX10_record_s_29   _ (frN_FX10_goOn_s   _ e))
theorem frN_FX10_record_s {h0 : ph_H}  (h : ph_H) (e : EQ pN h0 h) : EQ pN h0 (FX10_record_s h) := (frN_FX10_record_s_24   _ (frN_FX10_takeTurns_st   _ (EQ_s rfl (EQ_s rfl (EQ_s rfl e)))))
theorem frN_FJ7_fill_53178_k16_5 {h0 : ph_H}  : ∀ (q : Nat) (y0 : Int32) (y1 : Int32) (y2 : Int32) (h : ph_H), EQ pN h0 h → EQ pN h0 (FJ7_fill_53178_k16_5  q y0 y1 y2 h) := by
  intro q
  induction q with
  | zero =>
    intro y0 y1 y2 h e
    exact e
  | succ q ih =>
    intro y0 y1 y2 h e
    exact (EQ_if e (ih _ _ _ _ (EQ_s rfl e)))
theorem frN_FJ7_fill_53178_k16 {h0 : ph_H} (a1 : Int32) (h : ph_H) (e : EQ pN h0 h) : EQ pN h0 (FJ7_fill_53178_k16 a1 h) := (frN_FJ7_fill_53178_k16_5   _ _ _ _ _ e)
theorem frN_FJ7_fill_53178_k17_5 {h0 : ph_H}  : ∀ (q : Nat) (y0 : Int32) (y1 : Int32) (y2 : Int32) (h : ph_H), EQ pN h0 h → EQ pN h0 (FJ7_fill_53178_k17_5  q y0 y1 y2 h) := by
  intro q
  induction q with
  | zero =>
    intro y0 y1 y2 h e
    exact e
  | succ q ih =>
    intro y0 y1 y2 h e
    exact (EQ_if e (ih _ _ _ _ (EQ_s rfl e)))
theorem frN_FJ7_fill_53178_k17 {h0 : ph_H} (a1 : Int32) (h : ph_H) (e : EQ pN h0 h) : EQ pN h0 (FJ7_fill_53178_k17 a1 h) := (frN_FJ7_fill_53178_k17_5   _ _ _ _ _ e)
theorem frN_FJ7_fill_53178_k18_5 {h0 : ph_H}  : ∀ (q : Nat) (y0 : Int32) (y1 : Int32) (y2 : Int32) (h : ph_H), EQ pN h0 h → EQ pN h0 (FJ7_fill_53178_k18_5  q y0 y1 y2 h) := by
  intro q
  induction q with
  | zero =>
    intro y0 y1 y2 h e
    exact e
  | succ q ih =>
    intro y0 y1 y2 h e
    exact (EQ_if e (ih _ _ _ _ (EQ_s rfl e)))
theorem frN_FJ7_fill_53178_k18 {h0 : ph_H} (a1 : Int32) (h : ph_H) (e : EQ pN h0 h) : EQ pN h0 (FJ7_fill_53178_k18 a1 h) := (frN_FJ7_fill_53178_k18_5   _ _ _ _ _ e)
theorem frN_FJ7_fill_53178_k19_5 {h0 : ph_H}  : ∀ (q : Nat) (y0 : Int32) (y1 : Int32) (y2 : Int32) (h : ph_H), EQ pN h0 h → EQ pN h0 (FJ7_fill_53178_k19_5  q y0 y1 y2 h) := by
  intro q
  induction q with
  | zero =>
    intro y0 y1 y2 h e
    exact e
  | succ q ih =>
    intro y0 y1 y2 h e
    exact (EQ_if e (ih _ _ _ _ (EQ_s rfl e)))
theorem frN_FJ7_fill_53178_k19 {h0 : ph_H} (a1 : Int32) (h : ph_H) (e : EQ pN h0 h) : EQ pN h0 (FJ7_fill_53178_k19 a1 h) := (frN_FJ7_fill_53178_k19_5   _ _ _ _ _ e)
theorem frN_FX3_begin_st_52 {h0 : ph_H} (x2 : Int32) (h : ph_H) (e : EQ pN h0 h) : EQ pN h0 (FX3_begin_st_52 x2 h) := (EQ_s rfl (EQ_s rfl (EQ_s rfl (EQ_s rfl e))))
theorem frN_FX3_begin_st_44 {h0 : ph_H} (x2 : Int32) (h : ph_H) (e : EQ pN h0 h) : EQ pN h0 (FX3_begin_st_44 x2 h) := (frN_FX3_begin_st_52 _  _ (frN_FJ7_fill_53178_k19 _  _ e))
theorem frN_FX3_begin_st_21 {h0 : ph_H} (x2 : Int32) (h : ph_H) (e : EQ pN h0 h) : EQ pN h0 (FX3_begin_st_21 x2 h) := (frN_FX3_begin_st_44 _  _ (frN_FJ7_fill_53178_k18 _  _ (EQ_c (fun _ => rfl) e)))
theorem frN_FX3_begin_st_13 {h0 : ph_H} (x2 : Int32) (h : ph_H) (e : EQ pN h0 h) : EQ pN h0 (FX3_begin_st_13 x2 h) := (frN_FX3_begin_st_21 _  _ (frN_FJ7_fill_53178_k17 _  _ e))
theorem frN_FX3_begin_st {h0 : ph_H} (a1 : Int32) (h : ph_H) (e : EQ pN h0 h) : EQ pN h0 (FX3_begin_st a1 h) := (frN_FX3_begin_st_13 _  _ (frN_FJ7_fill_53178_k16 _  _ e))
theorem frN_FX4_forget {h0 : ph_H}  (h : ph_H) (e : EQ pN h0 h) : EQ pN h0 (FX4_forget h) := (EQ_s rfl e)
theorem frN_FX5_become_tn {h0 : ph_H}  (h : ph_H) (e : EQ pN h0 h) : EQ pN h0 (FX5_become_tn h) := (EQ_s rfl (EQ_s rfl (EQ_c (fun _ => rfl) (EQ_c (fun _ => rfl) (EQ_c (fun _ => rfl) (EQ_c (fun _ => rfl) (EQ_c (fun _ => rfl) (EQ_c (fun _ => rfl) e))))))))
theorem frN_FX11_run_47 {h0 : ph_H}  (h : ph_H) (e : EQ pN h0 h) : EQ pN h0 (FX11_run_47 h).2 := (EQ_s rfl (EQ_s rfl (EQ_s rfl e)))
theorem frN_FX11_run_40 {h0 : ph_H}  (h : ph_H) (e : EQ pN h0 h) : EQ pN h0 (FX11_run_40 h).2 := (frN_FX11_run_47   _ (frN_FX4_forget   _ e))
theorem frN_FX11_run_29 {h0 : ph_H}  (h : ph_H) (e : EQ pN h0 h) : EQ pN h0 (FX11_run_29 h).2 := (frN_FX11_run_40   _ (frN_FX10_record_s   _ e))
theorem frN_FX11_run_11 {h0 : ph_H}  (h : ph_H) (e : EQ pN h0 h) : EQ pN h0 (FX11_run_11 h).2 := (frN_FX11_run_29   _ (frN_FX3_begin_st _  _ e))
theorem frN_FX11_run {h0 : ph_H}  (h : ph_H) (e : EQ pN h0 h) : EQ pN h0 (FX11_run h).2 := (frN_FX11_run_11   _ (frN_FX5_become_tn   _ e))
def pCR (k i : Nat) : Bool := match k with
  | 0 => i == 8 || i == 10
  | 8 => true
  | 9 => true
  | 10 => true
  | 11 => true
  | 12 => true
  | 13 => true
  | 14 => true
  | 35 => true
  | 36 => true
  | 37 => true
  | 38 => true
  | 39 => true
  | 40 => true
  | 41 => true
  | 42 => true
  | 43 => true
  | 44 => true
  | 45 => true
  | 46 => true
  | _ => false
theorem pCR_57 (n i : Nat) : pCR (57 + n) i = false := by
  unfold pCR
  split <;> first | omega | rfl
theorem frCR_FX11_code {h0 : ph_H} (a0 : Int32) (a1 : Int32) (a2 : Int32) (a3 : Int32) (a4 : Int32) (h : ph_H) (e : EQ pCR h0 h) : EQ pCR h0 (FX11_code a0 a1 a2 a3 a4 h).2 := (EQ2_if e (EQ2_if e (EQ2_if (EQ2_if (EQ_s rfl (EQ_s rfl (EQ_s rfl (EQ_s rfl (EQ_s rfl e))))) e) e)))
theorem frCR_FX11_clear {h0 : ph_H} (a0 : Int32) (h : ph_H) (e : EQ pCR h0 h) : EQ pCR h0 (FX11_clear a0 h).2 := (EQ2_if e (EQ_s rfl e))
theorem frCR_FX11_cell {h0 : ph_H} (a0 : Int32) (a1 : Int32) (h : ph_H) (e : EQ pCR h0 h) : EQ pCR h0 (FX11_cell a0 a1 h).2 := (EQ2_if e (EQ_s rfl e))
theorem frCR_FX11_input {h0 : ph_H} (a0 : Int32) (h : ph_H) (e : EQ pCR h0 h) : EQ pCR h0 (FX11_input a0 h).2 := (EQ2_if (EQ_s rfl (EQ_s rfl e)) e)
theorem frCR_FX11_turn {h0 : ph_H} (a0 : Int32) (a1 : Int32) (h : ph_H) (e : EQ pCR h0 h) : EQ pCR h0 (FX11_turn a0 a1 h).2 := (EQ2_if e (EQ2_if e (EQ2_if (EQ2_if (EQ_s rfl (EQ_s rfl (EQ_s rfl e))) e) e)))
theorem frCR_FX11_freely {h0 : ph_H}  (h : ph_H) (e : EQ pCR h0 h) : EQ pCR h0 (FX11_freely h).2 := (EQ_s rfl e)
def pV (k i : Nat) : Bool := match k with
  | 0 => i == 7 || i == 9 || i == 36 || i == 37 || i == 38 || i == 39 || i == 40 || i == 41 || i == 42 || i == 60
  | 1 => true
  | 2 => true
  | 3 => true
  | 4 => true
  | 5 => true
  | 6 => true
  | 7 => true
  | 8 => true
  | 9 => true
  | 20 => true
  | 21 => true
  | 22 => true
  | 23 => true
  | 24 => true
  | 25 => true
  | 26 => true
  | 27 => true
  | 28 => true
  | 29 => true
  | 30 => true
  | 31 => true
  | 32 => true
  | 33 => true
  | 34 => true
  | 35 => true
  | 36 => true
  | 37 => true
  | 38 => true
  | _ => false
theorem frV_FX12_begin_36 {h0 : ph_H} (L2 : Int32 → ph_H → ph_H) (x1 : Int32) (s0 : Int32) (s1 : Int32) (hL2 : ∀ (y0 : Int32) (h : ph_H), EQ pV h0 h → EQ pV h0 (L2 y0 h)) (h : ph_H) (e : EQ pV h0 h) : EQ pV h0 (FX12_begin_36 L2 x1 s0 s1 h) := (hL2 _ _ (EQ_s rfl e))
theorem frV_FX12_begin_85 {h0 : ph_H} (L45 : Int32 → ph_H → ph_H) (x1 : Int32) (s0 : Int32) (s1 : Int32) (hL45 : ∀ (y0 : Int32) (h : ph_H), EQ pV h0 h → EQ pV h0 (L45 y0 h)) (h : ph_H) (e : EQ pV h0 h) : EQ pV h0 (FX12_begin_85 L45 x1 s0 s1 h) := (hL45 _ _ (EQ_s rfl (EQ_s rfl (EQ_s rfl e))))
theorem frV_FX12_begin_70 {h0 : ph_H} (L45 : Int32 → ph_H → ph_H) (x1 : Int32) (s0 : Int32) (s1 : Int32) (hL45 : ∀ (y0 : Int32) (h : ph_H), EQ pV h0 h → EQ pV h0 (L45 y0 h)) (h : ph_H) (e : EQ pV h0 h) : EQ pV h0 (FX12_begin_70 L45 x1 s0 s1 h) := (EQ_if (frV_FX12_begin_85 _ _ _ _ hL45 _ (EQ_s rfl e)) (frV_FX12_begin_85 _ _ _ _ hL45 _ (EQ_s rfl e)))
theorem frV_FX12_begin_45 {h0 : ph_H}  : ∀ (q : Nat) (y0 : Int32) (h : ph_H), EQ pV h0 h → EQ pV h0 (FX12_begin_45  q y0 h) := by
  intro q
  induction q with
  | zero =>
    intro y0 h e
    exact e
  | succ q ih =>
    intro y0 h e
    exact (EQ_if (EQ_s rfl (EQ_s rfl (EQ_s rfl (EQ_s rfl (EQ_s rfl (EQ_s rfl e)))))) (EQ_if (frV_FX12_begin_70 _ _ _ _ ih _ e) (frV_FX12_begin_70 _ _ _ _ ih _ e)))
theorem frV_FX12_begin_2 {h0 : ph_H}  : ∀ (q : Nat) (y0 : Int32) (h : ph_H), EQ pV h0 h → EQ pV h0 (FX12_begin_2  q y0 h) := by
  intro q
  induction q with
  | zero =>
    intro y0 h e
    exact e
  | succ q ih =>
    intro y0 h e
    exact (EQ_if (frV_FX12_begin_45   _ _ _ e) (EQ_if (frV_FX12_begin_36 _ _ _ _ ih _ (EQ_s rfl e)) (frV_FX12_begin_36 _ _ _ _ ih _ (EQ_s rfl e))))
theorem frV_FX12_begin {h0 : ph_H}  (h : ph_H) (e : EQ pV h0 h) : EQ pV h0 (FX12_begin h) := (frV_FX12_begin_2   _ _ _ e)
theorem frV_FX12_goTo_19 {h0 : ph_H} (s0 : Int32) (h : ph_H) (e : EQ pV h0 h) : EQ pV h0 (FX12_goTo_19 s0 h) := (EQ_s rfl e)
theorem frV_FX12_goTo {h0 : ph_H} (a0 : Int32) (a1 : Int32) (h : ph_H) (e : EQ pV h0 h) : EQ pV h0 (FX12_goTo a0 a1 h) := (EQ_if (frV_FX12_goTo_19 _  _ e) (EQ_if (EQ_s rfl e) (frV_FX12_goTo_19 _  _ e)))
theorem frV_FX12_set {h0 : ph_H} (a0 : Int32) (a1 : Int32) (a2 : Int32) (h : ph_H) (e : EQ pV h0 h) : EQ pV h0 (FX12_set a0 a1 a2 h) := (EQ_s rfl (EQ_s rfl e))
theorem frV_FX12_newThing_29 {h0 : ph_H}  : ∀ (q : Nat) (y0 : Int32) (y1 : Int32) (h : ph_H), EQ pV h0 h → EQ pV h0 (FX12_newThing_29  q y0 y1 h).2 := by
  intro q
  induction q with
  | zero =>
    intro y0 y1 h e
    exact e
  | succ q ih =>
    intro y0 y1 h e
    exact (EQ2_if (EQ_s rfl e) (ih _ _ _ (EQ_s rfl e)))
theorem frV_FX12_newThing {h0 : ph_H} (a0 : Int32) (a1 : Int32) (h : ph_H) (e : EQ pV h0 h) : EQ pV h0 (FX12_newThing a0 a1 h).2 := (frV_FX12_newThing_29   _ _ _ _ (EQ_s rfl (EQ_s rfl (EQ_s rfl e))))
theorem frV_FX12_work_88 {h0 : ph_H}  (h : ph_H) (e : EQ pV h0 h) : EQ pV h0 (FX12_work_88 h) := e
theorem frV_FX12_work_111 {h0 : ph_H}  (h : ph_H) (e : EQ pV h0 h) : EQ pV h0 (FX12_work_111 h) := e
theorem frV_FX12_work_134 {h0 : ph_H}  (h : ph_H) (e : EQ pV h0 h) : EQ pV h0 (FX12_work_134 h) := e
theorem frV_FX12_work_155 {h0 : ph_H}  (h : ph_H) (e : EQ pV h0 h) : EQ pV h0 (FX12_work_155 h) := e
theorem frV_FX12_work_152 {h0 : ph_H} (s0 : Int32) (s1 : Int32) (s2 : Int32) (h : ph_H) (e : EQ pV h0 h) : EQ pV h0 (FX12_work_152 s0 s1 s2 h) := (frV_FX12_work_155   _ (frV_FX12_set _ _ _  _ e))
theorem frV_FX12_work_212 {h0 : ph_H}  (h : ph_H) (e : EQ pV h0 h) : EQ pV h0 (FX12_work_212 h) := e
theorem frV_FX12_work_435 {h0 : ph_H} (L391 : Int32 → Int32 → ph_H → ph_H) (x3 : Int32) (x6 : Int32) (hL391 : ∀ (y0 : Int32) (y1 : Int32) (h : ph_H), EQ pV h0 h → EQ pV h0 (L391 y0 y1 h)) (h : ph_H) (e : EQ pV h0 h) : EQ pV h0 (FX12_work_435 L391 x3 x6 h) := (hL391 _ _ _ e)
theorem frV_FX12_work_391 {h0 : ph_H}  : ∀ (q : Nat) (y0 : Int32) (y1 : Int32) (h : ph_H), EQ pV h0 h → EQ pV h0 (FX12_work_391  q y0 y1 h) := by
  intro q
  induction q with
  | zero =>
    intro y0 y1 h e
    exact e
  | succ q ih =>
    intro y0 y1 h e
    exact (EQ_if e (EQ_if (frV_FX12_work_435 _ _ _ ih _ (EQ_s rfl (EQ_s rfl e))) (frV_FX12_work_435 _ _ _ ih _ e)))
theorem frV_FX12_work {h0 : ph_H} (a0 : Int32) (a1 : Int32) (a2 : Int32) (a3 : Int32) (a4 : Int32) (h : ph_H) (e : EQ pV h0 h) : EQ pV h0 (FX12_work a0 a1 a2 a3 a4 h) := (EQ_if (frV_FX12_work_88   _ (frV_FX12_set _ _ _  _ e)) (EQ_if (frV_FX12_work_111   _ (frV_FX12_set _ _ _  _ e)) (EQ_if (frV_FX12_work_134   _ (frV_FX12_set _ _ _  _ e)) (EQ_if e (EQ_if e (EQ_if (frV_FX12_work_152 _ _ _  _ (frV_FX12_newThing _ _  _ e)) (EQ_if (frV_FX12_work_212   _ (frV_FX12_set _ _ _  _ (EQ_s rfl e))) (EQ_if (EQ_s rfl (EQ_s rfl e)) (EQ_if e (EQ_if (EQ_s rfl (EQ_s rfl (EQ_s rfl e))) (EQ_if (EQ_s rfl (EQ_s rfl (EQ_s rfl e))) (EQ_if (EQ_s rfl (EQ_s rfl (EQ_s rfl (EQ_s rfl e)))) (EQ_if (frV_FX12_work_391   _ _ _ _ (EQ_s rfl (EQ_s rfl e))) e)))))))))))))
theorem frV_FX12_workPlain_116 {h0 : ph_H}  (h : ph_H) (e : EQ pV h0 h) : EQ pV h0 (FX12_workPlain_116 h) := e
theorem frV_FX12_workPlain_153 {h0 : ph_H}  (h : ph_H) (e : EQ pV h0 h) : EQ pV h0 (FX12_workPlain_153 h) := e
theorem frV_FX12_workPlain_191 {h0 : ph_H}  (h : ph_H) (e : EQ pV h0 h) : EQ pV h0 (FX12_workPlain_191 h) := e
theorem frV_FX12_workPlain_222 {h0 : ph_H}  (h : ph_H) (e : EQ pV h0 h) : EQ pV h0 (FX12_workPlain_222 h) := e
theorem frV_FX12_workPlain_219 {h0 : ph_H} (s0 : Int32) (s1 : Int32) (s2 : Int32) (h : ph_H) (e : EQ pV h0 h) : EQ pV h0 (FX12_workPlain_219 s0 s1 s2 h) := (frV_FX12_workPlain_222   _ (frV_FX12_set _ _ _  _ e))
theorem frV_FX12_workPlain_206 {h0 : ph_H} (x3 : Int32) (s0 : Int32) (h : ph_H) (e : EQ pV h0 h) : EQ pV h0 (FX12_workPlain_206 x3 s0 h) := (frV_FX12_workPlain_219 _ _ _  _ (frV_FX12_newThing _ _  _ e))
theorem frV_FX12_workPlain_259 {h0 : ph_H}  (h : ph_H) (e : EQ pV h0 h) : EQ pV h0 (FX12_workPlain_259 h) := (EQ_s rfl e)
theorem frV_FX12_workPlain_256 {h0 : ph_H} (s0 : Int32) (s1 : Int32) (s2 : Int32) (h : ph_H) (e : EQ pV h0 h) : EQ pV h0 (FX12_workPlain_256 s0 s1 s2 h) := (frV_FX12_workPlain_259   _ (frV_FX12_set _ _ _  _ e))
theorem frV_FX12_workPlain {h0 : ph_H} (a0 : Int32) (a1 : Int32) (a2 : Int32) (a3 : Int32) (h : ph_H) (e : EQ pV h0 h) : EQ pV h0 (FX12_workPlain a0 a1 a2 a3 h) := (EQ_if (frV_FX12_workPlain_116   _ (frV_FX12_set _ _ _  _ e)) (EQ_if (frV_FX12_workPlain_153   _ (frV_FX12_set _ _ _  _ (EQ_s rfl e))) (EQ_if (frV_FX12_workPlain_191   _ (frV_FX12_set _ _ _  _ (EQ_s rfl e))) (EQ_if e (EQ_if e (EQ_if e (EQ_if e (EQ_if e (EQ_if e (EQ_if e (EQ_if e (EQ_if (EQ_if (frV_FX12_workPlain_206 _ _  _ e) (frV_FX12_workPlain_206 _ _  _ e)) (EQ_if e (EQ_if e (EQ_if e (EQ_if e (EQ_if (EQ_if (frV_FX12_workPlain_256 _ _ _  _ e) (frV_FX12_workPlain_256 _ _ _  _ e)) (EQ_if (EQ_s rfl (EQ_s rfl (EQ_s rfl e))) e))))))))))))))))))
theorem frV_FX12_instruct_251 {h0 : ph_H} (s0 : Int32) (s1 : Int32) (h : ph_H) (e : EQ pV h0 h) : EQ pV h0 (FX12_instruct_251 s0 s1 h) := (frV_FX12_goTo _ _  _ e)
theorem frV_FX12_instruct_204 {h0 : ph_H} (x1 : Int32) (x2 : Int32) (x6 : Int32) (x7 : Int32) (h : ph_H) (e : EQ pV h0 h) : EQ pV h0 (FX12_instruct_204 x1 x2 x6 x7 h) := (EQ_if e (EQ_if (frV_FX12_instruct_251 _ _  _ e) (EQ_if (frV_FX12_instruct_251 _ _  _ e) (frV_FX12_instruct_251 _ _  _ e))))
theorem frV_FX12_instruct_195 {h0 : ph_H} (x1 : Int32) (x2 : Int32) (x3 : Int32) (x4 : Int32) (x6 : Int32) (x7 : Int32) (h : ph_H) (e : EQ pV h0 h) : EQ pV h0 (FX12_instruct_195 x1 x2 x3 x4 x6 x7 h) := (frV_FX12_instruct_204 _ _ _ _  _ (frV_FX12_workPlain _ _ _ _  _ e))
theorem frV_FX12_instruct_177 {h0 : ph_H} (x1 : Int32) (x2 : Int32) (x3 : Int32) (x4 : Int32) (x5 : Int32) (x6 : Int32) (s0 : Int32) (h : ph_H) (e : EQ pV h0 h) : EQ pV h0 (FX12_instruct_177 x1 x2 x3 x4 x5 x6 s0 h) := (frV_FX12_instruct_195 _ _ _ _ _ _  _ (frV_FX12_work _ _ _ _ _  _ e))
theorem frV_FX12_instruct_149 {h0 : ph_H} (x1 : Int32) (x2 : Int32) (x3 : Int32) (x4 : Int32) (x5 : Int32) (s0 : Int32) (h : ph_H) (e : EQ pV h0 h) : EQ pV h0 (FX12_instruct_149 x1 x2 x3 x4 x5 s0 h) := (EQ_if (frV_FX12_instruct_177 _ _ _ _ _ _ _  _ e) (frV_FX12_instruct_177 _ _ _ _ _ _ _  _ e))
theorem frV_FX12_instruct_144 {h0 : ph_H} (x1 : Int32) (x2 : Int32) (x3 : Int32) (x4 : Int32) (x5 : Int32) (h : ph_H) (e : EQ pV h0 h) : EQ pV h0 (FX12_instruct_144 x1 x2 x3 x4 x5 h) := (frV_FX12_instruct_149 _ _ _ _ _ _  _ e)
theorem frV_FX12_instruct_148 {h0 : ph_H} (x1 : Int32) (x2 : Int32) (x3 : Int32) (x4 : Int32) (x5 : Int32) (h : ph_H) (e : EQ pV h0 h) : EQ pV h0 (FX12_instruct_148 x1 x2 x3 x4 x5 h) := (frV_FX12_instruct_149 _ _ _ _ _ _  _ e)
theorem frV_FX12_instruct_102 {h0 : ph_H} (x1 : Int32) (x2 : Int32) (x3 : Int32) (x4 : Int32) (x5 : Int32) (s0 : Int32) (h : ph_H) (e : EQ pV h0 h) : EQ pV h0 (FX12_instruct_102 x1 x2 x3 x4 x5 s0 h) := (EQ_if (EQ_if (frV_FX12_instruct_144 _ _ _ _ _  _ (EQ_s rfl e)) (EQ_if (EQ_if (frV_FX12_instruct_144 _ _ _ _ _  _ (EQ_s rfl e)) (frV_FX12_instruct_148 _ _ _ _ _  _ (EQ_s rfl e))) (frV_FX12_instruct_148 _ _ _ _ _  _ (EQ_s rfl e)))) (EQ_s rfl e))
theorem frV_FX12_instruct_98 {h0 : ph_H} (x1 : Int32) (x2 : Int32) (x3 : Int32) (x4 : Int32) (x5 : Int32) (h : ph_H) (e : EQ pV h0 h) : EQ pV h0 (FX12_instruct_98 x1 x2 x3 x4 x5 h) := (frV_FX12_instruct_102 _ _ _ _ _ _  _ e)
theorem frV_FX12_instruct {h0 : ph_H} (a0 : Int32) (a1 : Int32) (h : ph_H) (e : EQ pV h0 h) : EQ pV h0 (FX12_instruct a0 a1 h) := (EQ_if (EQ_if (frV_FX12_instruct_98 _ _ _ _ _  _ (EQ_s rfl e)) (frV_FX12_instruct_102 _ _ _ _ _ _  _ (EQ_s rfl e))) (frV_FX12_instruct_98 _ _ _ _ _  _ (EQ_s rfl e)))
theorem frV_FX12_step_154 {h0 : ph_H} (x1 : Int32) (h : ph_H) (e : EQ pV h0 h) : EQ pV h0 (FX12_step_154 x1 h) := (EQ_s rfl (EQ_s rfl e))
theorem frV_FX12_step_110 {h0 : ph_H} (x1 : Int32) (h : ph_H) (e : EQ pV h0 h) : EQ pV h0 (FX12_step_110 x1 h) := (frV_FX12_step_154 _  _ e)
theorem frV_FX12_step_148 {h0 : ph_H} (x1 : Int32) (x2 : Int32) (h : ph_H) (e : EQ pV h0 h) : EQ pV h0 (FX12_step_148 x1 x2 h) := (frV_FX12_step_154 _  _ (frV_FX12_instruct _ _  _ e))
theorem frV_FX12_step {h0 : ph_H} (a0 : Int32) (h : ph_H) (e : EQ pV h0 h) : EQ pV h0 (FX12_step a0 h) := (EQ_if (EQ_if (EQ_if (frV_FX12_step_148 _ _  _ (EQ_s rfl (EQ_s rfl (EQ_s rfl (EQ_s rfl (EQ_s rfl (EQ_s rfl e))))))) (EQ_if (EQ_s rfl (EQ_s rfl (EQ_s rfl (EQ_s rfl (EQ_s rfl (EQ_s rfl (EQ_s rfl e))))))) (frV_FX12_step_148 _ _  _ (EQ_s rfl (EQ_s rfl (EQ_s rfl (EQ_s rfl (EQ_s rfl (EQ_s rfl e))))))))) (frV_FX12_step_148 _ _  _ (EQ_s rfl (EQ_s rfl (EQ_s rfl (EQ_s rfl (EQ_s rfl (EQ_s rfl e)))))))) (frV_FX12_step_110 _  _ (frV_FX12_goTo _ _  _ (EQ_s rfl (EQ_s rfl (EQ_s rfl (EQ_s rfl (EQ_s rfl (EQ_s rfl (EQ_s rfl (EQ_s rfl (EQ_s rfl (EQ_s rfl e)))))))))))))
theorem frV_FX12_told {h0 : ph_H} (a0 : Int32) (h : ph_H) (e : EQ pV h0 h) : EQ pV h0 (FX12_told a0 h).2 := (EQ2_if (EQ_s rfl e) (EQ2_if (EQ_s rfl e) (EQ2_if (EQ_s rfl e) (EQ2_if (EQ_s rfl e) (EQ2_if (EQ_s rfl e) (EQ2_if (EQ_s rfl e) (EQ2_if (EQ_s rfl e) (EQ2_if (EQ_s rfl e) (EQ2_if (EQ_s rfl e) (EQ_s rfl e))))))))))
theorem frV_FX12_change_36 {h0 : ph_H}  (h : ph_H) (e : EQ pV h0 h) : EQ pV h0 (FX12_change_36 h).2 := e
theorem frV_FX12_change {h0 : ph_H} (a0 : Int32) (a1 : Int32) (h : ph_H) (e : EQ pV h0 h) : EQ pV h0 (FX12_change a0 a1 h).2 := (EQ2_if (EQ_s rfl e) (EQ2_if (frV_FX12_change_36   _ (EQ_s rfl e)) (EQ2_if (frV_FX12_change_36   _ (EQ_s rfl e)) (EQ2_if (frV_FX12_change_36   _ (EQ_s rfl e)) (EQ2_if (EQ_s rfl e) (EQ_s rfl e))))))
theorem frV_FX12_step_ {h0 : ph_H} (a0 : Int32) (a1 : Int32) (h : ph_H) (e : EQ pV h0 h) : EQ pV h0 (FX12_step_ a0 a1 h).2 := (EQ2_if (EQ_s rfl e) (EQ2_if (EQ_s rfl e) (EQ2_if (EQ_s rfl e) (EQ2_if (EQ_s rfl e) (EQ2_if (EQ_s rfl e) (EQ2_if (EQ_s rfl e) (EQ2_if (EQ_s rfl e) (EQ2_if (EQ_s rfl e) (EQ_s rfl e)))))))))
theorem frV_FX12_play_242 {h0 : ph_H} (L83 : Int32 → Int32 → ph_H → Int32 × ph_H) (x1 : Int32) (x3 : Int32) (hL83 : ∀ (y0 : Int32) (y1 : Int32) (h : ph_H), EQ pV h0 h → EQ pV h0 (L83 y0 y1 h).2) (h : ph_H) (e : EQ pV h0 h) : EQ pV h0 (FX12_play_242 L83 x1 x3 h).2 := (hL83 _ _ _ e)
theorem frV_FX12_play_203 {h0 : ph_H} (L83 : Int32 → Int32 → ph_H → Int32 × ph_H) (x1 : Int32) (x3 : Int32) (s0 : Int32) (hL83 : ∀ (y0 : Int32) (y1 : Int32) (h : ph_H), EQ pV h0 h → EQ pV h0 (L83 y0 y1 h).2) (h : ph_H) (e : EQ pV h0 h) : EQ pV h0 (FX12_play_203 L83 x1 x3 s0 h).2 := (frV_FX12_play_242 _ _ _ hL83 _ (EQ_s rfl e))
theorem frV_FX12_play_239 {h0 : ph_H} (L83 : Int32 → Int32 → ph_H → Int32 × ph_H) (x1 : Int32) (x3 : Int32) (s0 : Int32) (hL83 : ∀ (y0 : Int32) (y1 : Int32) (h : ph_H), EQ pV h0 h → EQ pV h0 (L83 y0 y1 h).2) (h : ph_H) (e : EQ pV h0 h) : EQ pV h0 (FX12_play_239 L83 x1 x3 s0 h).2 := (frV_FX12_play_242 _ _ _ hL83 _ (EQ_s rfl e))
theorem frV_FX12_play_215 {h0 : ph_H} (L83 : Int32 → Int32 → ph_H → Int32 × ph_H) (x1 : Int32) (x3 : Int32) (hL83 : ∀ (y0 : Int32) (y1 : Int32) (h : ph_H), EQ pV h0 h → EQ pV h0 (L83 y0 y1 h).2) (h : ph_H) (e : EQ pV h0 h) : EQ pV h0 (FX12_play_215 L83 x1 x3 h).2 := (EQ2_if (EQ2_if (frV_FX12_play_239 _ _ _ _ hL83 _ e) (frV_FX12_play_239 _ _ _ _ hL83 _ e)) (frV_FX12_play_239 _ _ _ _ hL83 _ e))
theorem frV_FX12_play_166 {h0 : ph_H} (L83 : Int32 → Int32 → ph_H → Int32 × ph_H) (x1 : Int32) (x3 : Int32) (x5 : Int32) (hL83 : ∀ (y0 : Int32) (y1 : Int32) (h : ph_H), EQ pV h0 h → EQ pV h0 (L83 y0 y1 h).2) (h : ph_H) (e : EQ pV h0 h) : EQ pV h0 (FX12_play_166 L83 x1 x3 x5 h).2 := (EQ2_if (EQ2_if (EQ2_if (frV_FX12_play_203 _ _ _ _ hL83 _ e) (frV_FX12_play_203 _ _ _ _ hL83 _ e)) (frV_FX12_play_215 _ _ _ hL83 _ (frV_FX12_step _  _ e))) (frV_FX12_play_242 _ _ _ hL83 _ (EQ_s rfl e)))
theorem frV_FX12_play_132 {h0 : ph_H} (L83 : Int32 → Int32 → ph_H → Int32 × ph_H) (x1 : Int32) (x3 : Int32) (x4 : Int32) (s0 : Int32) (hL83 : ∀ (y0 : Int32) (y1 : Int32) (h : ph_H), EQ pV h0 h → EQ pV h0 (L83 y0 y1 h).2) (h : ph_H) (e : EQ pV h0 h) : EQ pV h0 (FX12_play_132 L83 x1 x3 x4 s0 h).2 := (EQ2_if (frV_FX12_play_166 _ _ _ _ hL83 _ e) (EQ2_if (frV_FX12_play_166 _ _ _ _ hL83 _ e) (EQ2_if (frV_FX12_play_242 _ _ _ hL83 _ (EQ_s rfl e)) (frV_FX12_play_166 _ _ _ _ hL83 _ e))))
theorem frV_FX12_play_103 {h0 : ph_H} (L83 : Int32 → Int32 → ph_H → Int32 × ph_H) (x1 : Int32) (x3 : Int32) (s0 : Int32) (hL83 : ∀ (y0 : Int32) (y1 : Int32) (h : ph_H), EQ pV h0 h → EQ pV h0 (L83 y0 y1 h).2) (h : ph_H) (e : EQ pV h0 h) : EQ pV h0 (FX12_play_103 L83 x1 x3 s0 h).2 := (EQ2_if (frV_FX12_play_132 _ _ _ _ _ hL83 _ e) (frV_FX12_play_132 _ _ _ _ _ hL83 _ e))
theorem frV_FX12_play_83 {h0 : ph_H}  : ∀ (q : Nat) (y0 : Int32) (y1 : Int32) (h : ph_H), EQ pV h0 h → EQ pV h0 (FX12_play_83  q y0 y1 h).2 := by
  intro q
  induction q with
  | zero =>
    intro y0 y1 h e
    exact e
  | succ q ih =>
    intro y0 y1 h e
    exact (EQ2_if (EQ_s rfl e) (EQ2_if (frV_FX12_play_103 _ _ _ _ ih _ e) (frV_FX12_play_103 _ _ _ _ ih _ e)))
theorem frV_FX12_play_82 {h0 : ph_H} (x1 : Int32) (s0 : Int32) (h : ph_H) (e : EQ pV h0 h) : EQ pV h0 (FX12_play_82 x1 s0 h).2 := (frV_FX12_play_83   _ _ _ _ e)
theorem frV_FX12_play_59 {h0 : ph_H} (x1 : Int32) (h : ph_H) (e : EQ pV h0 h) : EQ pV h0 (FX12_play_59 x1 h).2 := (EQ2_if (frV_FX12_play_82 _ _  _ (EQ_s rfl e)) (frV_FX12_play_82 _ _  _ (EQ_s rfl e)))
theorem frV_FX12_play {h0 : ph_H} (a0 : Int32) (a1 : Int32) (h : ph_H) (e : EQ pV h0 h) : EQ pV h0 (FX12_play a0 a1 h).2 := (EQ2_if (EQ_s rfl e) (EQ2_if (EQ_s rfl e) (EQ2_if (EQ_s rfl e) (frV_FX12_play_59 _  _ (frV_FX12_begin   _ (EQ_s rfl (EQ_s rfl (EQ_s rfl e))))))))
theorem frV_FX12_ended {h0 : ph_H}  (h : ph_H) (e : EQ pV h0 h) : EQ pV h0 (FX12_ended h).2 := (EQ_s rfl e)
theorem frV_FX12_value_119 {h0 : ph_H} (x3 : Int32) (s0 : Int32) (s1 : Int32) (h : ph_H) (e : EQ pV h0 h) : EQ pV h0 (FX12_value_119 x3 s0 s1 h).2 := (EQ2_if e e)
theorem frV_FX12_value_83 {h0 : ph_H} (x1 : Int32) (x2 : Int32) (x3 : Int32) (s0 : Int32) (h : ph_H) (e : EQ pV h0 h) : EQ pV h0 (FX12_value_83 x1 x2 x3 s0 h).2 := (EQ2_if (EQ2_if (frV_FX12_value_119 _ _ _  _ (EQ_s rfl e)) (frV_FX12_value_119 _ _ _  _ (EQ_s rfl e))) (EQ_s rfl e))
theorem frV_FX12_value_59 {h0 : ph_H} (x1 : Int32) (x2 : Int32) (x3 : Int32) (s0 : Int32) (h : ph_H) (e : EQ pV h0 h) : EQ pV h0 (FX12_value_59 x1 x2 x3 s0 h).2 := (EQ2_if (frV_FX12_value_83 _ _ _ _  _ e) (EQ2_if (frV_FX12_value_83 _ _ _ _  _ e) (frV_FX12_value_83 _ _ _ _  _ e)))
theorem frV_FX12_value_54 {h0 : ph_H} (x1 : Int32) (x2 : Int32) (x3 : Int32) (h : ph_H) (e : EQ pV h0 h) : EQ pV h0 (FX12_value_54 x1 x2 x3 h).2 := (frV_FX12_value_59 _ _ _ _  _ e)
theorem frV_FX12_value_58 {h0 : ph_H} (x1 : Int32) (x2 : Int32) (x3 : Int32) (h : ph_H) (e : EQ pV h0 h) : EQ pV h0 (FX12_value_58 x1 x2 x3 h).2 := (frV_FX12_value_59 _ _ _ _  _ e)
theorem frV_FX12_value {h0 : ph_H} (a0 : Int32) (a1 : Int32) (a2 : Int32) (h : ph_H) (e : EQ pV h0 h) : EQ pV h0 (FX12_value a0 a1 a2 h).2 := (EQ2_if (frV_FX12_value_58 _ _ _  _ e) (EQ2_if (EQ2_if (frV_FX12_value_58 _ _ _  _ e) (frV_FX12_value_54 _ _ _  _ e)) (EQ2_if (frV_FX12_value_58 _ _ _  _ e) (EQ2_if (frV_FX12_value_58 _ _ _  _ e) (frV_FX12_value_54 _ _ _  _ e)))))
theorem frV_FX12_thing {h0 : ph_H} (a0 : Int32) (a1 : Int32) (h : ph_H) (e : EQ pV h0 h) : EQ pV h0 (FX12_thing a0 a1 h).2 := (EQ2_if (EQ_s rfl e) (EQ2_if (EQ_s rfl e) (EQ2_if (EQ_s rfl e) (EQ2_if (EQ_s rfl e) (EQ2_if (EQ_s rfl e) (EQ2_if (EQ_s rfl e) (EQ_s rfl e)))))))
theorem frV_FX12_place_79 {h0 : ph_H} (x1 : Int32) (x2 : Int32) (x3 : Int32) (s0 : Int32) (h : ph_H) (e : EQ pV h0 h) : EQ pV h0 (FX12_place_79 x1 x2 x3 s0 h).2 := (EQ2_if (EQ_s rfl e) (EQ_s rfl e))
theorem frV_FX12_place_57 {h0 : ph_H} (x1 : Int32) (x2 : Int32) (s0 : Int32) (h : ph_H) (e : EQ pV h0 h) : EQ pV h0 (FX12_place_57 x1 x2 s0 h).2 := (EQ2_if (frV_FX12_place_79 _ _ _ _  _ e) (EQ2_if (frV_FX12_place_79 _ _ _ _  _ e) (frV_FX12_place_79 _ _ _ _  _ e)))
theorem frV_FX12_place_56 {h0 : ph_H} (x1 : Int32) (x2 : Int32) (h : ph_H) (e : EQ pV h0 h) : EQ pV h0 (FX12_place_56 x1 x2 h).2 := (frV_FX12_place_57 _ _ _  _ e)
theorem frV_FX12_place {h0 : ph_H} (a0 : Int32) (a1 : Int32) (h : ph_H) (e : EQ pV h0 h) : EQ pV h0 (FX12_place a0 a1 h).2 := (EQ2_if (frV_FX12_place_56 _ _  _ e) (EQ2_if (EQ2_if (frV_FX12_place_56 _ _  _ e) (frV_FX12_place_57 _ _ _  _ e)) (frV_FX12_place_56 _ _  _ e)))
theorem frV_FX12_thread {h0 : ph_H} (a0 : Int32) (a1 : Int32) (h : ph_H) (e : EQ pV h0 h) : EQ pV h0 (FX12_thread a0 a1 h).2 := (EQ2_if (EQ_s rfl e) (EQ2_if (EQ_s rfl e) (EQ2_if (EQ_s rfl e) (EQ2_if (EQ_s rfl e) (EQ_s rfl e)))))
theorem frV_FX12_last_63 {h0 : ph_H} (L36 : Int32 → Int32 → Int32 → Int32 → ph_H → Int32 × ph_H) (x1 : Int32) (x2 : Int32) (x4 : Int32) (s0 : Int32) (hL36 : ∀ (y0 : Int32) (y1 : Int32) (y2 : Int32) (y3 : Int32) (h : ph_H), EQ pV h0 h → EQ pV h0 (L36 y0 y1 y2 y3 h).2) (h : ph_H) (e : EQ pV h0 h) : EQ pV h0 (FX12_last_63 L36 x1 x2 x4 s0 h).2 := (hL36 _ _ _ _ _ e)
theorem frV_FX12_last_62 {h0 : ph_H} (L36 : Int32 → Int32 → Int32 → Int32 → ph_H → Int32 × ph_H) (x1 : Int32) (x2 : Int32) (x3 : Int32) (x4 : Int32) (hL36 : ∀ (y0 : Int32) (y1 : Int32) (y2 : Int32) (y3 : Int32) (h : ph_H), EQ pV h0 h → EQ pV h0 (L36 y0 y1 y2 y3 h).2) (h : ph_H) (e : EQ pV h0 h) : EQ pV h0 (FX12_last_62 L36 x1 x2 x3 x4 h).2 := (frV_FX12_last_63 _ _ _ _ _ hL36 _ e)
theorem frV_FX12_last_36 {h0 : ph_H}  : ∀ (q : Nat) (y0 : Int32) (y1 : Int32) (y2 : Int32) (y3 : Int32) (h : ph_H), EQ pV h0 h → EQ pV h0 (FX12_last_36  q y0 y1 y2 y3 h).2 := by
  intro q
  induction q with
  | zero =>
    intro y0 y1 y2 y3 h e
    exact e
  | succ q ih =>
    intro y0 y1 y2 y3 h e
    exact (EQ2_if e (EQ2_if (EQ2_if (frV_FX12_last_62 _ _ _ _ _ ih _ e) (frV_FX12_last_63 _ _ _ _ _ ih _ e)) (frV_FX12_last_62 _ _ _ _ _ ih _ e)))
theorem frV_FX12_last {h0 : ph_H} (a0 : Int32) (a1 : Int32) (h : ph_H) (e : EQ pV h0 h) : EQ pV h0 (FX12_last a0 a1 h).2 := (EQ2_if (EQ_s rfl e) (EQ2_if (EQ_s rfl e) (frV_FX12_last_36   _ _ _ _ _ _ (EQ_s rfl e))))
theorem frV_FX12_next_59 {h0 : ph_H} (L35 : Int32 → Int32 → ph_H → Int32 × ph_H) (x1 : Int32) (x3 : Int32) (hL35 : ∀ (y0 : Int32) (y1 : Int32) (h : ph_H), EQ pV h0 h → EQ pV h0 (L35 y0 y1 h).2) (h : ph_H) (e : EQ pV h0 h) : EQ pV h0 (FX12_next_59 L35 x1 x3 h).2 := (hL35 _ _ _ e)
theorem frV_FX12_next_35 {h0 : ph_H}  : ∀ (q : Nat) (y0 : Int32) (y1 : Int32) (h : ph_H), EQ pV h0 h → EQ pV h0 (FX12_next_35  q y0 y1 h).2 := by
  intro q
  induction q with
  | zero =>
    intro y0 y1 h e
    exact e
  | succ q ih =>
    intro y0 y1 h e
    exact (EQ2_if e (EQ2_if (EQ2_if (frV_FX12_next_59 _ _ _ ih _ e) e) (frV_FX12_next_59 _ _ _ ih _ e)))
theorem frV_FX12_next {h0 : ph_H} (a0 : Int32) (a1 : Int32) (h : ph_H) (e : EQ pV h0 h) : EQ pV h0 (FX12_next a0 a1 h).2 := (EQ2_if (EQ_s rfl e) (EQ2_if (EQ_s rfl e) (frV_FX12_next_35   _ _ _ _ (EQ_s rfl e))))
theorem frV_FX12_when_166 {h0 : ph_H} (L54 : Int32 → Int32 → Int32 → Int32 → Int32 → Int32 → Int32 → Int32 → ph_H → Int32 × ph_H) (x1 : Int32) (x2 : Int32) (x3 : Int32) (x4 : Int32) (x5 : Int32) (x7 : Int32) (x8 : Int32) (x9 : Int32) (hL54 : ∀ (y0 : Int32) (y1 : Int32) (y2 : Int32) (y3 : Int32) (y4 : Int32) (y5 : Int32) (y6 : Int32) (y7 : Int32) (h : ph_H), EQ pV h0 h → EQ pV h0 (L54 y0 y1 y2 y3 y4 y5 y6 y7 h).2) (h : ph_H) (e : EQ pV h0 h) : EQ pV h0 (FX12_when_166 L54 x1 x2 x3 x4 x5 x7 x8 x9 h).2 := (hL54 _ _ _ _ _ _ _ _ _ e)
theorem frV_FX12_when_163 {h0 : ph_H} (L54 : Int32 → Int32 → Int32 → Int32 → Int32 → Int32 → Int32 → Int32 → ph_H → Int32 × ph_H) (x1 : Int32) (x2 : Int32) (x3 : Int32) (x4 : Int32) (x5 : Int32) (x7 : Int32) (x8 : Int32) (x9 : Int32) (hL54 : ∀ (y0 : Int32) (y1 : Int32) (y2 : Int32) (y3 : Int32) (y4 : Int32) (y5 : Int32) (y6 : Int32) (y7 : Int32) (h : ph_H), EQ pV h0 h → EQ pV h0 (L54 y0 y1 y2 y3 y4 y5 y6 y7 h).2) (h : ph_H) (e : EQ pV h0 h) : EQ pV h0 (FX12_when_163 L54 x1 x2 x3 x4 x5 x7 x8 x9 h).2 := (frV_FX12_when_166 _ _ _ _ _ _ _ _ _ hL54 _ e)
theorem frV_FX12_when_126 {h0 : ph_H} (L54 : Int32 → Int32 → Int32 → Int32 → Int32 → Int32 → Int32 → Int32 → ph_H → Int32 × ph_H) (x1 : Int32) (x2 : Int32) (x3 : Int32) (x4 : Int32) (x5 : Int32) (x6 : Int32) (x7 : Int32) (x8 : Int32) (x9 : Int32) (hL54 : ∀ (y0 : Int32) (y1 : Int32) (y2 : Int32) (y3 : Int32) (y4 : Int32) (y5 : Int32) (y6 : Int32) (y7 : Int32) (h : ph_H), EQ pV h0 h → EQ pV h0 (L54 y0 y1 y2 y3 y4 y5 y6 y7 h).2) (h : ph_H) (e : EQ pV h0 h) : EQ pV h0 (FX12_when_126 L54 x1 x2 x3 x4 x5 x6 x7 x8 x9 h).2 := (EQ2_if (EQ2_if (frV_FX12_when_166 _ _ _ _ _ _ _ _ _ hL54 _ e) (EQ2_if (EQ2_if (frV_FX12_when_163 _ _ _ _ _ _ _ _ _ hL54 _ e) (EQ2_if e e)) (frV_FX12_when_163 _ _ _ _ _ _ _ _ _ hL54 _ e))) (frV_FX12_when_166 _ _ _ _ _ _ _ _ _ hL54 _ e))
theorem frV_FX12_when_110 {h0 : ph_H} (L54 : Int32 → Int32 → Int32 → Int32 → Int32 → Int32 → Int32 → Int32 → ph_H → Int32 × ph_H) (x1 : Int32) (x2 : Int32) (x3 : Int32) (x4 : Int32) (x5 : Int32) (x6 : Int32) (x7 : Int32) (x8 : Int32) (s0 : Int32) (hL54 : ∀ (y0 : Int32) (y1 : Int32) (y2 : Int32) (y3 : Int32) (y4 : Int32) (y5 : Int32) (y6 : Int32) (y7 : Int32) (h : ph_H), EQ pV h0 h → EQ pV h0 (L54 y0 y1 y2 y3 y4 y5 y6 y7 h).2) (h : ph_H) (e : EQ pV h0 h) : EQ pV h0 (FX12_when_110 L54 x1 x2 x3 x4 x5 x6 x7 x8 s0 h).2 := (EQ2_if (frV_FX12_when_126 _ _ _ _ _ _ _ _ _ _ hL54 _ e) (EQ2_if (frV_FX12_when_126 _ _ _ _ _ _ _ _ _ _ hL54 _ e) (frV_FX12_when_126 _ _ _ _ _ _ _ _ _ _ hL54 _ e)))
theorem frV_FX12_when_109 {h0 : ph_H} (L54 : Int32 → Int32 → Int32 → Int32 → Int32 → Int32 → Int32 → Int32 → ph_H → Int32 × ph_H) (x1 : Int32) (x2 : Int32) (x3 : Int32) (x4 : Int32) (x5 : Int32) (x6 : Int32) (x7 : Int32) (x8 : Int32) (hL54 : ∀ (y0 : Int32) (y1 : Int32) (y2 : Int32) (y3 : Int32) (y4 : Int32) (y5 : Int32) (y6 : Int32) (y7 : Int32) (h : ph_H), EQ pV h0 h → EQ pV h0 (L54 y0 y1 y2 y3 y4 y5 y6 y7 h).2) (h : ph_H) (e : EQ pV h0 h) : EQ pV h0 (FX12_when_109 L54 x1 x2 x3 x4 x5 x6 x7 x8 h).2 := (frV_FX12_when_110 _ _ _ _ _ _ _ _ _ _ hL54 _ e)
theorem frV_FX12_when_54 {h0 : ph_H}  : ∀ (q : Nat) (y0 : Int32) (y1 : Int32) (y2 : Int32) (y3 : Int32) (y4 : Int32) (y5 : Int32) (y6 : Int32) (y7 : Int32) (h : ph_H), EQ pV h0 h → EQ pV h0 (FX12_when_54  q y0 y1 y2 y3 y4 y5 y6 y7 h).2 := by
  intro q
  induction q with
  | zero =>
    intro y0 y1 y2 y3 y4 y5 y6 y7 h e
    exact e
  | succ q ih =>
    intro y0 y1 y2 y3 y4 y5 y6 y7 h e
    exact (EQ2_if (EQ2_if e e) (EQ2_if (frV_FX12_when_109 _ _ _ _ _ _ _ _ _ ih _ e) (EQ2_if (EQ2_if (frV_FX12_when_110 _ _ _ _ _ _ _ _ _ _ ih _ e) (frV_FX12_when_109 _ _ _ _ _ _ _ _ _ ih _ e)) (frV_FX12_when_109 _ _ _ _ _ _ _ _ _ ih _ e))))
theorem frV_FX12_when {h0 : ph_H} (a0 : Int32) (a1 : Int32) (a2 : Int32) (a3 : Int32) (h : ph_H) (e : EQ pV h0 h) : EQ pV h0 (FX12_when a0 a1 a2 a3 h).2 := (EQ2_if (EQ_s rfl e) (EQ2_if (EQ_s rfl e) (EQ2_if (EQ_s rfl e) (frV_FX12_when_54   _ _ _ _ _ _ _ _ _ _ (EQ_s rfl e)))))
theorem frV_FX12_findAhead_147 {h0 : ph_H} (L15 : Int32 → ph_H → ph_H) (L53 : Int32 → Int32 → ph_H → ph_H) (L96 : Int32 → Int32 → Int32 → ph_H → ph_H) (x1 : Int32) (x2 : Int32) (x3 : Int32) (s0 : Int32) (s1 : Int32) (hL15 : ∀ (y0 : Int32) (h : ph_H), EQ pV h0 h → EQ pV h0 (L15 y0 h)) (hL53 : ∀ (y0 : Int32) (y1 : Int32) (h : ph_H), EQ pV h0 h → EQ pV h0 (L53 y0 y1 h)) (hL96 : ∀ (y0 : Int32) (y1 : Int32) (y2 : Int32) (h : ph_H), EQ pV h0 h → EQ pV h0 (L96 y0 y1 y2 h)) (h : ph_H) (e : EQ pV h0 h) : EQ pV h0 (FX12_findAhead_147 L15 L53 L96 x1 x2 x3 s0 s1 h) := (hL96 _ _ _ _ (EQ_s rfl e))
theorem frV_FX12_findAhead_142 {h0 : ph_H} (L15 : Int32 → ph_H → ph_H) (L53 : Int32 → Int32 → ph_H → ph_H) (L96 : Int32 → Int32 → Int32 → ph_H → ph_H) (x1 : Int32) (x2 : Int32) (x3 : Int32) (s0 : Int32) (hL15 : ∀ (y0 : Int32) (h : ph_H), EQ pV h0 h → EQ pV h0 (L15 y0 h)) (hL53 : ∀ (y0 : Int32) (y1 : Int32) (h : ph_H), EQ pV h0 h → EQ pV h0 (L53 y0 y1 h)) (hL96 : ∀ (y0 : Int32) (y1 : Int32) (y2 : Int32) (h : ph_H), EQ pV h0 h → EQ pV h0 (L96 y0 y1 y2 h)) (h : ph_H) (e : EQ pV h0 h) : EQ pV h0 (FX12_findAhead_142 L15 L53 L96 x1 x2 x3 s0 h) := (frV_FX12_findAhead_147 _ _ _ _ _ _ _ _ hL15 hL53 hL96 _ e)
theorem frV_FX12_findAhead_154 {h0 : ph_H} (L15 : Int32 → ph_H → ph_H) (L53 : Int32 → Int32 → ph_H → ph_H) (x1 : Int32) (x2 : Int32) (hL15 : ∀ (y0 : Int32) (h : ph_H), EQ pV h0 h → EQ pV h0 (L15 y0 h)) (hL53 : ∀ (y0 : Int32) (y1 : Int32) (h : ph_H), EQ pV h0 h → EQ pV h0 (L53 y0 y1 h)) (h : ph_H) (e : EQ pV h0 h) : EQ pV h0 (FX12_findAhead_154 L15 L53 x1 x2 h) := (hL53 _ _ _ e)
theorem frV_FX12_findAhead_96 {h0 : ph_H} (L15 : Int32 → ph_H → ph_H) (L53 : Int32 → Int32 → ph_H → ph_H) (hL15 : ∀ (y0 : Int32) (h : ph_H), EQ pV h0 h → EQ pV h0 (L15 y0 h)) (hL53 : ∀ (y0 : Int32) (y1 : Int32) (h : ph_H), EQ pV h0 h → EQ pV h0 (L53 y0 y1 h)) : ∀ (q : Nat) (y0 : Int32) (y1 : Int32) (y2 : Int32) (h : ph_H), EQ pV h0 h → EQ pV h0 (FX12_findAhead_96 L15 L53 q y0 y1 y2 h) := by
  intro q
  induction q with
  | zero =>
    intro y0 y1 y2 h e
    exact e
  | succ q ih =>
    intro y0 y1 y2 h e
    exact (EQ_if (frV_FX12_findAhead_154 _ _ _ _ hL15 hL53 _ e) (EQ_if (EQ_if (frV_FX12_findAhead_147 _ _ _ _ _ _ _ _ hL15 hL53 ih _ e) (frV_FX12_findAhead_142 _ _ _ _ _ _ _ hL15 hL53 ih _ e)) (frV_FX12_findAhead_142 _ _ _ _ _ _ _ hL15 hL53 ih _ e)))
theorem frV_FX12_findAhead_53 {h0 : ph_H} (L15 : Int32 → ph_H → ph_H) (hL15 : ∀ (y0 : Int32) (h : ph_H), EQ pV h0 h → EQ pV h0 (L15 y0 h)) : ∀ (q : Nat) (y0 : Int32) (y1 : Int32) (h : ph_H), EQ pV h0 h → EQ pV h0 (FX12_findAhead_53 L15 q y0 y1 h) := by
  intro q
  induction q with
  | zero =>
    intro y0 y1 h e
    exact e
  | succ q ih =>
    intro y0 y1 h e
    exact (EQ_if (hL15 _ _ e) (EQ_if (EQ_if (frV_FX12_findAhead_154 _ _ _ _ hL15 ih _ e) (frV_FX12_findAhead_96 _ _ hL15 ih _ _ _ _ _ (EQ_s rfl e))) (frV_FX12_findAhead_154 _ _ _ _ hL15 ih _ e)))
theorem frV_FX12_findAhead_25 {h0 : ph_H} (L15 : Int32 → ph_H → ph_H) (hL15 : ∀ (y0 : Int32) (h : ph_H), EQ pV h0 h → EQ pV h0 (L15 y0 h)) : ∀ (q : Nat) (y0 : Int32) (y1 : Int32) (h : ph_H), EQ pV h0 h → EQ pV h0 (FX12_findAhead_25 L15 q y0 y1 h) := by
  intro q
  induction q with
  | zero =>
    intro y0 y1 h e
    exact e
  | succ q ih =>
    intro y0 y1 h e
    exact (EQ_if (frV_FX12_findAhead_53 _ hL15 _ _ _ _ e) (ih _ _ _ (EQ_s rfl e)))
theorem frV_FX12_findAhead_15 {h0 : ph_H}  : ∀ (q : Nat) (y0 : Int32) (h : ph_H), EQ pV h0 h → EQ pV h0 (FX12_findAhead_15  q y0 h) := by
  intro q
  induction q with
  | zero =>
    intro y0 h e
    exact e
  | succ q ih =>
    intro y0 h e
    exact (EQ_if e (frV_FX12_findAhead_25 _ ih _ _ _ _ e))
theorem frV_FX12_findAhead {h0 : ph_H}  (h : ph_H) (e : EQ pV h0 h) : EQ pV h0 (FX12_findAhead h) := (EQ_if (frV_FX12_findAhead_15   _ _ _ (EQ_s rfl e)) e)
theorem frV_FX12_ahead_48 {h0 : ph_H} (x1 : Int32) (x2 : Int32) (h : ph_H) (e : EQ pV h0 h) : EQ pV h0 (FX12_ahead_48 x1 x2 h).2 := (EQ2_if e e)
theorem frV_FX12_ahead {h0 : ph_H} (a0 : Int32) (a1 : Int32) (h : ph_H) (e : EQ pV h0 h) : EQ pV h0 (FX12_ahead a0 a1 h).2 := (EQ2_if (EQ_s rfl e) (EQ2_if (EQ_s rfl e) (EQ2_if (EQ_s rfl e) (frV_FX12_ahead_48 _ _  _ (frV_FX12_findAhead   _ (EQ_s rfl e))))))
theorem frV_FX12_race_115 {h0 : ph_H} (L38 : Int32 → Int32 → Int32 → Int32 → ph_H → Int32 × ph_H) (L50 : Int32 → Int32 → Int32 → Int32 → Int32 → ph_H → Int32 × ph_H) (x1 : Int32) (x2 : Int32) (x4 : Int32) (x5 : Int32) (s0 : Int32) (s1 : Int32) (hL38 : ∀ (y0 : Int32) (y1 : Int32) (y2 : Int32) (y3 : Int32) (h : ph_H), EQ pV h0 h → EQ pV h0 (L38 y0 y1 y2 y3 h).2) (hL50 : ∀ (y0 : Int32) (y1 : Int32) (y2 : Int32) (y3 : Int32) (y4 : Int32) (h : ph_H), EQ pV h0 h → EQ pV h0 (L50 y0 y1 y2 y3 y4 h).2) (h : ph_H) (e : EQ pV h0 h) : EQ pV h0 (FX12_race_115 L38 L50 x1 x2 x4 x5 s0 s1 h).2 := (hL50 _ _ _ _ _ _ e)
theorem frV_FX12_race_104 {h0 : ph_H} (L38 : Int32 → Int32 → Int32 → Int32 → ph_H → Int32 × ph_H) (L50 : Int32 → Int32 → Int32 → Int32 → Int32 → ph_H → Int32 × ph_H) (x1 : Int32) (x2 : Int32) (x3 : Int32) (x4 : Int32) (x5 : Int32) (x6 : Int32) (hL38 : ∀ (y0 : Int32) (y1 : Int32) (y2 : Int32) (y3 : Int32) (h : ph_H), EQ pV h0 h → EQ pV h0 (L38 y0 y1 y2 y3 h).2) (hL50 : ∀ (y0 : Int32) (y1 : Int32) (y2 : Int32) (y3 : Int32) (y4 : Int32) (h : ph_H), EQ pV h0 h → EQ pV h0 (L50 y0 y1 y2 y3 y4 h).2) (h : ph_H) (e : EQ pV h0 h) : EQ pV h0 (FX12_race_104 L38 L50 x1 x2 x3 x4 x5 x6 h).2 := (EQ2_if (frV_FX12_race_115 _ _ _ _ _ _ _ _ hL38 hL50 _ e) (frV_FX12_race_115 _ _ _ _ _ _ _ _ hL38 hL50 _ e))
theorem frV_FX12_race_50 {h0 : ph_H} (L38 : Int32 → Int32 → Int32 → Int32 → ph_H → Int32 × ph_H) (hL38 : ∀ (y0 : Int32) (y1 : Int32) (y2 : Int32) (y3 : Int32) (h : ph_H), EQ pV h0 h → EQ pV h0 (L38 y0 y1 y2 y3 h).2) : ∀ (q : Nat) (y0 : Int32) (y1 : Int32) (y2 : Int32) (y3 : Int32) (y4 : Int32) (h : ph_H), EQ pV h0 h → EQ pV h0 (FX12_race_50 L38 q y0 y1 y2 y3 y4 h).2 := by
  intro q
  induction q with
  | zero =>
    intro y0 y1 y2 y3 y4 h e
    exact e
  | succ q ih =>
    intro y0 y1 y2 y3 y4 h e
    exact (EQ2_if (hL38 _ _ _ _ _ e) (EQ2_if (frV_FX12_race_104 _ _ _ _ _ _ _ _ hL38 ih _ e) (EQ2_if (EQ2_if (frV_FX12_race_104 _ _ _ _ _ _ _ _ hL38 ih _ e) (EQ2_if e (EQ2_if e e))) (frV_FX12_race_104 _ _ _ _ _ _ _ _ hL38 ih _ e))))
theorem frV_FX12_race_38 {h0 : ph_H}  : ∀ (q : Nat) (y0 : Int32) (y1 : Int32) (y2 : Int32) (y3 : Int32) (h : ph_H), EQ pV h0 h → EQ pV h0 (FX12_race_38  q y0 y1 y2 y3 h).2 := by
  intro q
  induction q with
  | zero =>
    intro y0 y1 y2 y3 h e
    exact e
  | succ q ih =>
    intro y0 y1 y2 y3 h e
    exact (EQ2_if (EQ2_if e e) (frV_FX12_race_50 _ ih _ _ _ _ _ _ _ e))
theorem frV_FX12_race_33 {h0 : ph_H} (x1 : Int32) (x2 : Int32) (h : ph_H) (e : EQ pV h0 h) : EQ pV h0 (FX12_race_33 x1 x2 h).2 := (frV_FX12_race_38   _ _ _ _ _ _ e)
theorem frV_FX12_race {h0 : ph_H} (a0 : Int32) (a1 : Int32) (h : ph_H) (e : EQ pV h0 h) : EQ pV h0 (FX12_race a0 a1 h).2 := (EQ2_if (EQ_s rfl e) (EQ2_if (EQ_s rfl e) (frV_FX12_race_33 _ _  _ (frV_FX12_findAhead   _ (EQ_s rfl e)))))
theorem frV_FX12_differ_117 {h0 : ph_H} (L50 : Int32 → Int32 → Int32 → Int32 → ph_H → Int32 × ph_H) (x1 : Int32) (x2 : Int32) (x4 : Int32) (s0 : Int32) (s1 : Int32) (hL50 : ∀ (y0 : Int32) (y1 : Int32) (y2 : Int32) (y3 : Int32) (h : ph_H), EQ pV h0 h → EQ pV h0 (L50 y0 y1 y2 y3 h).2) (h : ph_H) (e : EQ pV h0 h) : EQ pV h0 (FX12_differ_117 L50 x1 x2 x4 s0 s1 h).2 := (hL50 _ _ _ _ _ e)
theorem frV_FX12_differ_112 {h0 : ph_H} (L50 : Int32 → Int32 → Int32 → Int32 → ph_H → Int32 × ph_H) (x1 : Int32) (x2 : Int32) (x4 : Int32) (s0 : Int32) (hL50 : ∀ (y0 : Int32) (y1 : Int32) (y2 : Int32) (y3 : Int32) (h : ph_H), EQ pV h0 h → EQ pV h0 (L50 y0 y1 y2 y3 h).2) (h : ph_H) (e : EQ pV h0 h) : EQ pV h0 (FX12_differ_112 L50 x1 x2 x4 s0 h).2 := (frV_FX12_differ_117 _ _ _ _ _ _ hL50 _ e)
theorem frV_FX12_differ_165 {h0 : ph_H} (L128 : Int32 → Int32 → Int32 → Int32 → ph_H → Int32 × ph_H) (x1 : Int32) (x2 : Int32) (x4 : Int32) (s0 : Int32) (s1 : Int32) (hL128 : ∀ (y0 : Int32) (y1 : Int32) (y2 : Int32) (y3 : Int32) (h : ph_H), EQ pV h0 h → EQ pV h0 (L128 y0 y1 y2 y3 h).2) (h : ph_H) (e : EQ pV h0 h) : EQ pV h0 (FX12_differ_165 L128 x1 x2 x4 s0 s1 h).2 := (hL128 _ _ _ _ _ e)
theorem frV_FX12_differ_128 {h0 : ph_H}  : ∀ (q : Nat) (y0 : Int32) (y1 : Int32) (y2 : Int32) (y3 : Int32) (h : ph_H), EQ pV h0 h → EQ pV h0 (FX12_differ_128  q y0 y1 y2 y3 h).2 := by
  intro q
  induction q with
  | zero =>
    intro y0 y1 y2 y3 h e
    exact e
  | succ q ih =>
    intro y0 y1 y2 y3 h e
    exact (EQ2_if e (EQ2_if (frV_FX12_differ_165 _ _ _ _ _ _ ih _ e) (frV_FX12_differ_165 _ _ _ _ _ _ ih _ e)))
theorem frV_FX12_differ_50 {h0 : ph_H}  : ∀ (q : Nat) (y0 : Int32) (y1 : Int32) (y2 : Int32) (y3 : Int32) (h : ph_H), EQ pV h0 h → EQ pV h0 (FX12_differ_50  q y0 y1 y2 y3 h).2 := by
  intro q
  induction q with
  | zero =>
    intro y0 y1 y2 y3 h e
    exact e
  | succ q ih =>
    intro y0 y1 y2 y3 h e
    exact (EQ2_if (frV_FX12_differ_128   _ _ _ _ _ _ e) (EQ2_if (EQ2_if (frV_FX12_differ_117 _ _ _ _ _ _ ih _ e) (frV_FX12_differ_112 _ _ _ _ _ ih _ e)) (frV_FX12_differ_112 _ _ _ _ _ ih _ e)))
theorem frV_FX12_differ {h0 : ph_H} (a0 : Int32) (a1 : Int32) (h : ph_H) (e : EQ pV h0 h) : EQ pV h0 (FX12_differ a0 a1 h).2 := (EQ2_if (EQ_s rfl e) (EQ2_if (EQ_s rfl e) (EQ2_if (EQ_s rfl e) (frV_FX12_differ_50   _ _ _ _ _ _ (EQ_s rfl e)))))
theorem frV_FX12_tryRun_38 {h0 : ph_H} (L12 : Int32 → Int32 → ph_H → Int32 × ph_H) (x1 : Int32) (hL12 : ∀ (y0 : Int32) (y1 : Int32) (h : ph_H), EQ pV h0 h → EQ pV h0 (L12 y0 y1 h).2) (h : ph_H) (e : EQ pV h0 h) : EQ pV h0 (FX12_tryRun_38 L12 x1 h).2 := (EQ2_if (hL12 _ _ _ e) (EQ2_if (EQ2_if e (EQ2_if e (EQ2_if e (EQ2_if e (EQ2_if e (hL12 _ _ _ e)))))) (hL12 _ _ _ e)))
theorem frV_FX12_tryRun_127 {h0 : ph_H} (x1 : Int32) (h : ph_H) (e : EQ pV h0 h) : EQ pV h0 (FX12_tryRun_127 x1 h).2 := (EQ2_if e e)
theorem frV_FX12_tryRun_12 {h0 : ph_H}  : ∀ (q : Nat) (y0 : Int32) (y1 : Int32) (h : ph_H), EQ pV h0 h → EQ pV h0 (FX12_tryRun_12  q y0 y1 h).2 := by
  intro q
  induction q with
  | zero =>
    intro y0 y1 h e
    exact e
  | succ q ih =>
    intro y0 y1 h e
    exact (EQ2_if (frV_FX12_tryRun_127 _  _ e) (EQ2_if (EQ2_if (frV_FX12_tryRun_127 _  _ e) (frV_FX12_tryRun_38 _ _ ih _ (frV_FX12_step _  _ e))) (frV_FX12_tryRun_127 _  _ e)))
theorem frV_FX12_tryRun_4 {h0 : ph_H}  (h : ph_H) (e : EQ pV h0 h) : EQ pV h0 (FX12_tryRun_4 h).2 := (frV_FX12_tryRun_12   _ _ _ _ e)
theorem frV_FX12_tryRun {h0 : ph_H}  (h : ph_H) (e : EQ pV h0 h) : EQ pV h0 (FX12_tryRun h).2 := (frV_FX12_tryRun_4   _ (frV_FX12_begin   _ e))
theorem frV_FX12_isOver_103 {h0 : ph_H}  (h : ph_H) (e : EQ pV h0 h) : EQ pV h0 (FX12_isOver_103 h).2 := e
theorem frV_FX12_isOver_85 {h0 : ph_H}  (h : ph_H) (e : EQ pV h0 h) : EQ pV h0 (FX12_isOver_85 h).2 := (EQ2_if (frV_FX12_isOver_103   _ e) (EQ2_if (frV_FX12_isOver_103   _ e) e))
theorem frV_FX12_isOver_42 {h0 : ph_H}  : ∀ (q : Nat) (y0 : Int32) (h : ph_H), EQ pV h0 h → EQ pV h0 (FX12_isOver_42  q y0 h).2 := by
  intro q
  induction q with
  | zero =>
    intro y0 h e
    exact e
  | succ q ih =>
    intro y0 h e
    exact (EQ2_if (frV_FX12_isOver_85   _ (EQ_s rfl e)) (ih _ _ (EQ_s rfl (EQ_s rfl e))))
theorem frV_FX12_isOver {h0 : ph_H}  (h : ph_H) (e : EQ pV h0 h) : EQ pV h0 (FX12_isOver h).2 := (EQ2_if (frV_FX12_isOver_85   _ (EQ_s rfl e)) (EQ2_if (frV_FX12_isOver_42   _ _ _ (EQ_s rfl (EQ_s rfl (EQ_s rfl e)))) (frV_FX12_isOver_85   _ (EQ_s rfl e))))
theorem frV_FX12_tryLast_57 {h0 : ph_H} (L3 : Int32 → Int32 → Int32 → ph_H → Int32 × ph_H) (L12 : Int32 → Int32 → Int32 → Int32 → ph_H → Int32 × ph_H) (x1 : Int32) (x3 : Int32) (x4 : Int32) (x5 : Int32) (hL3 : ∀ (y0 : Int32) (y1 : Int32) (y2 : Int32) (h : ph_H), EQ pV h0 h → EQ pV h0 (L3 y0 y1 y2 h).2) (hL12 : ∀ (y0 : Int32) (y1 : Int32) (y2 : Int32) (y3 : Int32) (h : ph_H), EQ pV h0 h → EQ pV h0 (L12 y0 y1 y2 y3 h).2) (h : ph_H) (e : EQ pV h0 h) : EQ pV h0 (FX12_tryLast_57 L3 L12 x1 x3 x4 x5 h).2 := (hL12 _ _ _ _ _ e)
theorem frV_FX12_tryLast_52 {h0 : ph_H} (L3 : Int32 → Int32 → Int32 → ph_H → Int32 × ph_H) (L12 : Int32 → Int32 → Int32 → Int32 → ph_H → Int32 × ph_H) (x1 : Int32) (x3 : Int32) (x4 : Int32) (x5 : Int32) (s0 : Int32) (hL3 : ∀ (y0 : Int32) (y1 : Int32) (y2 : Int32) (h : ph_H), EQ pV h0 h → EQ pV h0 (L3 y0 y1 y2 h).2) (hL12 : ∀ (y0 : Int32) (y1 : Int32) (y2 : Int32) (y3 : Int32) (h : ph_H), EQ pV h0 h → EQ pV h0 (L12 y0 y1 y2 y3 h).2) (h : ph_H) (e : EQ pV h0 h) : EQ pV h0 (FX12_tryLast_52 L3 L12 x1 x3 x4 x5 s0 h).2 := (EQ2_if (frV_FX12_tryLast_57 _ _ _ _ _ _ hL3 hL12 _ e) e)
theorem frV_FX12_tryLast_45 {h0 : ph_H} (L3 : Int32 → Int32 → Int32 → ph_H → Int32 × ph_H) (L12 : Int32 → Int32 → Int32 → Int32 → ph_H → Int32 × ph_H) (x1 : Int32) (x3 : Int32) (x4 : Int32) (x5 : Int32) (s0 : Int32) (hL3 : ∀ (y0 : Int32) (y1 : Int32) (y2 : Int32) (h : ph_H), EQ pV h0 h → EQ pV h0 (L3 y0 y1 y2 h).2) (hL12 : ∀ (y0 : Int32) (y1 : Int32) (y2 : Int32) (y3 : Int32) (h : ph_H), EQ pV h0 h → EQ pV h0 (L12 y0 y1 y2 y3 h).2) (h : ph_H) (e : EQ pV h0 h) : EQ pV h0 (FX12_tryLast_45 L3 L12 x1 x3 x4 x5 s0 h).2 := (EQ2_if (frV_FX12_tryLast_57 _ _ _ _ _ _ hL3 hL12 _ e) (frV_FX12_tryLast_52 _ _ _ _ _ _ _ hL3 hL12 _ (frV_FX12_isOver   _ e)))
theorem frV_FX12_tryLast_12 {h0 : ph_H} (L3 : Int32 → Int32 → Int32 → ph_H → Int32 × ph_H) (hL3 : ∀ (y0 : Int32) (y1 : Int32) (y2 : Int32) (h : ph_H), EQ pV h0 h → EQ pV h0 (L3 y0 y1 y2 h).2) : ∀ (q : Nat) (y0 : Int32) (y1 : Int32) (y2 : Int32) (y3 : Int32) (h : ph_H), EQ pV h0 h → EQ pV h0 (FX12_tryLast_12 L3 q y0 y1 y2 y3 h).2 := by
  intro q
  induction q with
  | zero =>
    intro y0 y1 y2 y3 h e
    exact e
  | succ q ih =>
    intro y0 y1 y2 y3 h e
    exact (EQ2_if (hL3 _ _ _ _ e) (frV_FX12_tryLast_45 _ _ _ _ _ _ _ hL3 ih _ (frV_FX12_tryRun   _ (EQ_s rfl (EQ_s rfl (EQ_s rfl e))))))
theorem frV_FX12_tryLast_3 {h0 : ph_H}  : ∀ (q : Nat) (y0 : Int32) (y1 : Int32) (y2 : Int32) (h : ph_H), EQ pV h0 h → EQ pV h0 (FX12_tryLast_3  q y0 y1 y2 h).2 := by
  intro q
  induction q with
  | zero =>
    intro y0 y1 y2 h e
    exact e
  | succ q ih =>
    intro y0 y1 y2 h e
    exact (EQ2_if e (frV_FX12_tryLast_12 _ ih _ _ _ _ _ _ e))
theorem frV_FX12_tryLast {h0 : ph_H} (a0 : Int32) (a1 : Int32) (a2 : Int32) (h : ph_H) (e : EQ pV h0 h) : EQ pV h0 (FX12_tryLast a0 a1 a2 h).2 := (frV_FX12_tryLast_3   _ _ _ _ _ e)
theorem frV_FX12_tryBoth_61 {h0 : ph_H} (L2 : Int32 → Int32 → ph_H → Int32 × ph_H) (L9 : Int32 → Int32 → Int32 → ph_H → Int32 × ph_H) (x1 : Int32) (x2 : Int32) (x3 : Int32) (hL2 : ∀ (y0 : Int32) (y1 : Int32) (h : ph_H), EQ pV h0 h → EQ pV h0 (L2 y0 y1 h).2) (hL9 : ∀ (y0 : Int32) (y1 : Int32) (y2 : Int32) (h : ph_H), EQ pV h0 h → EQ pV h0 (L9 y0 y1 y2 h).2) (h : ph_H) (e : EQ pV h0 h) : EQ pV h0 (FX12_tryBoth_61 L2 L9 x1 x2 x3 h).2 := (hL9 _ _ _ _ e)
theorem frV_FX12_tryBoth_56 {h0 : ph_H} (L2 : Int32 → Int32 → ph_H → Int32 × ph_H) (L9 : Int32 → Int32 → Int32 → ph_H → Int32 × ph_H) (x1 : Int32) (x2 : Int32) (x3 : Int32) (s0 : Int32) (hL2 : ∀ (y0 : Int32) (y1 : Int32) (h : ph_H), EQ pV h0 h → EQ pV h0 (L2 y0 y1 h).2) (hL9 : ∀ (y0 : Int32) (y1 : Int32) (y2 : Int32) (h : ph_H), EQ pV h0 h → EQ pV h0 (L9 y0 y1 y2 h).2) (h : ph_H) (e : EQ pV h0 h) : EQ pV h0 (FX12_tryBoth_56 L2 L9 x1 x2 x3 s0 h).2 := (EQ2_if (frV_FX12_tryBoth_61 _ _ _ _ _ hL2 hL9 _ e) e)
theorem frV_FX12_tryBoth_37 {h0 : ph_H} (L2 : Int32 → Int32 → ph_H → Int32 × ph_H) (L9 : Int32 → Int32 → Int32 → ph_H → Int32 × ph_H) (x1 : Int32) (x2 : Int32) (x3 : Int32) (s0 : Int32) (hL2 : ∀ (y0 : Int32) (y1 : Int32) (h : ph_H), EQ pV h0 h → EQ pV h0 (L2 y0 y1 h).2) (hL9 : ∀ (y0 : Int32) (y1 : Int32) (y2 : Int32) (h : ph_H), EQ pV h0 h → EQ pV h0 (L9 y0 y1 y2 h).2) (h : ph_H) (e : EQ pV h0 h) : EQ pV h0 (FX12_tryBoth_37 L2 L9 x1 x2 x3 s0 h).2 := (EQ2_if (frV_FX12_tryBoth_61 _ _ _ _ _ hL2 hL9 _ e) (frV_FX12_tryBoth_56 _ _ _ _ _ _ hL2 hL9 _ (frV_FX12_tryLast _ _ _  _ e)))
theorem frV_FX12_tryBoth_9 {h0 : ph_H} (L2 : Int32 → Int32 → ph_H → Int32 × ph_H) (hL2 : ∀ (y0 : Int32) (y1 : Int32) (h : ph_H), EQ pV h0 h → EQ pV h0 (L2 y0 y1 h).2) : ∀ (q : Nat) (y0 : Int32) (y1 : Int32) (y2 : Int32) (h : ph_H), EQ pV h0 h → EQ pV h0 (FX12_tryBoth_9 L2 q y0 y1 y2 h).2 := by
  intro q
  induction q with
  | zero =>
    intro y0 y1 y2 h e
    exact e
  | succ q ih =>
    intro y0 y1 y2 h e
    exact (EQ2_if (hL2 _ _ _ e) (frV_FX12_tryBoth_37 _ _ _ _ _ _ hL2 ih _ (frV_FX12_tryRun   _ (EQ_s rfl (EQ_s rfl (EQ_s rfl e))))))
theorem frV_FX12_tryBoth_2 {h0 : ph_H}  : ∀ (q : Nat) (y0 : Int32) (y1 : Int32) (h : ph_H), EQ pV h0 h → EQ pV h0 (FX12_tryBoth_2  q y0 y1 h).2 := by
  intro q
  induction q with
  | zero =>
    intro y0 y1 h e
    exact e
  | succ q ih =>
    intro y0 y1 h e
    exact (EQ2_if e (frV_FX12_tryBoth_9 _ ih _ _ _ _ _ e))
theorem frV_FX12_tryBoth {h0 : ph_H} (a0 : Int32) (h : ph_H) (e : EQ pV h0 h) : EQ pV h0 (FX12_tryBoth a0 h).2 := (frV_FX12_tryBoth_2   _ _ _ _ e)
theorem frV_FX12_find_119 {h0 : ph_H}  (h : ph_H) (e : EQ pV h0 h) : EQ pV h0 (FX12_find_119 h).2 := e
theorem frV_FX12_find_116 {h0 : ph_H} (s0 : Int32) (h : ph_H) (e : EQ pV h0 h) : EQ pV h0 (FX12_find_116 s0 h).2 := (EQ2_if e (frV_FX12_find_119   _ e))
theorem frV_FX12_find_98 {h0 : ph_H} (x1 : Int32) (x4 : Int32) (s0 : Int32) (h : ph_H) (e : EQ pV h0 h) : EQ pV h0 (FX12_find_98 x1 x4 s0 h).2 := (EQ2_if (EQ2_if (frV_FX12_find_119   _ e) (frV_FX12_find_116 _  _ (frV_FX12_tryBoth _  _ e))) (frV_FX12_find_119   _ e))
theorem frV_FX12_find_93 {h0 : ph_H} (x1 : Int32) (x4 : Int32) (h : ph_H) (e : EQ pV h0 h) : EQ pV h0 (FX12_find_93 x1 x4 h).2 := (frV_FX12_find_98 _ _ _  _ e)
theorem frV_FX12_find_90 {h0 : ph_H} (x1 : Int32) (x4 : Int32) (s0 : Int32) (h : ph_H) (e : EQ pV h0 h) : EQ pV h0 (FX12_find_90 x1 x4 s0 h).2 := (EQ2_if (frV_FX12_find_98 _ _ _  _ e) (frV_FX12_find_93 _ _  _ e))
theorem frV_FX12_find_71 {h0 : ph_H} (x1 : Int32) (x4 : Int32) (s0 : Int32) (h : ph_H) (e : EQ pV h0 h) : EQ pV h0 (FX12_find_71 x1 x4 s0 h).2 := (EQ2_if (EQ2_if (frV_FX12_find_93 _ _  _ e) (frV_FX12_find_90 _ _ _  _ (frV_FX12_tryLast _ _ _  _ e))) (frV_FX12_find_93 _ _  _ e))
theorem frV_FX12_find_60 {h0 : ph_H} (x1 : Int32) (s0 : Int32) (h : ph_H) (e : EQ pV h0 h) : EQ pV h0 (FX12_find_60 x1 s0 h).2 := (frV_FX12_find_71 _ _ _  _ (frV_FX12_isOver   _ e))
theorem frV_FX12_find {h0 : ph_H} (a0 : Int32) (a1 : Int32) (h : ph_H) (e : EQ pV h0 h) : EQ pV h0 (FX12_find a0 a1 h).2 := (EQ2_if (EQ_s rfl e) (EQ2_if (EQ_s rfl e) (frV_FX12_find_60 _ _  _ (frV_FX12_tryRun   _ (EQ_s rfl (EQ_s rfl (EQ_s rfl (EQ_s rfl (EQ_s rfl (EQ_s rfl e))))))))))
theorem frV_FX12_found_49 {h0 : ph_H} (x1 : Int32) (h : ph_H) (e : EQ pV h0 h) : EQ pV h0 (FX12_found_49 x1 h).2 := (EQ2_if e e)
theorem frV_FX12_found_75 {h0 : ph_H} (x1 : Int32) (s0 : Int32) (h : ph_H) (e : EQ pV h0 h) : EQ pV h0 (FX12_found_75 x1 s0 h).2 := (EQ2_if (EQ2_if e e) e)
theorem frV_FX12_found {h0 : ph_H} (a0 : Int32) (h : ph_H) (e : EQ pV h0 h) : EQ pV h0 (FX12_found a0 h).2 := (EQ2_if (EQ_s rfl e) (EQ2_if (EQ_s rfl e) (EQ2_if (EQ_s rfl e) (EQ2_if (frV_FX12_found_49 _  _ (EQ_s rfl e)) (EQ2_if (frV_FX12_found_49 _  _ (EQ_s rfl e)) (EQ2_if (frV_FX12_found_75 _ _  _ (EQ_s rfl e)) (frV_FX12_found_75 _ _  _ (EQ_s rfl e))))))))
theorem frV_FX12_keep__246 {h0 : ph_H} (L174 : Int32 → Int32 → Int32 → ph_H → Int32 × ph_H) (x1 : Int32) (x2 : Int32) (x4 : Int32) (s0 : Int32) (s1 : Int32) (hL174 : ∀ (y0 : Int32) (y1 : Int32) (y2 : Int32) (h : ph_H), EQ pV h0 h → EQ pV h0 (L174 y0 y1 y2 h).2) (h : ph_H) (e : EQ pV h0 h) : EQ pV h0 (FX12_keep__246 L174 x1 x2 x4 s0 s1 h).2 := (hL174 _ _ _ _ (EQ_s rfl e))
theorem frV_FX12_keep__174 {h0 : ph_H}  : ∀ (q : Nat) (y0 : Int32) (y1 : Int32) (y2 : Int32) (h : ph_H), EQ pV h0 h → EQ pV h0 (FX12_keep__174  q y0 y1 y2 h).2 := by
  intro q
  induction q with
  | zero =>
    intro y0 y1 y2 h e
    exact e
  | succ q ih =>
    intro y0 y1 y2 h e
    exact (EQ2_if e (EQ2_if (frV_FX12_keep__246 _ _ _ _ _ _ ih _ e) (EQ2_if (frV_FX12_keep__246 _ _ _ _ _ _ ih _ e) (frV_FX12_keep__246 _ _ _ _ _ _ ih _ e))))
theorem frV_FX12_keep__170 {h0 : ph_H} (x1 : Int32) (x2 : Int32) (s0 : Int32) (s1 : Int32) (h : ph_H) (e : EQ pV h0 h) : EQ pV h0 (FX12_keep__170 x1 x2 s0 s1 h).2 := (frV_FX12_keep__174   _ _ _ _ _ (EQ_s rfl e))
theorem frV_FX12_keep__63 {h0 : ph_H} (x1 : Int32) (x2 : Int32) (x3 : Int32) (h : ph_H) (e : EQ pV h0 h) : EQ pV h0 (FX12_keep__63 x1 x2 x3 h).2 := (EQ2_if (EQ_s rfl (EQ_s rfl (EQ_s rfl (EQ_s rfl (EQ_s rfl e))))) (EQ2_if (EQ_s rfl (EQ_s rfl e)) (EQ2_if (frV_FX12_keep__170 _ _ _ _  _ (EQ_s rfl (EQ_s rfl e))) (EQ2_if (frV_FX12_keep__170 _ _ _ _  _ (EQ_s rfl (EQ_s rfl e))) (frV_FX12_keep__170 _ _ _ _  _ (EQ_s rfl (EQ_s rfl e)))))))
theorem frV_FX12_keep__35 {h0 : ph_H} (x1 : Int32) (x2 : Int32) (x3 : Int32) (h : ph_H) (e : EQ pV h0 h) : EQ pV h0 (FX12_keep__35 x1 x2 x3 h).2 := (EQ2_if (EQ2_if e (frV_FX12_keep__63 _ _ _  _ e)) (frV_FX12_keep__63 _ _ _  _ e))
theorem frV_FX12_keep_ {h0 : ph_H} (a0 : Int32) (a1 : Int32) (a2 : Int32) (h : ph_H) (e : EQ pV h0 h) : EQ pV h0 (FX12_keep_ a0 a1 a2 h).2 := (EQ2_if (EQ_s rfl e) (EQ2_if (EQ_s rfl e) (EQ2_if (frV_FX12_keep__35 _ _ _  _ (EQ_s rfl e)) (EQ2_if (EQ_s rfl e) (frV_FX12_keep__35 _ _ _  _ (EQ_s rfl e))))))
theorem frV_FX12_make_58 {h0 : ph_H}  : ∀ (q : Nat) (y0 : Int32) (y1 : Int32) (y2 : Int32) (h : ph_H), EQ pV h0 h → EQ pV h0 (FX12_make_58  q y0 y1 y2 h).2 := by
  intro q
  induction q with
  | zero =>
    intro y0 y1 y2 h e
    exact e
  | succ q ih =>
    intro y0 y1 y2 h e
    exact (EQ2_if e (ih _ _ _ _ (EQ_s rfl e)))
theorem frV_FX12_make {h0 : ph_H} (a0 : Int32) (a1 : Int32) (a2 : Int32) (h : ph_H) (e : EQ pV h0 h) : EQ pV h0 (FX12_make a0 a1 a2 h).2 := (EQ2_if (EQ_s rfl e) (EQ2_if (EQ_s rfl e) (EQ2_if (EQ2_if (frV_FX12_make_58   _ _ _ _ _ (EQ_s rfl (EQ_s rfl (EQ_s rfl e)))) (EQ_s rfl e)) (EQ_s rfl e))))
theorem frV_FX12_element_62 {h0 : ph_H} (x1 : Int32) (x2 : Int32) (x3 : Int32) (s0 : Int32) (h : ph_H) (e : EQ pV h0 h) : EQ pV h0 (FX12_element_62 x1 x2 x3 s0 h).2 := (EQ2_if (EQ_s rfl e) (EQ_s rfl e))
theorem frV_FX12_element_40 {h0 : ph_H} (x1 : Int32) (x2 : Int32) (s0 : Int32) (h : ph_H) (e : EQ pV h0 h) : EQ pV h0 (FX12_element_40 x1 x2 s0 h).2 := (EQ2_if (frV_FX12_element_62 _ _ _ _  _ e) (EQ2_if (frV_FX12_element_62 _ _ _ _  _ e) (frV_FX12_element_62 _ _ _ _  _ e)))
theorem frV_FX12_element_39 {h0 : ph_H} (x1 : Int32) (x2 : Int32) (h : ph_H) (e : EQ pV h0 h) : EQ pV h0 (FX12_element_39 x1 x2 h).2 := (frV_FX12_element_40 _ _ _  _ e)
theorem frV_FX12_element {h0 : ph_H} (a0 : Int32) (a1 : Int32) (h : ph_H) (e : EQ pV h0 h) : EQ pV h0 (FX12_element a0 a1 h).2 := (EQ2_if (frV_FX12_element_39 _ _  _ e) (EQ2_if (frV_FX12_element_39 _ _  _ e) (EQ2_if (frV_FX12_element_39 _ _  _ e) (frV_FX12_element_40 _ _ _  _ e))))
theorem frV_FX12_copy_136 {h0 : ph_H}  : ∀ (q : Nat) (y0 : Int32) (y1 : Int32) (y2 : Int32) (y3 : Int32) (h : ph_H), EQ pV h0 h → EQ pV h0 (FX12_copy_136  q y0 y1 y2 y3 h).2 := by
  intro q
  induction q with
  | zero =>
    intro y0 y1 y2 y3 h e
    exact e
  | succ q ih =>
    intro y0 y1 y2 y3 h e
    exact (EQ2_if e (ih _ _ _ _ _ (EQ_s rfl e)))
theorem frV_FX12_copy_99 {h0 : ph_H}  : ∀ (q : Nat) (y0 : Int32) (y1 : Int32) (y2 : Int32) (y3 : Int32) (y4 : Int32) (y5 : Int32) (h : ph_H), EQ pV h0 h → EQ pV h0 (FX12_copy_99  q y0 y1 y2 y3 y4 y5 h).2 := by
  intro q
  induction q with
  | zero =>
    intro y0 y1 y2 y3 y4 y5 h e
    exact e
  | succ q ih =>
    intro y0 y1 y2 y3 y4 y5 h e
    exact (EQ2_if (frV_FX12_copy_136   _ _ _ _ _ _ e) (ih _ _ _ _ _ _ _ (EQ_s rfl e)))
theorem frV_FX12_copy {h0 : ph_H} (a0 : Int32) (a1 : Int32) (a2 : Int32) (a3 : Int32) (a4 : Int32) (h : ph_H) (e : EQ pV h0 h) : EQ pV h0 (FX12_copy a0 a1 a2 a3 a4 h).2 := (EQ2_if (EQ_s rfl e) (EQ2_if (EQ_s rfl e) (EQ2_if (EQ_s rfl e) (EQ2_if (EQ_s rfl e) (EQ2_if (EQ_s rfl e) (EQ2_if (EQ2_if (EQ_s rfl e) (EQ2_if (EQ_s rfl e) (frV_FX12_copy_99   _ _ _ _ _ _ _ _ (EQ_s rfl e)))) (EQ_s rfl e)))))))
theorem frV_FX12_weight {h0 : ph_H} (a0 : Int32) (h : ph_H) (e : EQ pV h0 h) : EQ pV h0 (FX12_weight a0 h).2 := (EQ2_if (EQ2_if (EQ_s rfl e) (EQ2_if (EQ_s rfl e) (EQ_s rfl e))) (EQ_s rfl e))
theorem frV_FX12_toss {h0 : ph_H} (a0 : Int32) (h : ph_H) (e : EQ pV h0 h) : EQ pV h0 (FX12_toss a0 h).2 := (EQ2_if (EQ2_if (EQ_s rfl e) (EQ_s rfl e)) (EQ_s rfl e))
def pVN (k i : Nat) : Bool := match k with
  | 0 => i == 7 || i == 9
  | 1 => true
  | 2 => true
  | 3 => true
  | 4 => true
  | 5 => true
  | 6 => true
  | 7 => true
  | 8 => true
  | 9 => true
  | _ => false
theorem frVN_FX12_begin_36 {h0 : ph_H} (L2 : Int32 → ph_H → ph_H) (x1 : Int32) (s0 : Int32) (s1 : Int32) (hL2 : ∀ (y0 : Int32) (h : ph_H), EQ pVN h0 h → EQ pVN h0 (L2 y0 h)) (h : ph_H) (e : EQ pVN h0 h) : EQ pVN h0 (FX12_begin_36 L2 x1 s0 s1 h) := (hL2 _ _ (EQ_s rfl e))
theorem frVN_FX12_begin_85 {h0 : ph_H} (L45 : Int32 → ph_H → ph_H) (x1 : Int32) (s0 : Int32) (s1 : Int32) (hL45 : ∀ (y0 : Int32) (h : ph_H), EQ pVN h0 h → EQ pVN h0 (L45 y0 h)) (h : ph_H) (e : EQ pVN h0 h) : EQ pVN h0 (FX12_begin_85 L45 x1 s0 s1 h) := (hL45 _ _ (EQ_s rfl (EQ_s rfl (EQ_s rfl e))))
theorem frVN_FX12_begin_70 {h0 : ph_H} (L45 : Int32 → ph_H → ph_H) (x1 : Int32) (s0 : Int32) (s1 : Int32) (hL45 : ∀ (y0 : Int32) (h : ph_H), EQ pVN h0 h → EQ pVN h0 (L45 y0 h)) (h : ph_H) (e : EQ pVN h0 h) : EQ pVN h0 (FX12_begin_70 L45 x1 s0 s1 h) := (EQ_if (frVN_FX12_begin_85 _ _ _ _ hL45 _ (EQ_s rfl e)) (frVN_FX12_begin_85 _ _ _ _ hL45 _ (EQ_s rfl e)))
theorem frVN_FX12_begin_45 {h0 : ph_H}  : ∀ (q : Nat) (y0 : Int32) (h : ph_H), EQ pVN h0 h → EQ pVN h0 (FX12_begin_45  q y0 h) := by
  intro q
  induction q with
  | zero =>
    intro y0 h e
    exact e
  | succ q ih =>
    intro y0 h e
    exact (EQ_if (EQ_s rfl (EQ_s rfl (EQ_s rfl (EQ_s rfl (EQ_s rfl (EQ_s rfl e)))))) (EQ_if (frVN_FX12_begin_70 _ _ _ _ ih _ e) (frVN_FX12_begin_70 _ _ _ _ ih _ e)))
theorem frVN_FX12_begin_2 {h0 : ph_H}  : ∀ (q : Nat) (y0 : Int32) (h : ph_H), EQ pVN h0 h → EQ pVN h0 (FX12_begin_2  q y0 h) := by
  intro q
  induction q with
  | zero =>
    intro y0 h e
    exact e
  | succ q ih =>
    intro y0 h e
    exact (EQ_if (frVN_FX12_begin_45   _ _ _ e) (EQ_if (frVN_FX12_begin_36 _ _ _ _ ih _ (EQ_s rfl e)) (frVN_FX12_begin_36 _ _ _ _ ih _ (EQ_s rfl e))))
theorem frVN_FX12_begin {h0 : ph_H}  (h : ph_H) (e : EQ pVN h0 h) : EQ pVN h0 (FX12_begin h) := (frVN_FX12_begin_2   _ _ _ e)
theorem frVN_FX12_goTo_19 {h0 : ph_H} (s0 : Int32) (h : ph_H) (e : EQ pVN h0 h) : EQ pVN h0 (FX12_goTo_19 s0 h) := (EQ_s rfl e)
theorem frVN_FX12_goTo {h0 : ph_H} (a0 : Int32) (a1 : Int32) (h : ph_H) (e : EQ pVN h0 h) : EQ pVN h0 (FX12_goTo a0 a1 h) := (EQ_if (frVN_FX12_goTo_19 _  _ e) (EQ_if (EQ_s rfl e) (frVN_FX12_goTo_19 _  _ e)))
theorem frVN_FX12_set {h0 : ph_H} (a0 : Int32) (a1 : Int32) (a2 : Int32) (h : ph_H) (e : EQ pVN h0 h) : EQ pVN h0 (FX12_set a0 a1 a2 h) := (EQ_s rfl (EQ_s rfl e))
theorem frVN_FX12_newThing_29 {h0 : ph_H}  : ∀ (q : Nat) (y0 : Int32) (y1 : Int32) (h : ph_H), EQ pVN h0 h → EQ pVN h0 (FX12_newThing_29  q y0 y1 h).2 := by
  intro q
  induction q with
  | zero =>
    intro y0 y1 h e
    exact e
  | succ q ih =>
    intro y0 y1 h e
    exact (EQ2_if (EQ_s rfl e) (ih _ _ _ (EQ_s rfl e)))
theorem frVN_FX12_newThing {h0 : ph_H} (a0 : Int32) (a1 : Int32) (h : ph_H) (e : EQ pVN h0 h) : EQ pVN h0 (FX12_newThing a0 a1 h).2 := (frVN_FX12_newThing_29   _ _ _ _ (EQ_s rfl (EQ_s rfl (EQ_s rfl e))))
theorem frVN_FX12_work_88 {h0 : ph_H}  (h : ph_H) (e : EQ pVN h0 h) : EQ pVN h0 (FX12_work_88 h) := e
theorem frVN_FX12_work_111 {h0 : ph_H}  (h : ph_H) (e : EQ pVN h0 h) : EQ pVN h0 (FX12_work_111 h) := e
theorem frVN_FX12_work_134 {h0 : ph_H}  (h : ph_H) (e : EQ pVN h0 h) : EQ pVN h0 (FX12_work_134 h) := e
theorem frVN_FX12_work_155 {h0 : ph_H}  (h : ph_H) (e : EQ pVN h0 h) : EQ pVN h0 (FX12_work_155 h) := e
theorem frVN_FX12_work_152 {h0 : ph_H} (s0 : Int32) (s1 : Int32) (s2 : Int32) (h : ph_H) (e : EQ pVN h0 h) : EQ pVN h0 (FX12_work_152 s0 s1 s2 h) := (frVN_FX12_work_155   _ (frVN_FX12_set _ _ _  _ e))
theorem frVN_FX12_work_212 {h0 : ph_H}  (h : ph_H) (e : EQ pVN h0 h) : EQ pVN h0 (FX12_work_212 h) := e
theorem frVN_FX12_work_435 {h0 : ph_H} (L391 : Int32 → Int32 → ph_H → ph_H) (x3 : Int32) (x6 : Int32) (hL391 : ∀ (y0 : Int32) (y1 : Int32) (h : ph_H), EQ pVN h0 h → EQ pVN h0 (L391 y0 y1 h)) (h : ph_H) (e : EQ pVN h0 h) : EQ pVN h0 (FX12_work_435 L391 x3 x6 h) := (hL391 _ _ _ e)
theorem frVN_FX12_work_391 {h0 : ph_H}  : ∀ (q : Nat) (y0 : Int32) (y1 : Int32) (h : ph_H), EQ pVN h0 h → EQ pVN h0 (FX12_work_391  q y0 y1 h) := by
  intro q
  induction q with
  | zero =>
    intro y0 y1 h e
    exact e
  | succ q ih =>
    intro y0 y1 h e
    exact (EQ_if e (EQ_if (frVN_FX12_work_435 _ _ _ ih _ (EQ_s rfl (EQ_s rfl e))) (frVN_FX12_work_435 _ _ _ ih _ e)))
theorem frVN_FX12_work {h0 : ph_H} (a0 : Int32) (a1 : Int32) (a2 : Int32) (a3 : Int32) (a4 : Int32) (h : ph_H) (e : EQ pVN h0 h) : EQ pVN h0 (FX12_work a0 a1 a2 a3 a4 h) := (EQ_if (frVN_FX12_work_88   _ (frVN_FX12_set _ _ _  _ e)) (EQ_if (frVN_FX12_work_111   _ (frVN_FX12_set _ _ _  _ e)) (EQ_if (frVN_FX12_work_134   _ (frVN_FX12_set _ _ _  _ e)) (EQ_if e (EQ_if e (EQ_if (frVN_FX12_work_152 _ _ _  _ (frVN_FX12_newThing _ _  _ e)) (EQ_if (frVN_FX12_work_212   _ (frVN_FX12_set _ _ _  _ (EQ_s rfl e))) (EQ_if (EQ_s rfl (EQ_s rfl e)) (EQ_if e (EQ_if (EQ_s rfl (EQ_s rfl (EQ_s rfl e))) (EQ_if (EQ_s rfl (EQ_s rfl (EQ_s rfl e))) (EQ_if (EQ_s rfl (EQ_s rfl (EQ_s rfl (EQ_s rfl e)))) (EQ_if (frVN_FX12_work_391   _ _ _ _ (EQ_s rfl (EQ_s rfl e))) e)))))))))))))
theorem frVN_FX12_workPlain_116 {h0 : ph_H}  (h : ph_H) (e : EQ pVN h0 h) : EQ pVN h0 (FX12_workPlain_116 h) := e
theorem frVN_FX12_workPlain_153 {h0 : ph_H}  (h : ph_H) (e : EQ pVN h0 h) : EQ pVN h0 (FX12_workPlain_153 h) := e
theorem frVN_FX12_workPlain_191 {h0 : ph_H}  (h : ph_H) (e : EQ pVN h0 h) : EQ pVN h0 (FX12_workPlain_191 h) := e
theorem frVN_FX12_workPlain_222 {h0 : ph_H}  (h : ph_H) (e : EQ pVN h0 h) : EQ pVN h0 (FX12_workPlain_222 h) := e
theorem frVN_FX12_workPlain_219 {h0 : ph_H} (s0 : Int32) (s1 : Int32) (s2 : Int32) (h : ph_H) (e : EQ pVN h0 h) : EQ pVN h0 (FX12_workPlain_219 s0 s1 s2 h) := (frVN_FX12_workPlain_222   _ (frVN_FX12_set _ _ _  _ e))
theorem frVN_FX12_workPlain_206 {h0 : ph_H} (x3 : Int32) (s0 : Int32) (h : ph_H) (e : EQ pVN h0 h) : EQ pVN h0 (FX12_workPlain_206 x3 s0 h) := (frVN_FX12_workPlain_219 _ _ _  _ (frVN_FX12_newThing _ _  _ e))
theorem frVN_FX12_workPlain_259 {h0 : ph_H}  (h : ph_H) (e : EQ pVN h0 h) : EQ pVN h0 (FX12_workPlain_259 h) := (EQ_s rfl e)
theorem frVN_FX12_workPlain_256 {h0 : ph_H} (s0 : Int32) (s1 : Int32) (s2 : Int32) (h : ph_H) (e : EQ pVN h0 h) : EQ pVN h0 (FX12_workPlain_256 s0 s1 s2 h) := (frVN_FX12_workPlain_259   _ (frVN_FX12_set _ _ _  _ e))
theorem frVN_FX12_workPlain {h0 : ph_H} (a0 : Int32) (a1 : Int32) (a2 : Int32) (a3 : Int32) (h : ph_H) (e : EQ pVN h0 h) : EQ pVN h0 (FX12_workPlain a0 a1 a2 a3 h) := (EQ_if (frVN_FX12_workPlain_116   _ (frVN_FX12_set _ _ _  _ e)) (EQ_if (frVN_FX12_workPlain_153   _ (frVN_FX12_set _ _ _  _ (EQ_s rfl e))) (EQ_if (frVN_FX12_workPlain_191   _ (frVN_FX12_set _ _ _  _ (EQ_s rfl e))) (EQ_if e (EQ_if e (EQ_if e (EQ_if e (EQ_if e (EQ_if e (EQ_if e (EQ_if e (EQ_if (EQ_if (frVN_FX12_workPlain_206 _ _  _ e) (frVN_FX12_workPlain_206 _ _  _ e)) (EQ_if e (EQ_if e (EQ_if e (EQ_if e (EQ_if (EQ_if (frVN_FX12_workPlain_256 _ _ _  _ e) (frVN_FX12_workPlain_256 _ _ _  _ e)) (EQ_if (EQ_s rfl (EQ_s rfl (EQ_s rfl e))) e))))))))))))))))))
theorem frVN_FX12_instruct_251 {h0 : ph_H} (s0 : Int32) (s1 : Int32) (h : ph_H) (e : EQ pVN h0 h) : EQ pVN h0 (FX12_instruct_251 s0 s1 h) := (frVN_FX12_goTo _ _  _ e)
theorem frVN_FX12_instruct_204 {h0 : ph_H} (x1 : Int32) (x2 : Int32) (x6 : Int32) (x7 : Int32) (h : ph_H) (e : EQ pVN h0 h) : EQ pVN h0 (FX12_instruct_204 x1 x2 x6 x7 h) := (EQ_if e (EQ_if (frVN_FX12_instruct_251 _ _  _ e) (EQ_if (frVN_FX12_instruct_251 _ _  _ e) (frVN_FX12_instruct_251 _ _  _ e))))
theorem frVN_FX12_instruct_195 {h0 : ph_H} (x1 : Int32) (x2 : Int32) (x3 : Int32) (x4 : Int32) (x6 : Int32) (x7 : Int32) (h : ph_H) (e : EQ pVN h0 h) : EQ pVN h0 (FX12_instruct_195 x1 x2 x3 x4 x6 x7 h) := (frVN_FX12_instruct_204 _ _ _ _  _ (frVN_FX12_workPlain _ _ _ _  _ e))
theorem frVN_FX12_instruct_177 {h0 : ph_H} (x1 : Int32) (x2 : Int32) (x3 : Int32) (x4 : Int32) (x5 : Int32) (x6 : Int32) (s0 : Int32) (h : ph_H) (e : EQ pVN h0 h) : EQ pVN h0 (FX12_instruct_177 x1 x2 x3 x4 x5 x6 s0 h) := (frVN_FX12_instruct_195 _ _ _ _ _ _  _ (frVN_FX12_work _ _ _ _ _  _ e))
theorem frVN_FX12_instruct_149 {h0 : ph_H} (x1 : Int32) (x2 : Int32) (x3 : Int32) (x4 : Int32) (x5 : Int32) (s0 : Int32) (h : ph_H) (e : EQ pVN h0 h) : EQ pVN h0 (FX12_instruct_149 x1 x2 x3 x4 x5 s0 h) := (EQ_if (frVN_FX12_instruct_177 _ _ _ _ _ _ _  _ e) (frVN_FX12_instruct_177 _ _ _ _ _ _ _  _ e))
theorem frVN_FX12_instruct_144 {h0 : ph_H} (x1 : Int32) (x2 : Int32) (x3 : Int32) (x4 : Int32) (x5 : Int32) (h : ph_H) (e : EQ pVN h0 h) : EQ pVN h0 (FX12_instruct_144 x1 x2 x3 x4 x5 h) := (frVN_FX12_instruct_149 _ _ _ _ _ _  _ e)
theorem frVN_FX12_instruct_148 {h0 : ph_H} (x1 : Int32) (x2 : Int32) (x3 : Int32) (x4 : Int32) (x5 : Int32) (h : ph_H) (e : EQ pVN h0 h) : EQ pVN h0 (FX12_instruct_148 x1 x2 x3 x4 x5 h) := (frVN_FX12_instruct_149 _ _ _ _ _ _  _ e)
theorem frVN_FX12_instruct_102 {h0 : ph_H} (x1 : Int32) (x2 : Int32) (x3 : Int32) (x4 : Int32) (x5 : Int32) (s0 : Int32) (h : ph_H) (e : EQ pVN h0 h) : EQ pVN h0 (FX12_instruct_102 x1 x2 x3 x4 x5 s0 h) := (EQ_if (EQ_if (frVN_FX12_instruct_144 _ _ _ _ _  _ (EQ_s rfl e)) (EQ_if (EQ_if (frVN_FX12_instruct_144 _ _ _ _ _  _ (EQ_s rfl e)) (frVN_FX12_instruct_148 _ _ _ _ _  _ (EQ_s rfl e))) (frVN_FX12_instruct_148 _ _ _ _ _  _ (EQ_s rfl e)))) (EQ_s rfl e))
theorem frVN_FX12_instruct_98 {h0 : ph_H} (x1 : Int32) (x2 : Int32) (x3 : Int32) (x4 : Int32) (x5 : Int32) (h : ph_H) (e : EQ pVN h0 h) : EQ pVN h0 (FX12_instruct_98 x1 x2 x3 x4 x5 h) := (frVN_FX12_instruct_102 _ _ _ _ _ _  _ e)
theorem frVN_FX12_instruct {h0 : ph_H} (a0 : Int32) (a1 : Int32) (h : ph_H) (e : EQ pVN h0 h) : EQ pVN h0 (FX12_instruct a0 a1 h) := (EQ_if (EQ_if (frVN_FX12_instruct_98 _ _ _ _ _  _ (EQ_s rfl e)) (frVN_FX12_instruct_102 _ _ _ _ _ _  _ (EQ_s rfl e))) (frVN_FX12_instruct_98 _ _ _ _ _  _ (EQ_s rfl e)))
theorem frVN_FX12_step_154 {h0 : ph_H} (x1 : Int32) (h : ph_H) (e : EQ pVN h0 h) : EQ pVN h0 (FX12_step_154 x1 h) := (EQ_s rfl (EQ_s rfl e))
theorem frVN_FX12_step_110 {h0 : ph_H} (x1 : Int32) (h : ph_H) (e : EQ pVN h0 h) : EQ pVN h0 (FX12_step_110 x1 h) := (frVN_FX12_step_154 _  _ e)
theorem frVN_FX12_step_148 {h0 : ph_H} (x1 : Int32) (x2 : Int32) (h : ph_H) (e : EQ pVN h0 h) : EQ pVN h0 (FX12_step_148 x1 x2 h) := (frVN_FX12_step_154 _  _ (frVN_FX12_instruct _ _  _ e))
theorem frVN_FX12_step {h0 : ph_H} (a0 : Int32) (h : ph_H) (e : EQ pVN h0 h) : EQ pVN h0 (FX12_step a0 h) := (EQ_if (EQ_if (EQ_if (frVN_FX12_step_148 _ _  _ (EQ_s rfl (EQ_s rfl (EQ_s rfl (EQ_s rfl (EQ_s rfl (EQ_s rfl e))))))) (EQ_if (EQ_s rfl (EQ_s rfl (EQ_s rfl (EQ_s rfl (EQ_s rfl (EQ_s rfl (EQ_s rfl e))))))) (frVN_FX12_step_148 _ _  _ (EQ_s rfl (EQ_s rfl (EQ_s rfl (EQ_s rfl (EQ_s rfl (EQ_s rfl e))))))))) (frVN_FX12_step_148 _ _  _ (EQ_s rfl (EQ_s rfl (EQ_s rfl (EQ_s rfl (EQ_s rfl (EQ_s rfl e)))))))) (frVN_FX12_step_110 _  _ (frVN_FX12_goTo _ _  _ (EQ_s rfl (EQ_s rfl (EQ_s rfl (EQ_s rfl (EQ_s rfl (EQ_s rfl (EQ_s rfl (EQ_s rfl (EQ_s rfl (EQ_s rfl e)))))))))))))
theorem frVN_FX12_keep_171 {h0 : ph_H}  : ∀ (q : Nat) (y0 : Int32) (y1 : Int32) (h : ph_H), EQ pVN h0 h → EQ pVN h0 (FX12_keep_171  q y0 y1 h) := by
  intro q
  induction q with
  | zero =>
    intro y0 y1 h e
    exact e
  | succ q ih =>
    intro y0 y1 h e
    exact (EQ_if e (ih _ _ _ (EQ_s rfl e)))
theorem frVN_FX12_keep_104 {h0 : ph_H}  : ∀ (q : Nat) (y0 : Int32) (y1 : Int32) (h : ph_H), EQ pVN h0 h → EQ pVN h0 (FX12_keep_104  q y0 y1 h) := by
  intro q
  induction q with
  | zero =>
    intro y0 y1 h e
    exact e
  | succ q ih =>
    intro y0 y1 h e
    exact (EQ_if (frVN_FX12_keep_171   _ _ _ _ e) (ih _ _ _ (EQ_s rfl (EQ_s rfl (EQ_s rfl e)))))
theorem frVN_FX12_keep_50 {h0 : ph_H}  : ∀ (q : Nat) (y0 : Int32) (y1 : Int32) (h : ph_H), EQ pVN h0 h → EQ pVN h0 (FX12_keep_50  q y0 y1 h) := by
  intro q
  induction q with
  | zero =>
    intro y0 y1 h e
    exact e
  | succ q ih =>
    intro y0 y1 h e
    exact (EQ_if (frVN_FX12_keep_104   _ _ _ _ (EQ_s rfl e)) (ih _ _ _ (EQ_s rfl (EQ_s rfl e))))
theorem frVN_FX12_keep_2 {h0 : ph_H}  : ∀ (q : Nat) (y0 : Int32) (y1 : Int32) (h : ph_H), EQ pVN h0 h → EQ pVN h0 (FX12_keep_2  q y0 y1 h) := by
  intro q
  induction q with
  | zero =>
    intro y0 y1 h e
    exact e
  | succ q ih =>
    intro y0 y1 h e
    exact (EQ_if (frVN_FX12_keep_50   _ _ _ _ e) (ih _ _ _ (EQ_s rfl (EQ_s rfl e))))
theorem frVN_FX12_keep {h0 : ph_H} (a0 : Int32) (h : ph_H) (e : EQ pVN h0 h) : EQ pVN h0 (FX12_keep a0 h) := (frVN_FX12_keep_2   _ _ _ _ e)
theorem frVN_FX12_stepKept_182 {h0 : ph_H} (s0 : Int32) (s1 : Int32) (h : ph_H) (e : EQ pVN h0 h) : EQ pVN h0 (FX12_stepKept_182 s0 s1 h) := (frVN_FX12_keep _  _ (EQ_s rfl (EQ_s rfl e)))
theorem frVN_FX12_stepKept_158 {h0 : ph_H} (s0 : Int32) (s1 : Int32) (h : ph_H) (e : EQ pVN h0 h) : EQ pVN h0 (FX12_stepKept_158 s0 s1 h) := (EQ_if (frVN_FX12_stepKept_182 _ _  _ (EQ_s rfl e)) (frVN_FX12_stepKept_182 _ _  _ (EQ_s rfl e)))
theorem frVN_FX12_stepKept_133 {h0 : ph_H} (s0 : Int32) (s1 : Int32) (h : ph_H) (e : EQ pVN h0 h) : EQ pVN h0 (FX12_stepKept_133 s0 s1 h) := (EQ_if (frVN_FX12_stepKept_158 _ _  _ (EQ_s rfl e)) (frVN_FX12_stepKept_158 _ _  _ (EQ_s rfl e)))
theorem frVN_FX12_stepKept_73 {h0 : ph_H} (x1 : Int32) (h : ph_H) (e : EQ pVN h0 h) : EQ pVN h0 (FX12_stepKept_73 x1 h) := (EQ_if (frVN_FX12_stepKept_133 _ _  _ (EQ_s rfl (EQ_s rfl (EQ_s rfl e)))) (frVN_FX12_stepKept_133 _ _  _ (EQ_s rfl (EQ_s rfl (EQ_s rfl e)))))
theorem frVN_FX12_stepKept_53 {h0 : ph_H} (x1 : Int32) (x3 : Int32) (h : ph_H) (e : EQ pVN h0 h) : EQ pVN h0 (FX12_stepKept_53 x1 x3 h) := (EQ_if (frVN_FX12_stepKept_73 _  _ e) (frVN_FX12_stepKept_73 _  _ (EQ_s rfl e)))
theorem frVN_FX12_stepKept_48 {h0 : ph_H} (x1 : Int32) (x3 : Int32) (h : ph_H) (e : EQ pVN h0 h) : EQ pVN h0 (FX12_stepKept_48 x1 x3 h) := (frVN_FX12_stepKept_53 _ _  _ (frVN_FX12_step _  _ e))
theorem frVN_FX12_stepKept {h0 : ph_H} (a0 : Int32) (h : ph_H) (e : EQ pVN h0 h) : EQ pVN h0 (FX12_stepKept a0 h) := (EQ_if (frVN_FX12_stepKept_48 _ _  _ e) (frVN_FX12_stepKept_48 _ _  _ (EQ_s rfl (EQ_s rfl (EQ_s rfl e)))))
theorem frVN_FX12_run_91 {h0 : ph_H} (L31 : Int32 → ph_H → Int32 × ph_H) (L41 : Int32 → Int32 → ph_H → Int32 × ph_H) (x1 : Int32) (x2 : Int32) (hL31 : ∀ (y0 : Int32) (h : ph_H), EQ pVN h0 h → EQ pVN h0 (L31 y0 h).2) (hL41 : ∀ (y0 : Int32) (y1 : Int32) (h : ph_H), EQ pVN h0 h → EQ pVN h0 (L41 y0 y1 h).2) (h : ph_H) (e : EQ pVN h0 h) : EQ pVN h0 (FX12_run_91 L31 L41 x1 x2 h).2 := (hL41 _ _ _ e)
theorem frVN_FX12_run_97 {h0 : ph_H} (L31 : Int32 → ph_H → Int32 × ph_H) (x1 : Int32) (hL31 : ∀ (y0 : Int32) (h : ph_H), EQ pVN h0 h → EQ pVN h0 (L31 y0 h).2) (h : ph_H) (e : EQ pVN h0 h) : EQ pVN h0 (FX12_run_97 L31 x1 h).2 := (hL31 _ _ e)
theorem frVN_FX12_run_41 {h0 : ph_H} (L31 : Int32 → ph_H → Int32 × ph_H) (hL31 : ∀ (y0 : Int32) (h : ph_H), EQ pVN h0 h → EQ pVN h0 (L31 y0 h).2) : ∀ (q : Nat) (y0 : Int32) (y1 : Int32) (h : ph_H), EQ pVN h0 h → EQ pVN h0 (FX12_run_41 L31 q y0 y1 h).2 := by
  intro q
  induction q with
  | zero =>
    intro y0 y1 h e
    exact e
  | succ q ih =>
    intro y0 y1 h e
    exact (EQ2_if (frVN_FX12_run_97 _ _ hL31 _ e) (EQ2_if (EQ2_if (frVN_FX12_run_97 _ _ hL31 _ e) (EQ2_if (frVN_FX12_run_97 _ _ hL31 _ e) (frVN_FX12_run_91 _ _ _ _ hL31 ih _ (frVN_FX12_stepKept _  _ e)))) (frVN_FX12_run_97 _ _ hL31 _ e)))
theorem frVN_FX12_run_138 {h0 : ph_H} (L112 : Int32 → ph_H → Int32 × ph_H) (hL112 : ∀ (y0 : Int32) (h : ph_H), EQ pVN h0 h → EQ pVN h0 (L112 y0 h).2) (h : ph_H) (e : EQ pVN h0 h) : EQ pVN h0 (FX12_run_138 L112 h).2 := (hL112 _ _ e)
theorem frVN_FX12_run_195 {h0 : ph_H} (s0 : Int32) (h : ph_H) (e : EQ pVN h0 h) : EQ pVN h0 (FX12_run_195 s0 h).2 := (EQ_s rfl (EQ_s rfl (EQ_s rfl e)))
theorem frVN_FX12_run_150 {h0 : ph_H}  (h : ph_H) (e : EQ pVN h0 h) : EQ pVN h0 (FX12_run_150 h).2 := (EQ2_if (frVN_FX12_run_195 _  _ (EQ_s rfl (EQ_s rfl (EQ_s rfl (EQ_s rfl e))))) (frVN_FX12_run_195 _  _ (EQ_s rfl (EQ_s rfl (EQ_s rfl (EQ_s rfl e))))))
theorem frVN_FX12_run_112 {h0 : ph_H}  : ∀ (q : Nat) (y0 : Int32) (h : ph_H), EQ pVN h0 h → EQ pVN h0 (FX12_run_112  q y0 h).2 := by
  intro q
  induction q with
  | zero =>
    intro y0 h e
    exact e
  | succ q ih =>
    intro y0 h e
    exact (EQ2_if (frVN_FX12_run_150   _ e) (EQ2_if (EQ2_if (frVN_FX12_run_150   _ e) (frVN_FX12_run_138 _ ih _ (frVN_FX12_stepKept _  _ e))) (frVN_FX12_run_150   _ e)))
theorem frVN_FX12_run_31 {h0 : ph_H}  : ∀ (q : Nat) (y0 : Int32) (h : ph_H), EQ pVN h0 h → EQ pVN h0 (FX12_run_31  q y0 h).2 := by
  intro q
  induction q with
  | zero =>
    intro y0 h e
    exact e
  | succ q ih =>
    intro y0 h e
    exact (EQ2_if (frVN_FX12_run_112   _ _ _ e) (frVN_FX12_run_41 _ ih _ _ _ _ e))
theorem frVN_FX12_run_29 {h0 : ph_H}  (h : ph_H) (e : EQ pVN h0 h) : EQ pVN h0 (FX12_run_29 h).2 := (frVN_FX12_run_31   _ _ _ e)
theorem frVN_FX12_run_14 {h0 : ph_H}  (h : ph_H) (e : EQ pVN h0 h) : EQ pVN h0 (FX12_run_14 h).2 := (frVN_FX12_run_29   _ (frVN_FX12_keep _  _ (EQ_s rfl (EQ_s rfl e))))
theorem frVN_FX12_run {h0 : ph_H}  (h : ph_H) (e : EQ pVN h0 h) : EQ pVN h0 (FX12_run h).2 := (frVN_FX12_run_14   _ (frVN_FX12_begin   _ (EQ_s rfl (EQ_s rfl e))))
def pVR (k i : Nat) : Bool := match k with
  | 0 => i == 36 || i == 37 || i == 38 || i == 39 || i == 40 || i == 41 || i == 42 || i == 60
  | 20 => true
  | 21 => true
  | 22 => true
  | 23 => true
  | 24 => true
  | 25 => true
  | 26 => true
  | 27 => true
  | 28 => true
  | 29 => true
  | 30 => true
  | 31 => true
  | 32 => true
  | 33 => true
  | 34 => true
  | 35 => true
  | 36 => true
  | 37 => true
  | 38 => true
  | _ => false
theorem frVR_FX12_code {h0 : ph_H} (a0 : Int32) (a1 : Int32) (a2 : Int32) (a3 : Int32) (a4 : Int32) (h : ph_H) (e : EQ pVR h0 h) : EQ pVR h0 (FX12_code a0 a1 a2 a3 a4 h).2 := (EQ2_if (EQ_s rfl e) (EQ2_if (EQ_s rfl e) (EQ2_if (EQ_s rfl e) (EQ_s rfl (EQ_s rfl (EQ_s rfl (EQ_s rfl (EQ_s rfl (EQ_s rfl e)))))))))
theorem frVR_FX12_clear {h0 : ph_H} (a0 : Int32) (h : ph_H) (e : EQ pVR h0 h) : EQ pVR h0 (FX12_clear a0 h).2 := (EQ2_if (EQ_s rfl e) (EQ_s rfl (EQ_s rfl e)))
theorem frVR_FX12_cell {h0 : ph_H} (a0 : Int32) (a1 : Int32) (h : ph_H) (e : EQ pVR h0 h) : EQ pVR h0 (FX12_cell a0 a1 h).2 := (EQ2_if (EQ_s rfl e) (EQ_s rfl (EQ_s rfl e)))
theorem frVR_FX12_input {h0 : ph_H} (a0 : Int32) (h : ph_H) (e : EQ pVR h0 h) : EQ pVR h0 (FX12_input a0 h).2 := (EQ2_if (EQ_s rfl e) (EQ_s rfl (EQ_s rfl (EQ_s rfl e))))
theorem frVR_FX12_turn {h0 : ph_H} (a0 : Int32) (a1 : Int32) (h : ph_H) (e : EQ pVR h0 h) : EQ pVR h0 (FX12_turn a0 a1 h).2 := (EQ2_if (EQ_s rfl e) (EQ2_if (EQ_s rfl e) (EQ2_if (EQ_s rfl e) (EQ_s rfl (EQ_s rfl (EQ_s rfl (EQ_s rfl e)))))))
theorem frVR_FX12_freely {h0 : ph_H}  (h : ph_H) (e : EQ pVR h0 h) : EQ pVR h0 (FX12_freely h).2 := (EQ_s rfl (EQ_s rfl e))
end MG_48_xB1z
section MG_48_xB2
/-! THE RUN on both sides: turns, then freely, then how it was over -/
theorem who21 {z : zT} {h g : ph_H} (R : RC h g) (I : IM z g) : ∀ (q : Nat) (x : Int32), iv 0 4 x → FX3_whoGoes_s_21 q x h = FX12_free_12 q x g
  | 0, x, f => rfl
  | q + 1, x, f => by
    have k1 : (1 : Int32).toInt = 1 := by decide
    have k4 : (4 : Int32).toInt = 4 := by decide
    unfold iv at f
    unfold FX3_whoGoes_s_21 FX12_free_12
    by_cases c : 4 ≤ x
    · rw [if_pos c, if_pos c]
    · rw [if_neg c, if_neg c]
      rw [Int32.le_iff_toInt_le, k4] at c
      rw [canGo_eq R I (t := x) ⟨f.1, by omega⟩, who21 R I q (x + 1) (by
        unfold iv
        rw [ti_add (by omega) (by omega), k1]
        omega)]
theorem who_eq {z : zT} {h g : ph_H} {a : Int32} (R : RC h g) (I : IM z g) (f : iv 0 3 a) : FX3_whoGoes_s a h = FX12_free a g := by
  have k4 : (4 : Int32).toInt = 4 := by decide
  unfold FX3_whoGoes_s FX3_whoGoes_s_19 FX12_free
  have f' := f
  unfold iv at f
  rw [if_neg (nn_t f.1), if_neg (by rw [Int32.le_iff_toInt_le, k4]; omega), canGo_eq R I f', who21 R I 2000 0 ⟨by decide, by decide⟩]
theorem free_in {g : ph_H} {a : Int32} (fa : iv 0 3 a) (n : ¬ FX12_free a g < 0) : iv 0 3 (FX12_free a g) ∧ ¬ FX12_canGo (FX12_free a g) g = 0 := by
  have L : ∀ (q : Nat) (x : Int32), iv 0 4 x → 4 - x.toInt < (q : Int) → ¬ FX12_free_12 q x g < 0 → iv 0 3 (FX12_free_12 q x g) ∧ ¬ FX12_canGo (FX12_free_12 q x g) g = 0 := by
    intro q
    induction q with
    | zero =>
      intro x f m
      unfold iv at f
      omega
    | succ q ih =>
      intro x f m
      have k1 : (1 : Int32).toInt = 1 := by decide
      have k4 : (4 : Int32).toInt = 4 := by decide
      unfold iv at f
      unfold FX12_free_12
      by_cases c : 4 ≤ x
      · rw [if_pos c]
        exact fun w => absurd (by decide) w
      · rw [if_neg c]
        rw [Int32.le_iff_toInt_le, k4] at c
        have e1 : (x + 1).toInt = x.toInt + 1 := by rw [ti_add (by omega) (by omega), k1]
        by_cases d : FX12_canGo x g = 0
        · rw [if_pos d]
          exact ih (x + 1) (by unfold iv; omega) (by omega)
        · rw [if_neg d]
          exact fun _ => ⟨⟨f.1, by omega⟩, d⟩
  unfold FX12_free at *
  by_cases c : FX12_canGo a g = 0
  · rw [if_pos c] at n ⊢
    exact L 2000 0 ⟨by decide, by decide⟩ (by decide) n
  · rw [if_neg c]
    exact ⟨fa, c⟩
def TN (h g : ph_H) : Prop := h 8 7 = g 0 9 ∧ ∀ k : Nat, (k : Int) < (g 0 9).toInt → h 13 k = g 8 k ∧ h 14 k = g 9 k
def RUN (z : zT) (h g : ph_H) : Prop := RC h g ∧ TR h g ∧ RH z g ∧ TN h g ∧ 0 ≤ (g 0 25).toInt ∧ g 24 (g 0 24).toNatClampNeg = g 0 18
theorem adv_no {z : zT} {h g : ph_H} {t : Int32} (R : RC h g) (T : TR h g) (I : IM z g) (ht : iv 0 3 t) (c : ¬ g 0 25 = 0 ∨ 300 ≤ g 0 24 ∨ FX12_canGo t g = 0) : FX10_advance_s t h = (0, h) := by
  obtain ⟨t1, t2, t3, t4, t5, t6⟩ := T
  unfold FX10_advance_s
  rw [t1, t3]
  by_cases a : g 0 25 = 0
  · rw [if_pos a]
    by_cases b : g 0 24 < 300
    · rw [if_pos b]
      rcases c with c | c | c
      · exact absurd a c
      · rw [Int32.lt_iff_toInt_lt] at b
        rw [Int32.le_iff_toInt_le] at c
        omega
      · rw [go_no R I ht c]
        rfl
    · rw [if_neg b]
  · rw [if_neg a]
theorem kp24a : ∀ (q : Nat) (s x : Int32) (g : ph_H), iv 0 4 x → 4 - x.toInt < (q : Int) → FX12_keep_50 q s x g 24 s.toNatClampNeg = g 0 18
  | 0, s, x, g, f, m => by unfold iv at f; omega
  | q + 1, s, x, g, f, m => by
    have k1 : (1 : Int32).toInt = 1 := by decide
    have k4 : (4 : Int32).toInt = 4 := by decide
    unfold iv at f
    unfold FX12_keep_50
    by_cases c : 4 ≤ x
    · rw [if_pos c]
      have e := fr4_FX12_keep_104 (h0 := hs g 24 s.toNatClampNeg (g 0 18)) 2000 s 0 _ (EQ_r _)
      rw [e 24 _ rfl, hs_self]
    · rw [if_neg c]
      rw [Int32.le_iff_toInt_le, k4] at c
      have e1 : (x + 1).toInt = x.toInt + 1 := by rw [ti_add (by omega) (by omega), k1]
      rw [kp24a q s (x + 1) _ (by unfold iv; omega) (by omega), hs_o (by simp), hs_o (by simp)]
theorem kp24b : ∀ (q : Nat) (s x : Int32) (g : ph_H), iv 0 28 x → 28 - x.toInt < (q : Int) → FX12_keep_2 q s x g 24 s.toNatClampNeg = g 0 18
  | 0, s, x, g, f, m => by unfold iv at f; omega
  | q + 1, s, x, g, f, m => by
    have k1 : (1 : Int32).toInt = 1 := by decide
    have k28 : (28 : Int32).toInt = 28 := by decide
    unfold iv at f
    unfold FX12_keep_2
    by_cases c : 28 ≤ x
    · rw [if_pos c]
      exact kp24a 2000 s 0 g ⟨by decide, by decide⟩ (by decide)
    · rw [if_neg c]
      rw [Int32.le_iff_toInt_le, k28] at c
      have e1 : (x + 1).toInt = x.toInt + 1 := by rw [ti_add (by omega) (by omega), k1]
      rw [kp24b q s (x + 1) _ (by unfold iv; omega) (by omega), hs_o (by simp), hs_o (by simp)]
theorem kp24 (s : Int32) (g : ph_H) : FX12_keep s g 24 s.toNatClampNeg = g 0 18 := kp24b 2000 s 0 g ⟨by decide, by decide⟩ (by decide)
theorem sk24 (t : Int32) (g : ph_H) : FX12_stepKept t g 24 (FX12_stepKept t g 0 24).toNatClampNeg = FX12_stepKept t g 0 18 := by
  rw [sk_eq]
  have e := frK_FX12_keep (h0 := kW t (kI (g 0 23) (FX12_step t (cg1 t g)))) (FX12_step t (cg1 t g) 0 24) _ (EQ_r _)
  have w : ∀ i, kW t (kI (g 0 23) (FX12_step t (cg1 t g))) 0 i = FX12_step t (cg1 t g) 0 i := fun i => by rw [kW_o _ _ _ _ (by omega), kI_o _ _ _ _ (by omega)]
  rw [e 0 24 rfl, e 0 18 rfl, w, kp24]
theorem RUN_adv {z : zT} {h g : ph_H} {t : Int32} (U : RUN z h g) (ht : iv 0 3 t) (c : ¬ FX12_canGo t g = 0) (nf : g 0 25 = 0) (ns : ¬ 300 ≤ g 0 24) : (FX10_advance_s t h).1 = 1 ∧ RUN z (FX10_advance_s t h).2 (FX12_stepKept t g) ∧ (FX12_stepKept t g 0 24).toInt = (g 0 24).toInt + 1 := by
  obtain ⟨R, T, H, N, F, KK⟩ := U
  have H' := H
  obtain ⟨z', zm1, I, z33, rm, hch⟩ := H
  have k300 : (300 : Int32).toInt = 300 := by decide
  have s300 : iv 0 300 (g 0 24) := IMv I 0 24
  have ns' : iv 0 299 (g 0 24) := by
    rw [Int32.le_iff_toInt_le, k300] at ns
    unfold iv at *
    omega
  have nk : g 0 33 = 0 := (IMz I 0 33 rfl).trans z33
  have hc2 : (g 0 60).toInt ≤ (g 0 24).toInt := by
    rw [IMz I 0 60 rfl, IMz I 0 24 rfl]
    exact hch
  obtain ⟨a1, a2, a3, a4⟩ := adv_eq R T I ht c nf nk ns' hc2
  obtain ⟨_, c12, _⟩ := cg_true c
  have fn : iv 0 23 (g 12 t.toNatClampNeg) := by
    have := IMv I 12 t.toNatClampNeg
    exact iv_nel (y := 24) (show iv 0 24 _ from this) c12 rfl
  obtain ⟨_, b2, b3⟩ := T_kept H' ht fn ns'
  have fa := frA_FX10_advance_s (h0 := h) t h (EQ_r _)
  have ft := frT_FX12_stepKept (h0 := g) t g (EQ_r _)
  refine ⟨a1, ⟨a2, a3, b2, ⟨?_, fun k hk => ?_⟩, a4, sk24 t g⟩, b3⟩
  · rw [fa 8 7 rfl, ft 0 9 rfl]
    exact N.1
  · rw [ft 0 9 rfl] at hk
    rw [fa 13 k rfl, fa 14 k rfl, ft 8 k rfl, ft 9 k rfl]
    exact N.2 k hk
theorem RH_IM {z : zT} {g : ph_H} (H : RH z g) : ∃ z', IM z' g := by
  obtain ⟨z', _, I, _⟩ := H
  exact ⟨z', I⟩
theorem turn_in {z : zT} (L31 : Int32 → ph_H → Int32 × ph_H) (L2 : Int32 → ph_H → ph_H) (k t : Int32) (fk : iv 0 39 k) (ft : iv 0 3 t) : ∀ (q : Nat) (q' : Nat) (x : Int32) (h g : ph_H), RUN z h g → g 8 k.toNatClampNeg = t → k.toInt < (g 0 9).toInt → iv 0 100 x → 100 - x.toInt < (q : Int) → 101 - x.toInt < (q' : Int) → ∃ h' g', FX12_run_41 L31 q k x g = L31 (k + 1) g' ∧ FX10_takeTurns_st_30 L2 q' k t 1 x h = L2 (k + 1) h' ∧ RUN z h' g' ∧ g' 0 9 = g 0 9
  | 0, q', x, h, g, U, e8, hk, f, m, m' => by unfold iv at f; omega
  | q + 1, 0, x, h, g, U, e8, hk, f, m, m' => by unfold iv at f; omega
  | q + 1, q' + 1, x, h, g, U, e8, hk, f, m, m' => by
    have k1 : (1 : Int32).toInt = 1 := by decide
    have kn := iv_nat fk rfl
    have U' := U
    obtain ⟨R, T, H, N, F, KK⟩ := U
    obtain ⟨z', I⟩ := RH_IM H
    obtain ⟨n1, n2⟩ := N.2 k.toNatClampNeg (by omega)
    have f' := f
    unfold iv at f
    have b100 : iv 0 100 (g 9 k.toNatClampNeg) := IMv I 9 _
    unfold iv at b100
    have stop : FX10_advance_s t h = (0, h) → ¬ g 9 k.toNatClampNeg ≤ x → FX10_takeTurns_st_30 L2 (q' + 1) k t 1 x h = L2 (k + 1) h := fun e c => by
      rw [Int32.le_iff_toInt_le] at c
      obtain ⟨q2, rfl⟩ : ∃ q2, q' = q2 + 1 := ⟨q' - 1, by omega⟩
      unfold FX10_takeTurns_st_30 FX10_takeTurns_st_61 FX10_takeTurns_st_53
      rw [n2, if_neg (by rw [Int32.le_iff_toInt_le]; omega), if_neg (by decide), e]
      show FX10_takeTurns_st_30 L2 (q2 + 1) k t 0 (x + 1) h = _
      unfold FX10_takeTurns_st_30 FX10_takeTurns_st_61
      rw [if_pos (rfl : (0 : Int32) = 0)]
      split <;> rfl
    by_cases c : g 9 k.toNatClampNeg ≤ x
    · refine ⟨h, g, ?_, ?_, U', rfl⟩
      · unfold FX12_run_41 FX12_run_97
        rw [if_pos c]
      · unfold FX10_takeTurns_st_30 FX10_takeTurns_st_61
        rw [n2, if_pos c]
    · by_cases nf : g 0 25 = 0
      · by_cases ns : 300 ≤ g 0 24
        · refine ⟨h, g, ?_, stop (adv_no R T I ft (Or.inr (Or.inl ns))) c, U', rfl⟩
          unfold FX12_run_41 FX12_run_97
          rw [if_neg c, if_pos nf, if_pos ns]
        · by_cases cg : FX12_canGo t g = 0
          · refine ⟨h, g, ?_, stop (adv_no R T I ft (Or.inr (Or.inr cg))) c, U', rfl⟩
            unfold FX12_run_41 FX12_run_97
            rw [if_neg c, if_pos nf, if_neg ns, e8, if_pos cg]
          · obtain ⟨a1, a2, a3⟩ := RUN_adv U' ft cg nf ns
            have fr := frT_FX12_stepKept (h0 := g) t g (EQ_r _)
            rw [Int32.le_iff_toInt_le] at c
            have e1 : (x + 1).toInt = x.toInt + 1 := by rw [ti_add (by omega) (by omega), k1]
            obtain ⟨h', g', b1, b2, b3, b4⟩ := turn_in L31 L2 k t fk ft q q' (x + 1) _ _ a2 (by rw [fr 8 _ rfl]; exact e8) (by rw [fr 0 9 rfl]; exact hk) (by unfold iv; omega) (by omega) (by omega)
            refine ⟨h', g', ?_, ?_, b3, b4.trans (fr 0 9 rfl)⟩
            · rw [← b1]
              show FX12_run_41 L31 (q + 1) k x g = _
              rw [FX12_run_41]
              unfold FX12_run_91
              rw [if_neg (by rw [Int32.le_iff_toInt_le]; exact c), if_pos nf, if_neg ns, e8, if_neg cg]
            · rw [← b2, FX10_takeTurns_st_30]
              unfold FX10_takeTurns_st_53
              rw [n2, if_neg (by rw [Int32.le_iff_toInt_le]; exact c), if_neg (by decide), a1]
      · refine ⟨h, g, ?_, stop (adv_no R T I ft (Or.inl nf)) c, U', rfl⟩
        unfold FX12_run_41 FX12_run_97
        rw [if_neg c, if_neg nf]
theorem turns_eq {z : zT} : ∀ (q : Nat) (q' : Nat) (x : Int32) (h g : ph_H), RUN z h g → iv 0 40 x → 40 - x.toInt < (q : Int) → 40 - x.toInt < (q' : Int) → ∃ g', FX12_run_31 q x g = FX12_run_112 2000 (FX12_free (g' 0 26) g') g' ∧ RUN z (FX10_takeTurns_st_2 q' x h) g'
  | 0, q', x, h, g, U, f, m, m' => by unfold iv at f; omega
  | q + 1, 0, x, h, g, U, f, m, m' => by unfold iv at f; omega
  | q + 1, q' + 1, x, h, g, U, f, m, m' => by
    have k1 : (1 : Int32).toInt = 1 := by decide
    have k40 : (40 : Int32).toInt = 40 := by decide
    have U' := U
    obtain ⟨R, T, H, N, F, KK⟩ := U
    obtain ⟨z', I⟩ := RH_IM H
    have t40 : iv 0 40 (g 0 9) := IMv I 0 9
    have xn := iv_nat f rfl
    unfold iv at f t40
    unfold FX12_run_31 FX10_takeTurns_st_2
    rw [N.1]
    by_cases c : g 0 9 ≤ x
    · rw [if_pos c, if_pos c]
      exact ⟨g, rfl, U'⟩
    · rw [if_neg c, if_neg c]
      rw [Int32.le_iff_toInt_le] at c
      rw [if_neg (by rw [Int32.le_iff_toInt_le, k40]; omega)]
      obtain ⟨n1, n2⟩ := N.2 x.toNatClampNeg (by omega)
      have e1 : (x + 1).toInt = x.toInt + 1 := by rw [ti_add (by omega) (by omega), k1]
      have f3 : iv 0 3 (g 8 x.toNatClampNeg) := IMv I 8 _
      obtain ⟨h', g', b1, b2, b3, b4⟩ := turn_in (FX12_run_31 q) (FX10_takeTurns_st_2 q') x (g 8 x.toNatClampNeg) ⟨f.1, by omega⟩ f3 2000 2000 0 h g U' rfl (by omega) ⟨by decide, by decide⟩ (by decide) (by decide)
      rw [b1, n1, b2]
      exact turns_eq q q' (x + 1) h' g' b3 (by unfold iv; omega) (by omega) (by omega)
theorem goon_eq {z : zT} : ∀ (q : Nat) (q' : Nat) (n : Int32) (h g : ph_H), RUN z h g → iv 0 300 n → n.toInt ≤ (g 0 24).toInt → 300 - (g 0 24).toInt < (q : Int) → 301 - n.toInt < (q' : Int) → ∃ g', FX12_run_112 q (FX12_free (g 0 26) g) g = FX12_run_150 g' ∧ RUN z (FX10_goOn_s_4 q' 1 n h) g'
  | 0, q', n, h, g, U, f, l, m, m' => by
    obtain ⟨z', I⟩ := RH_IM U.2.2.1
    have s300 : iv 0 300 (g 0 24) := IMv I 0 24
    unfold iv at s300
    omega
  | q + 1, 0, n, h, g, U, f, l, m, m' => by unfold iv at f; omega
  | q + 1, q' + 1, n, h, g, U, f, l, m, m' => by
    have k1 : (1 : Int32).toInt = 1 := by decide
    have k300 : (300 : Int32).toInt = 300 := by decide
    have U' := U
    obtain ⟨R, T, H, N, F, KK⟩ := U
    obtain ⟨z', I⟩ := RH_IM H
    have s300 : iv 0 300 (g 0 24) := IMv I 0 24
    have w3 : iv 0 3 (g 0 26) := IMv I 0 26
    have who := who_eq R I w3
    have lat := T.2.2.2.2.2
    unfold iv at f s300
    have halt : ∀ (q2 : Nat) (n2 : Int32), FX10_goOn_s_4 q2 0 n2 h = h := fun q2 n2 => by
      cases q2 with
      | zero => rfl
      | succ q2 =>
        unfold FX10_goOn_s_4
        rw [if_pos (rfl : (0 : Int32) = 0)]
        split <;> rfl
    have stop : FX10_advance_s (FX12_free (g 0 26) g) h = (0, h) → FX10_goOn_s_4 (q' + 1) 1 n h = h := fun e => by
      unfold FX10_goOn_s_4 FX10_goOn_s_44 FX10_goOn_s_37 FX10_goOn_s_45 FX10_goOn_s_44
      rw [lat, who, e]
      split
      · rfl
      · rw [if_neg (by decide)]
        split
        · exact halt _ _
        · rw [if_pos rfl]
          exact halt _ _
    by_cases c : FX12_free (g 0 26) g < 0
    · refine ⟨g, ?_, ?_⟩
      · unfold FX12_run_112
        rw [if_pos c]
      · have : FX10_goOn_s_4 (q' + 1) 1 n h = h := by
          unfold FX10_goOn_s_4 FX10_goOn_s_44 FX10_goOn_s_45
          rw [lat, who, if_pos c]
          split
          · rfl
          · rw [if_neg (by decide)]
            exact halt _ _
        rw [this]
        exact U'
    · obtain ⟨c1, c2⟩ := free_in w3 c
      by_cases nf : g 0 25 = 0
      · by_cases ns : 300 ≤ g 0 24
        · refine ⟨g, ?_, ?_⟩
          · unfold FX12_run_112
            rw [if_neg c, if_pos nf, if_pos ns]
          · rw [stop (adv_no R T I c1 (Or.inr (Or.inl ns)))]
            exact U'
        · obtain ⟨a1, a2, a3⟩ := RUN_adv U' c1 c2 nf ns
          have ns2 := ns
          rw [Int32.le_iff_toInt_le, k300] at ns2
          have e1 : (n + 1).toInt = n.toInt + 1 := by rw [ti_add (by omega) (by omega), k1]
          obtain ⟨g', b1, b2⟩ := goon_eq q q' (n + 1) _ _ a2 (by unfold iv; omega) (by omega) (by omega) (by omega)
          refine ⟨g', ?_, ?_⟩
          · rw [← b1, FX12_run_112]
            unfold FX12_run_138
            rw [if_neg c, if_pos nf, if_neg ns]
          · have : FX10_goOn_s_4 (q' + 1) 1 n h = FX10_goOn_s_4 q' 1 (n + 1) (FX10_advance_s (FX12_free (g 0 26) g) h).2 := by
              rw [FX10_goOn_s_4]
              unfold FX10_goOn_s_37 FX10_goOn_s_45
              have n3 : ¬ 300 ≤ n := by rw [Int32.le_iff_toInt_le, k300]; omega
              rw [lat, who, a1]
              simp (decide := true) only [c, n3, ↓reduceIte]
            rw [this]
            exact b2
      · refine ⟨g, ?_, ?_⟩
        · unfold FX12_run_112
          rw [if_neg c, if_neg nf]
        · rw [stop (adv_no R T I c1 (Or.inl nf))]
          exact U'
/-- how it was over -/
theorem over23 {z : zT} {h g : ph_H} (R : RC h g) (I : IM z g) : ∀ (q : Nat) (x : Int32), iv 0 4 x → 4 - x.toInt < (q : Int) → FX12_ending_23 q 0 x g = 1 ∧ FX12_ending_23 q 1 x g = if FX3_allStartedHaveEnded_s_2 q x h = 0 then 1 else 0
  | 0, x, f, m => by unfold iv at f; omega
  | q + 1, x, f, m => by
    have k1 : (1 : Int32).toInt = 1 := by decide
    have k4 : (4 : Int32).toInt = 4 := by decide
    unfold iv at f
    unfold FX12_ending_23 FX12_ending_52 FX12_ending_56 FX12_ending_57 FX3_allStartedHaveEnded_s_2 FX3_allStartedHaveEnded_s_26
    by_cases c : 4 ≤ x
    · simp (decide := true) only [c, ↓reduceIte, and_self]
    · rw [if_neg c, if_neg c, if_neg c]
      rw [Int32.le_iff_toInt_le, k4] at c
      have fx : iv 0 3 x := ⟨f.1, by omega⟩
      have e1 : (x + 1).toInt = x.toInt + 1 := by rw [ti_add (by omega) (by omega), k1]
      obtain ⟨i1, i2⟩ := over23 R I q (x + 1) (by unfold iv; omega) (by omega)
      rw [if_pos rfl, if_neg (by decide), i1, i2, ended_eq R I fx]
      refine ⟨rfl, ?_⟩
      have md := R.2.2.1 _ (t_lt fx)
      by_cases s : g 13 x.toNatClampNeg = 0
      · have s' : h 19 x.toNatClampNeg = 0 := by
          rcases md with ⟨m, st, as, wk⟩ | ⟨m, st, as, wk⟩ | ⟨m, st, as, q, wk⟩ | ⟨m, st, as, wk, q⟩
          · exact m
          all_goals exact absurd (s.symm.trans st) (by decide)
        rw [if_pos s, if_pos s']
      · have s' : ¬ h 19 x.toNatClampNeg = 0 := fun w => s (MD0 md w).1
        rw [if_neg s, if_neg s']
        by_cases e : g 12 x.toNatClampNeg = 24
        · simp (decide := true) only [e, ↓reduceIte]
        · simp (decide := true) only [e, ↓reduceIte]
theorem over_eq {z : zT} {h g : ph_H} (U : RUN z h g) : FX10_howOver_s h = FX12_ending g := by
  obtain ⟨R, T, H, N, F, KK⟩ := U
  obtain ⟨z', I⟩ := RH_IM H
  have k0 : (0 : Int32).toInt = 0 := by decide
  have who := who_eq R I (a := 0) ⟨by decide, by decide⟩
  obtain ⟨_, o⟩ := over23 R I 2000 0 ⟨by decide, by decide⟩ (by decide)
  unfold FX10_howOver_s FX12_ending FX3_allStartedHaveEnded_s
  rw [T.2.2.1, who, o]
  by_cases c : g 0 25 = 0
  · simp (decide := true) only [c, ↓reduceIte]
  · rw [if_neg c, if_neg (fun w => c (tI (by rw [Int32.le_iff_toInt_le, k0] at w; omega)))]
end MG_48_xB2
section MG_48_xB3
/-! RUN as a call on both sides; the programs told are the same -/
def PN (h g : ph_H) : Prop := (∀ t, t < 4 → h 2 t = g 1 t) ∧ (∀ i, i < 96 → h 3 (4 * i) = g 2 i ∧ h 3 (4 * i + 1) = g 3 i ∧ h 3 (4 * i + 2) = g 4 i ∧ h 3 (4 * i + 3) = g 5 i) ∧ (∀ c, c < 12 → h 4 c = g 6 c) ∧ (h 1 6 = g 0 7 ∧ ∀ k : Nat, (k : Int) < (g 0 7).toInt → h 5 k = g 7 k) ∧ (h 1 7 = g 0 9 ∧ ∀ k : Nat, (k : Int) < (g 0 9).toInt → h 6 k = g 8 k ∧ h 7 k = g 9 k) ∧ (∀ i, iv 0 19 (g 2 i))
theorem bec (h : ph_H) : (∀ i, i < 4 → FX5_become_tn h 9 i = h 2 i) ∧ (∀ i, i < 384 → FX5_become_tn h 10 i = h 3 i) ∧ (∀ i, i < 12 → FX5_become_tn h 11 i = h 4 i) ∧ (∀ i, i < 30 → FX5_become_tn h 12 i = h 5 i) ∧ (∀ i, i < 40 → FX5_become_tn h 13 i = h 6 i ∧ FX5_become_tn h 14 i = h 7 i) ∧ FX5_become_tn h 8 6 = h 1 6 ∧ FX5_become_tn h 8 7 = h 1 7 ∧ (∀ k i, ¬ (8 ≤ k ∧ k ≤ 14) → FX5_become_tn h k i = h k i) := by
  have n4 : (4 : Int32).toNatClampNeg = 4 := by decide
  have n384 : (384 : Int32).toNatClampNeg = 384 := by decide
  have n12 : (12 : Int32).toNatClampNeg = 12 := by decide
  have n30 : (30 : Int32).toNatClampNeg = 30 := by decide
  have n40 : (40 : Int32).toNatClampNeg = 40 := by decide
  unfold FX5_become_tn
  refine ⟨fun i hi => ?_, fun i hi => ?_, fun i hi => ?_, fun i hi => ?_, fun i hi => ⟨?_, ?_⟩, ?_, ?_, fun k i q => ?_⟩
  · rw [hs_o (by simp), hs_o (by simp), hc_o (by decide), hc_o (by decide), hc_o (by decide), hc_o (by decide), hc_o (by decide), hc_at, n4, if_pos hi]
  · rw [hs_o (by simp), hs_o (by simp), hc_o (by decide), hc_o (by decide), hc_o (by decide), hc_o (by decide), hc_at, n384, if_pos hi, hc_o (by decide)]
  · rw [hs_o (by simp), hs_o (by simp), hc_o (by decide), hc_o (by decide), hc_o (by decide), hc_at, n12, if_pos hi, hc_o (by decide), hc_o (by decide)]
  · rw [hs_o (by simp), hs_o (by simp), hc_o (by decide), hc_o (by decide), hc_at, n30, if_pos hi, hc_o (by decide), hc_o (by decide), hc_o (by decide)]
  · rw [hs_o (by simp), hs_o (by simp), hc_o (by decide), hc_at, n40, if_pos hi, hc_o (by decide), hc_o (by decide), hc_o (by decide), hc_o (by decide)]
  · rw [hs_o (by simp), hs_o (by simp), hc_at, n40, if_pos hi, hc_o (by decide), hc_o (by decide), hc_o (by decide), hc_o (by decide), hc_o (by decide)]
  · rw [hs_o (by simp), hs_self, hc_o (by decide), hc_o (by decide), hc_o (by decide), hc_o (by decide), hc_o (by decide), hc_o (by decide)]
  · rw [hs_self, hc_o (by decide), hc_o (by decide), hc_o (by decide), hc_o (by decide), hc_o (by decide), hc_o (by decide)]
  · rw [hs_o (by omega), hs_o (by omega), hc_o (by omega), hc_o (by omega), hc_o (by omega), hc_o (by omega), hc_o (by omega), hc_o (by omega)]
theorem run_start {z : zT} {h g : ph_H} (P : PN h g) (J : IT z g) : RUN z (hs (hs (hs (FX3_begin_st (FX5_become_tn h 8 6) (FX5_become_tn h)) 35 11 0) 35 12 0) 35 14 0) (FX12_keep 0 (hs (hs (FX12_begin (hs (hs g 0 0 0) 0 33 0)) 0 60 0) 0 64 0)) := by
  obtain ⟨w1, w2, w3, w4, w5, w6⟩ := P
  obtain ⟨c1, c2, c3, c4, c5, c6, c7, c8⟩ := bec h
  have k0 : (0 : Int32).toInt = 0 := by decide
  have f7 : iv 0 30 (g 0 7) := ITv J 0 7
  have f9 : iv 0 40 (g 0 9) := ITv J 0 9
  unfold iv at f7 f9
  have G0 : ∀ k i, ¬ k = 0 → (hs (hs g 0 0 0) 0 33 0) k i = g k i := fun k i q => by rw [hs_o (fun w => q w.1), hs_o (fun w => q w.1)]
  have g33 : (hs (hs g 0 0 0) 0 33 0) 0 33 = 0 := hs_self _ _ _ _
  have g7 : (hs (hs g 0 0 0) 0 33 0) 0 7 = g 0 7 := by rw [hs_o (by simp), hs_o (by simp)]
  have g9 : (hs (hs g 0 0 0) 0 33 0) 0 9 = g 0 9 := by rw [hs_o (by simp), hs_o (by simp)]
  have kn0 : kn (hs (hs g 0 0 0) 0 33 0) = g 0 7 := by
    unfold kn
    rw [if_pos g33, g7]
  have RB : RC (FX3_begin_st (FX5_become_tn h 8 6) (FX5_become_tn h)) (FX12_begin (hs (hs g 0 0 0) 0 33 0)) := begin_RC (h := FX5_become_tn h) (g := (hs (hs g 0 0 0) 0 33 0)) ⟨⟨fun t ht => by rw [c1 t ht, G0 1 t (by decide)]; exact w1 t ht, fun i hi => by
      rw [c2 _ (by omega), c2 _ (by omega), c2 _ (by omega), c2 _ (by omega), G0 2 i (by decide), G0 3 i (by decide), G0 4 i (by decide), G0 5 i (by decide)]
      exact w2 i hi⟩, fun c hc => by rw [c3 c hc, G0 6 c (by decide)]; exact w3 c hc, fun i => by rw [G0 2 i (by decide)]; exact w6 i⟩ (by rw [c6, kn0]; exact w4.1) (by rw [kn0]; omega) (fun k hk => by
      rw [kn0] at hk
      unfold vi
      rw [if_pos g33, G0 7 k (by decide), c4 k (by omega)]
      exact w4.2 k hk)
  obtain ⟨r1, r2, r3, r4⟩ := rbeg (hs (hs g 0 0 0) 0 33 0)
  obtain ⟨d1, d2, d3, d4, d5, d6, d7, d8⟩ := cbeg (FX5_become_tn h 8 6) (FX5_become_tn h)
  have fk := frK_FX12_keep (h0 := hs (hs (FX12_begin (hs (hs g 0 0 0) 0 33 0)) 0 60 0) 0 64 0) 0 _ (EQ_r _)
  have K0 : ∀ i, ¬ i = 60 → ¬ i = 64 → (FX12_keep 0 (hs (hs (FX12_begin (hs (hs g 0 0 0) 0 33 0)) 0 60 0) 0 64 0)) 0 i = FX12_begin (hs (hs g 0 0 0) 0 33 0) 0 i := fun i a b => by rw [fk 0 i rfl, hs_o (by simp [b]), hs_o (by simp [a])]
  have e24 : (FX12_keep 0 (hs (hs (FX12_begin (hs (hs g 0 0 0) 0 33 0)) 0 60 0) 0 64 0)) 0 24 = 0 := by rw [K0 _ (by decide) (by decide), r4]; simp
  have e25 : (FX12_keep 0 (hs (hs (FX12_begin (hs (hs g 0 0 0) 0 33 0)) 0 60 0) 0 64 0)) 0 25 = 0 := by rw [K0 _ (by decide) (by decide), r4]; simp
  have e26 : (FX12_keep 0 (hs (hs (FX12_begin (hs (hs g 0 0 0) 0 33 0)) 0 60 0) 0 64 0)) 0 26 = 0 := by rw [K0 _ (by decide) (by decide), r4]; simp
  have e60 : (FX12_keep 0 (hs (hs (FX12_begin (hs (hs g 0 0 0) 0 33 0)) 0 60 0) 0 64 0)) 0 60 = 0 := by rw [fk 0 60 rfl, hs_o (by simp), hs_self]
  have e9 : (FX12_keep 0 (hs (hs (FX12_begin (hs (hs g 0 0 0) 0 33 0)) 0 60 0) 0 64 0)) 0 9 = g 0 9 := by rw [K0 _ (by decide) (by decide), r4, if_neg (by decide), g9]
  have H11 : (hs (hs (hs (FX3_begin_st (FX5_become_tn h 8 6) (FX5_become_tn h)) 35 11 0) 35 12 0) 35 14 0) 35 11 = 0 := by rw [hs_o (by simp), hs_o (by simp), hs_self]
  refine ⟨?_, ⟨?_, ?_, ?_, ?_, ?_, ?_⟩, ?_, ⟨?_, ?_⟩, ?_, ?_⟩
  · refine RB.congr (fun k i q => ?_) (fun k i q => ?_) (fun n => absurd ?_ n)
    · have : ¬ k = 35 := fun e => by rw [e] at q; exact absurd q (by simp [cM])
      rw [hs_o (fun w => this w.1), hs_o (fun w => this w.1), hs_o (fun w => this w.1)]
    · have p : pK k i = true := by
        unfold rM at q
        unfold pK
        split at q <;> first | rfl | (exact absurd q (by decide))
      have n1 : ¬ (k = 0 ∧ i = 64) := fun e => by rw [e.1, e.2] at q; exact absurd q (by decide)
      have n2 : ¬ (k = 0 ∧ i = 60) := fun e => by rw [e.1, e.2] at q; exact absurd q (by decide)
      rw [fk k i p, hs_o n1, hs_o n2]
    · rw [r4, if_neg (by decide)]
      exact g33
  · rw [H11, e24]
  · rw [hs_o (by simp), hs_self, e60]
  · rw [hs_self, e25]
  · intro s a b
    rw [e24, k0] at b
    omega
  · intro i hi
    rw [e60, k0] at hi
    omega
  · unfold FX10_latestThread
    rw [H11, if_pos (by decide), e26]
  · -- the reference's own invariant
    have I0 : IT z (hs (hs g 0 0 0) 0 33 0) := by
      obtain ⟨z1, m, i, e⟩ := J
      exact ⟨_, zm_hs m rfl rfl, IMg (k := 0) (i := 33) (IMa 0 0 i rfl rfl) (show iv 0 1 0 from ⟨by decide, by decide⟩) rfl, hz_e⟩
    have b := T_begin I0
    obtain ⟨⟨z1, m, i, e, r⟩, e24⟩ := b.2
    have fz : iv 0 300 (0 : Int32) := ⟨by decide, by decide⟩
    have i2 : IM (hs z1 0 60 0) (hs (hs (FX12_begin (hs (hs g 0 0 0) 0 33 0)) 0 60 0) 0 64 0) := IMs (k := 0) (i := 64) (IMg (k := 0) (i := 60) i fz rfl) (show iv 0 1 0 from ⟨by decide, by decide⟩) rfl
    have k := SX12_keep (z := hs z1 0 60 0) 0 _ i2 fz
    refine ⟨_, zm_hs m rfl rfl, k.2, (hz_i rfl).trans e, RMz_60 r, ?_⟩
    have q24 : hs z1 0 60 0 0 24 = z1 0 24 := hz_i rfl
    have q0 : z1 0 24 = 0 := (IMz i 0 24 rfl).symm.trans e24
    rw [hz_e, q24, q0]
    exact Int.le_refl _
  · rw [hs_o (by simp), hs_o (by simp), hs_o (by simp), d8 _ _ (by decide), c7, e9]
    exact w5.1
  · intro k hk
    rw [e9] at hk
    rw [hs_o (by simp), hs_o (by simp), hs_o (by simp), hs_o (by simp), hs_o (by simp), hs_o (by simp), d8 _ _ (by decide), d8 _ _ (by decide), fk 8 k rfl, fk 9 k rfl, hs_o (by simp), hs_o (by simp), hs_o (by simp), hs_o (by simp), r3 8 k (by decide) (by decide), r3 9 k (by decide) (by decide), G0 8 k (by decide), G0 9 k (by decide), (c5 k (by omega)).1, (c5 k (by omega)).2]
    exact w5.2 k hk
  · rw [e25, k0]
    exact Int.le_refl _
  · rw [e24, kp24, fk 0 18 rfl]
theorem run_sim {z : zT} {h g : ph_H} (P : PN h g) (J : IT z g) : ∃ hE gE, RUN z hE gE ∧ FX11_run h = FX11_run_40 (FX10_record_s_29 hE) ∧ FX12_run g = FX12_run_150 gE := by
  have U := run_start P J
  obtain ⟨g3, a1, a2⟩ := turns_eq 2000 2000 0 (hs (hs (hs (FX3_begin_st (FX5_become_tn h 8 6) (FX5_become_tn h)) 35 11 0) 35 12 0) 35 14 0) (FX12_keep 0 (hs (hs (FX12_begin (hs (hs g 0 0 0) 0 33 0)) 0 60 0) 0 64 0)) U ⟨by decide, by decide⟩ (by decide) (by decide)
  obtain ⟨z', I⟩ := RH_IM a2.2.2.1
  have s300 : iv 0 300 (g3 0 24) := IMv I 0 24
  unfold iv at s300
  have k0 : (0 : Int32).toInt = 0 := by decide
  obtain ⟨gE, b1, b2⟩ := goon_eq 2000 2000 0 _ g3 a2 ⟨by decide, by decide⟩ (by omega) (by omega) (by decide)
  refine ⟨_, gE, b2, rfl, ?_⟩
  rw [← b1, ← a1]
  rfl
theorem over_eq' {z : zT} {h g : ph_H} (R : RC h g) (I : IM z g) (e : h 35 14 = g 0 25) (F : 0 ≤ (g 0 25).toInt) : FX10_howOver_s h = FX12_ending g := by
  have k0 : (0 : Int32).toInt = 0 := by decide
  have who := who_eq R I (a := 0) ⟨by decide, by decide⟩
  obtain ⟨_, o⟩ := over23 R I 2000 0 ⟨by decide, by decide⟩ (by decide)
  unfold FX10_howOver_s FX12_ending FX3_allStartedHaveEnded_s
  rw [e, who, o]
  by_cases c : g 0 25 = 0
  · simp (decide := true) only [c, ↓reduceIte]
  · rw [if_neg c, if_neg (fun w => c (tI (by rw [Int32.le_iff_toInt_le, k0] at w; omega)))]
theorem run_over {z : zT} {h g : ph_H} (U : RUN z h g) : FX10_howOver_s h = FX12_ending (hs g 0 36 1) := by
  obtain ⟨R, T, H, N, F, KK⟩ := U
  obtain ⟨z', I⟩ := RH_IM H
  refine over_eq' (R.rs rfl) (IMs (k := 0) (i := 36) I (show iv 0 1 1 from ⟨by decide, by decide⟩) rfl) ?_ ?_
  · rw [hs_o (by simp)]
    exact T.2.2.1
  · rw [hs_o (by simp)]
    exact F
/-- what run answers -/
theorem run_ans {z : zT} {h g : ph_H} (P : PN h g) (J : IT z g) : (FX11_run h).1 = (FX12_run g).1 := by
  obtain ⟨hE, gE, U, e1, e2⟩ := run_sim P J
  rw [e1, e2]
  have o := run_over U
  have a : (FX11_run_40 (FX10_record_s_29 hE)).1 = FX10_howOver_s hE := by
    unfold FX11_run_40 FX11_run_47 FX4_forget FX10_record_s_29
    simp [hs_get]
  have b : (FX12_run_150 gE).1 = FX12_ending (hs gE 0 36 1) := by
    unfold FX12_run_150 FX12_run_195
    split <;> simp [hs_get]
  rw [a, b, o]
end MG_48_xB3
section MG_48_xB4
/-! WHAT HOLDS BETWEEN TWO CALLS: the same program told, the same record of the latest run -/
def QF (h g : ph_H) : Prop := h 35 13 = g 0 37 ∧ h 35 11 = g 0 38 ∧ h 35 14 = g 0 39 ∧ g 0 40 = (if g 0 39 = 0 then -1 else FX10_latestThread h) ∧ h 35 15 = g 24 (g 0 38).toNatClampNeg ∧ h 35 12 = g 0 60 ∧ h 35 16 = g 0 41 ∧ h 0 10 = g 0 42 ∧ (∀ s : Nat, 0 < s → (s : Int) ≤ (g 0 38).toInt → TRs h g s) ∧ (∀ i : Nat, (i : Int) < (g 0 60).toInt → h 45 i = g 37 i ∧ h 46 i = g 38 i)
def QR (h g : ph_H) : Prop := h 0 8 = g 0 36 ∧ (¬ g 0 36 = 0 → QF h g)
def LR (h g : ph_H) : Prop := PN h g ∧ QR h g
theorem EQ_sub {W W' : Nat → Nat → Bool} {h0 h : ph_H} (q : ∀ k i, W' k i = true → W k i = true) (e : EQ W h0 h) : EQ W' h0 h := fun k i w => e k i (q k i w)
theorem pN_pC (k i : Nat) (q : pN k i = true) : pC k i = true := by
  unfold pN at q
  split at q <;> first | rfl | exact q | (exact absurd q (by decide))
theorem pCR_pC (k i : Nat) (q : pCR k i = true) : pC k i = true := by
  unfold pCR at q
  split at q <;> first | rfl | exact q | (exact absurd q (by decide))
theorem pVN_pV (k i : Nat) (q : pVN k i = true) : pV k i = true := by
  unfold pVN at q
  split at q
  · unfold pV
    simp only [Bool.or_eq_true, beq_iff_eq] at q ⊢
    omega
  all_goals first | rfl | (exact absurd q (by decide))
theorem pVR_pV (k i : Nat) (q : pVR k i = true) : pV k i = true := by
  unfold pVR at q
  split at q
  · unfold pV
    simp only [Bool.or_eq_true, beq_iff_eq] at q ⊢
    omega
  all_goals first | rfl | (exact absurd q (by decide))
theorem PN_fr {h h' g g' : ph_H} (P : PN h g) (e : EQ pN h h') (d : EQ pVN g g') : PN h' g' := by
  have c1 : ∀ i, h' 2 i = h 2 i := fun i => e _ _ rfl
  have c2 : ∀ i, h' 3 i = h 3 i := fun i => e _ _ rfl
  have c3 : ∀ i, h' 4 i = h 4 i := fun i => e _ _ rfl
  have c4 : ∀ i, h' 5 i = h 5 i := fun i => e _ _ rfl
  have c5 : ∀ i, h' 6 i = h 6 i := fun i => e _ _ rfl
  have c6 : ∀ i, h' 7 i = h 7 i := fun i => e _ _ rfl
  have c7 : h' 1 6 = h 1 6 := e _ _ rfl
  have c8 : h' 1 7 = h 1 7 := e _ _ rfl
  have d1 : ∀ i, g' 1 i = g 1 i := fun i => d _ _ rfl
  have d2 : ∀ i, g' 2 i = g 2 i := fun i => d _ _ rfl
  have d3 : ∀ i, g' 3 i = g 3 i := fun i => d _ _ rfl
  have d4 : ∀ i, g' 4 i = g 4 i := fun i => d _ _ rfl
  have d5 : ∀ i, g' 5 i = g 5 i := fun i => d _ _ rfl
  have d6 : ∀ i, g' 6 i = g 6 i := fun i => d _ _ rfl
  have d7 : ∀ i, g' 7 i = g 7 i := fun i => d _ _ rfl
  have d8 : ∀ i, g' 8 i = g 8 i := fun i => d _ _ rfl
  have d9 : ∀ i, g' 9 i = g 9 i := fun i => d _ _ rfl
  have e1 : g' 0 7 = g 0 7 := d _ _ rfl
  have e2 : g' 0 9 = g 0 9 := d _ _ rfl
  simpa only [PN, c1, c2, c3, c4, c5, c6, c7, c8, d1, d2, d3, d4, d5, d6, d7, d8, d9, e1, e2] using P
theorem QR_fr {h h' g g' : ph_H} (P : QR h g) (e : EQ pCR h h') (d : EQ pVR g g') : QR h' g' := by
  have c1 : ∀ i, h' 35 i = h 35 i := fun i => e _ _ rfl
  have c2 : ∀ i, h' 36 i = h 36 i := fun i => e _ _ rfl
  have c3 : ∀ i, h' 37 i = h 37 i := fun i => e _ _ rfl
  have c4 : ∀ i, h' 38 i = h 38 i := fun i => e _ _ rfl
  have c5 : ∀ i, h' 39 i = h 39 i := fun i => e _ _ rfl
  have c6 : ∀ i, h' 40 i = h 40 i := fun i => e _ _ rfl
  have c7 : ∀ i, h' 41 i = h 41 i := fun i => e _ _ rfl
  have c8 : ∀ i, h' 42 i = h 42 i := fun i => e _ _ rfl
  have c9 : ∀ i, h' 43 i = h 43 i := fun i => e _ _ rfl
  have c10 : ∀ i, h' 44 i = h 44 i := fun i => e _ _ rfl
  have c11 : ∀ i, h' 45 i = h 45 i := fun i => e _ _ rfl
  have c12 : ∀ i, h' 46 i = h 46 i := fun i => e _ _ rfl
  have c13 : h' 0 8 = h 0 8 := e _ _ rfl
  have c14 : h' 0 10 = h 0 10 := e _ _ rfl
  have d1 : ∀ i, g' 20 i = g 20 i := fun i => d _ _ rfl
  have d2 : ∀ i, g' 21 i = g 21 i := fun i => d _ _ rfl
  have d3 : ∀ i, g' 24 i = g 24 i := fun i => d _ _ rfl
  have d4 : ∀ i, g' 29 i = g 29 i := fun i => d _ _ rfl
  have d5 : ∀ i, g' 30 i = g 30 i := fun i => d _ _ rfl
  have d6 : ∀ i, g' 31 i = g 31 i := fun i => d _ _ rfl
  have d7 : ∀ i, g' 32 i = g 32 i := fun i => d _ _ rfl
  have d8 : ∀ i, g' 33 i = g 33 i := fun i => d _ _ rfl
  have d9 : ∀ i, g' 34 i = g 34 i := fun i => d _ _ rfl
  have d10 : ∀ i, g' 35 i = g 35 i := fun i => d _ _ rfl
  have d11 : ∀ i, g' 37 i = g 37 i := fun i => d _ _ rfl
  have d12 : ∀ i, g' 38 i = g 38 i := fun i => d _ _ rfl
  have e36 : g' 0 36 = g 0 36 := d _ _ rfl
  have e37 : g' 0 37 = g 0 37 := d _ _ rfl
  have e38 : g' 0 38 = g 0 38 := d _ _ rfl
  have e39 : g' 0 39 = g 0 39 := d _ _ rfl
  have e40 : g' 0 40 = g 0 40 := d _ _ rfl
  have e41 : g' 0 41 = g 0 41 := d _ _ rfl
  have e42 : g' 0 42 = g 0 42 := d _ _ rfl
  have e60 : g' 0 60 = g 0 60 := d _ _ rfl
  simpa only [QR, QF, TRs, FX10_latestThread, c1, c2, c3, c4, c5, c6, c7, c8, c9, c10, c11, c12, c13, c14, d1, d2, d3, d4, d5, d6, d7, d8, d9, d10, d11, d12, e36, e37, e38, e39, e40, e41, e42, e60] using P
theorem LR_fr {h h' g g' : ph_H} (P : LR h g) (e : EQ pC h h') (d : EQ pV g g') : LR h' g' := ⟨PN_fr P.1 (EQ_sub pN_pC e) (EQ_sub pVN_pV d), QR_fr P.2 (EQ_sub pCR_pC e) (EQ_sub pVR_pV d)⟩
theorem EQ_low {W : Nat → Nat → Bool} {h h' : ph_H} (q : ∀ k i, 60 ≤ k → W k i = false) (e : ∀ k, k < 60 → h' k = h k) : EQ W h h' := fun k i w => by
  by_cases c : k < 60
  · rw [e k c]
  · rw [q k i (by omega)] at w
    exact absurd w (by decide)
theorem pC_60 (k i : Nat) (q : 60 ≤ k) : pC k i = false := by
  unfold pC
  split <;> first | omega | rfl
theorem LR_low {h h' g : ph_H} (P : LR h g) (e : ∀ k, k < 60 → h' k = h k) : LR h' g := LR_fr P (EQ_low pC_60 e) (EQ_r g)
/-! the calls that tell a program -/
theorem isIn_iff {x : Int32} {l u : Int64} : FX12_isIn x.toInt64 l u = 0 ↔ ¬ (l.toInt ≤ x.toInt ∧ x.toInt ≤ u.toInt) := by
  constructor
  · intro h
    have := isIn_f h
    rw [Int64.le_iff_toInt_le, Int64.le_iff_toInt_le, Int32.toInt_toInt64] at this
    exact this
  · intro h
    apply Classical.byContradiction
    intro c
    have := isIn_t c
    rw [Int64.le_iff_toInt_le, Int64.le_iff_toInt_le, Int32.toInt_toInt64] at this
    exact h this
theorem isT_iff (x : Int32) : FX11_isThread x = 0 ↔ ¬ (0 ≤ x.toInt ∧ x.toInt ≤ 3) := by
  have h0 : (0 : Int32).toInt = 0 := by decide
  have h4 : (4 : Int32).toInt = 4 := by decide
  unfold FX11_isThread
  by_cases a : x < 0
  · rw [if_pos a]
    rw [Int32.lt_iff_toInt_lt, h0] at a
    exact ⟨fun _ => by omega, fun _ => rfl⟩
  · rw [if_neg a]
    rw [Int32.lt_iff_toInt_lt, h0] at a
    by_cases b : 4 ≤ x
    · rw [if_pos b]
      rw [Int32.le_iff_toInt_le, h4] at b
      exact ⟨fun _ => by omega, fun _ => rfl⟩
    · rw [if_neg b]
      rw [Int32.le_iff_toInt_le, h4] at b
      exact ⟨fun w => absurd w (by decide), fun w => by omega⟩
theorem isC_iff (x : Int32) : FX11_isCell x = 0 ↔ ¬ (0 ≤ x.toInt ∧ x.toInt ≤ 11) := by
  have h0 : (0 : Int32).toInt = 0 := by decide
  have h4 : (12 : Int32).toInt = 12 := by decide
  unfold FX11_isCell
  by_cases a : x < 0
  · rw [if_pos a]
    rw [Int32.lt_iff_toInt_lt, h0] at a
    exact ⟨fun _ => by omega, fun _ => rfl⟩
  · rw [if_neg a]
    rw [Int32.lt_iff_toInt_lt, h0] at a
    by_cases b : 12 ≤ x
    · rw [if_pos b]
      rw [Int32.le_iff_toInt_le, h4] at b
      exact ⟨fun _ => by omega, fun _ => rfl⟩
    · rw [if_neg b]
      rw [Int32.le_iff_toInt_le, h4] at b
      exact ⟨fun w => absurd w (by decide), fun w => by omega⟩
theorem PN_00 {h g : ph_H} (P : PN h g) : PN h (hs g 0 0 0) := PN_fr P (EQ_r h) (EQ_s rfl (EQ_r g))
theorem l0 : (0 : Int64).toInt = 0 := by decide
theorem l1 : (1 : Int64).toInt = 1 := by decide
theorem l3 : (3 : Int64).toInt = 3 := by decide
theorem l11 : (11 : Int64).toInt = 11 := by decide
theorem l19 : (19 : Int64).toInt = 19 := by decide
theorem l100 : (100 : Int64).toInt = 100 := by decide
theorem PN_clear {h g : ph_H} (P : PN h g) (a : Int32) : PN (FX11_clear a h).2 (FX12_clear a g).2 := by
  unfold FX11_clear FX12_clear
  by_cases c : 0 ≤ a.toInt ∧ a.toInt ≤ 3
  · rw [if_neg (fun w => (isT_iff a).mp w c), if_neg (fun w => isIn_iff.mp w (by rw [l0, l3]; exact c))]
    obtain ⟨p1, p2, p3, p4, p5, p6⟩ := PN_00 P
    refine ⟨fun t ht => ?_, ?_, ?_, ?_, ?_, ?_⟩
    · by_cases e : t = a.toNatClampNeg
      · simp [hs_get, e]
      · simpa [hs_get, e] using p1 t ht
    · simpa [hs_get] using p2
    · simpa [hs_get] using p3
    · simpa [hs_get] using p4
    · simpa [hs_get] using p5
    · simpa [hs_get] using p6
  · rw [if_pos ((isT_iff a).mpr c), if_pos (isIn_iff.mpr (by rw [l0, l3]; exact c))]
    exact PN_00 P
theorem PN_cell {h g : ph_H} (P : PN h g) (a v : Int32) : PN (FX11_cell a v h).2 (FX12_cell a v g).2 := by
  unfold FX11_cell FX12_cell
  by_cases c : 0 ≤ a.toInt ∧ a.toInt ≤ 11
  · rw [if_neg (fun w => (isC_iff a).mp w c), if_neg (fun w => isIn_iff.mp w (by rw [l0, l11]; exact c))]
    obtain ⟨p1, p2, p3, p4, p5, p6⟩ := PN_00 P
    refine ⟨?_, ?_, fun t ht => ?_, ?_, ?_, ?_⟩
    · simpa [hs_get] using p1
    · simpa [hs_get] using p2
    · by_cases e : t = a.toNatClampNeg
      · simp [hs_get, e]
      · simpa [hs_get, e] using p3 t ht
    · simpa [hs_get] using p4
    · simpa [hs_get] using p5
    · simpa [hs_get] using p6
  · rw [if_pos ((isC_iff a).mpr c), if_pos (isIn_iff.mpr (by rw [l0, l11]; exact c))]
    exact PN_00 P
theorem PN_freely {h g : ph_H} (P : PN h g) : PN (FX11_freely h).2 (FX12_freely g).2 := by
  unfold FX11_freely FX12_freely
  obtain ⟨p1, p2, p3, p4, p5, p6⟩ := PN_00 P
  have k0 : (0 : Int32).toInt = 0 := by decide
  dsimp only
  refine ⟨?_, ?_, ?_, ?_, ⟨?_, fun k hk => ?_⟩, ?_⟩
  · simpa [hs_get] using p1
  · simpa [hs_get] using p2
  · simpa [hs_get] using p3
  · simpa [hs_get] using p4
  · simp [hs_get]
  · rw [hs_self, k0] at hk
    omega
  · simpa [hs_get] using p6
theorem PN_input {z : zT} {h g : ph_H} (P : PN h g) (J : IT z g) (a : Int32) : PN (FX11_input a h).2 (FX12_input a g).2 := by
  unfold FX11_input FX12_input
  have P' := PN_00 P
  obtain ⟨p1, p2, p3, p4, p5, p6⟩ := P
  have f : iv 0 30 (g 0 7) := ITv J 0 7
  have fn := iv_nat f rfl
  unfold iv at f
  have k30 : (30 : Int32).toInt = 30 := by decide
  have k1 : (1 : Int32).toInt = 1 := by decide
  rw [p4.1]
  by_cases c : g 0 7 = 30
  · rw [if_pos c, if_neg (by rw [c]; decide)]
    exact P'
  · have c' : ¬ (g 0 7).toInt = 30 := fun w => c (tI (w.trans k30.symm))
    have e1 : (g 0 7 + 1).toInt = (g 0 7).toInt + 1 := by rw [ti_add (by omega) (by omega), k1]
    rw [if_neg c, if_pos (by rw [Int32.lt_iff_toInt_lt, k30]; omega)]
    dsimp only
    refine ⟨?_, ?_, ?_, ⟨?_, fun k hk => ?_⟩, ?_, ?_⟩
    · simpa [hs_get] using p1
    · simpa [hs_get] using p2
    · simpa [hs_get] using p3
    · simp [hs_get]
    · rw [hs_self, e1] at hk
      by_cases e : k = (g 0 7).toNatClampNeg
      · simp [hs_get, e]
      · simpa [hs_get, e] using p4.2 k (by omega)
    · simpa [hs_get] using p5
    · simpa [hs_get] using p6
theorem PN_turn {z : zT} {h g : ph_H} (P : PN h g) (J : IT z g) (a n : Int32) : PN (FX11_turn a n h).2 (FX12_turn a n g).2 := by
  unfold FX11_turn FX12_turn
  have P' := PN_00 P
  obtain ⟨p1, p2, p3, p4, p5, p6⟩ := P
  have f : iv 0 40 (g 0 9) := ITv J 0 9
  have fn := iv_nat f rfl
  unfold iv at f
  have k40 : (40 : Int32).toInt = 40 := by decide
  have k1 : (1 : Int32).toInt = 1 := by decide
  have k100 : (100 : Int32).toInt = 100 := by decide
  rw [p5.1]
  by_cases c : 0 ≤ a.toInt ∧ a.toInt ≤ 3
  · rw [if_neg (fun w => (isT_iff a).mp w c), if_neg (fun w => isIn_iff.mp w (by rw [l0, l3]; exact c))]
    by_cases d : 1 ≤ n.toInt ∧ n.toInt ≤ 100
    · rw [if_neg (by rw [Int32.lt_iff_toInt_lt, k1]; omega), if_pos (by rw [Int32.le_iff_toInt_le, k100]; omega), if_neg (fun w => isIn_iff.mp w (by rw [l1, l100]; exact d))]
      by_cases e : g 0 9 = 40
      · rw [if_pos e, if_neg (by rw [e]; decide)]
        exact P'
      · have e' : ¬ (g 0 9).toInt = 40 := fun w => e (tI (w.trans k40.symm))
        have e1 : (g 0 9 + 1).toInt = (g 0 9).toInt + 1 := by rw [ti_add (by omega) (by omega), k1]
        rw [if_neg e, if_pos (by rw [Int32.lt_iff_toInt_lt, k40]; omega)]
        dsimp only
        refine ⟨?_, ?_, ?_, ?_, ⟨?_, fun k hk => ?_⟩, ?_⟩
        · simpa [hs_get] using p1
        · simpa [hs_get] using p2
        · simpa [hs_get] using p3
        · simpa [hs_get] using p4
        · simp [hs_get]
        · rw [hs_self, e1] at hk
          by_cases e : k = (g 0 9).toNatClampNeg
          · simp [hs_get, e]
          · simpa [hs_get, e] using p5.2 k (by omega)
        · simpa [hs_get] using p6
    · rw [if_pos (isIn_iff.mpr (by rw [l1, l100]; exact d))]
      by_cases e : n < 1
      · rw [if_pos e]
        exact P'
      · rw [if_neg e, if_neg (by
          rw [Int32.lt_iff_toInt_lt, k1] at e
          rw [Int32.le_iff_toInt_le, k100]
          omega)]
        exact P'
  · rw [if_pos ((isT_iff a).mpr c), if_pos (isIn_iff.mpr (by rw [l0, l3]; exact c))]
    exact P'
theorem PN_code {z : zT} {h g : ph_H} (P : PN h g) (J : IT z g) (a o x y w : Int32) : PN (FX11_code a o x y w h).2 (FX12_code a o x y w g).2 := by
  unfold FX11_code FX12_code
  have P' := PN_00 P
  obtain ⟨p1, p2, p3, p4, p5, p6⟩ := P
  have f : iv 0 24 (g 1 a.toNatClampNeg) := ITv J 1 _
  have k24 : (24 : Int32).toInt = 24 := by decide
  have k0 : (0 : Int32).toInt = 0 := by decide
  have k19 : (19 : Int32).toInt = 19 := by decide
  by_cases c : 0 ≤ a.toInt ∧ a.toInt ≤ 3
  · have fa : iv 0 3 a := c
    have an := iv_nat fa rfl
    rw [if_neg (fun w => (isT_iff a).mp w c), if_neg (fun w => isIn_iff.mp w (by rw [l0, l3]; exact c)), p1 a.toNatClampNeg (by omega)]
    by_cases d : 0 ≤ o.toInt ∧ o.toInt ≤ 19
    · rw [if_neg (by rw [Int32.lt_iff_toInt_lt, k0]; omega), if_pos (by rw [Int32.le_iff_toInt_le, k19]; omega), if_neg (fun w => isIn_iff.mp w (by rw [l0, l19]; exact d))]
      by_cases e : g 1 a.toNatClampNeg = 24
      · rw [if_pos e, if_neg (by rw [e]; decide)]
        exact P'
      · have e' : ¬ (g 1 a.toNatClampNeg).toInt = 24 := fun w => e (tI (w.trans k24.symm))
        unfold iv at f
        have f3 : iv 0 23 (g 1 a.toNatClampNeg) := ⟨f.1, by omega⟩
        rw [if_neg e, if_pos (by rw [Int32.lt_iff_toInt_lt, k24]; omega)]
        unfold FX5_firstPart_n
        obtain ⟨i1, i96⟩ := part_ix (j := 1) (v := 1) fa f3 (by decide) (by decide)
        obtain ⟨i2, -⟩ := part_ix (j := 2) (v := 2) fa f3 (by decide) (by decide)
        obtain ⟨i3, -⟩ := part_ix (j := 3) (v := 3) fa f3 (by decide) (by decide)
        have i0 := part_ix0 fa f3
        rw [i0, i1, i2, i3]
        generalize ((24 * a) + g 1 a.toNatClampNeg).toNatClampNeg = N at *
        dsimp only
        refine ⟨fun t ht => ?_, fun k hk => ?_, ?_, ?_, ?_, fun k => ?_⟩
        · by_cases q : t = a.toNatClampNeg
          · simp [hs_get, q]
          · simpa [hs_get, q] using p1 t ht
        · obtain ⟨u0, u1, u2, u3⟩ := p2 k hk
          by_cases q : k = N
          · subst q
            refine ⟨?_, ?_, ?_, ?_⟩
            · rw [hs_o (by simp), hs_o (by omega), hs_o (by omega), hs_o (by omega), hs_self, hs_o (by simp), hs_o (by simp), hs_o (by simp), hs_o (by simp), hs_self]
            · rw [hs_o (by simp), hs_o (by omega), hs_o (by omega), hs_self, hs_o (by simp), hs_o (by simp), hs_o (by simp), hs_self]
            · rw [hs_o (by simp), hs_o (by omega), hs_self, hs_o (by simp), hs_o (by simp), hs_self]
            · rw [hs_o (by simp), hs_self, hs_o (by simp), hs_self]
          · refine ⟨?_, ?_, ?_, ?_⟩
            · rw [hs_o (by simp), hs_o (by omega), hs_o (by omega), hs_o (by omega), hs_o (by omega), hs_o (by simp), hs_o (by simp), hs_o (by simp), hs_o (by simp), hs_o (by omega), hs_o (by simp)]
              exact u0
            · rw [hs_o (by simp), hs_o (by omega), hs_o (by omega), hs_o (by omega), hs_o (by omega), hs_o (by simp), hs_o (by simp), hs_o (by simp), hs_o (by omega), hs_o (by simp), hs_o (by simp)]
              exact u1
            · rw [hs_o (by simp), hs_o (by omega), hs_o (by omega), hs_o (by omega), hs_o (by omega), hs_o (by simp), hs_o (by simp), hs_o (by omega), hs_o (by simp), hs_o (by simp), hs_o (by simp)]
              exact u2
            · rw [hs_o (by simp), hs_o (by omega), hs_o (by omega), hs_o (by omega), hs_o (by omega), hs_o (by simp), hs_o (by omega), hs_o (by simp), hs_o (by simp), hs_o (by simp), hs_o (by simp)]
              exact u3
        · simpa [hs_get] using p3
        · simpa [hs_get] using p4
        · simpa [hs_get] using p5
        · by_cases q : k = N
          · rw [hs_o (by simp), hs_o (by simp), hs_o (by simp), hs_o (by simp), q, hs_self]
            exact d
          · rw [hs_o (by simp), hs_o (by simp), hs_o (by simp), hs_o (by simp), hs_o (by omega), hs_o (by simp)]
            exact p6 k
    · rw [if_pos (isIn_iff.mpr (by rw [l0, l19]; exact d))]
      by_cases e : o < 0
      · rw [if_pos e]
        exact P'
      · rw [if_neg e, if_neg (by
          rw [Int32.lt_iff_toInt_lt, k0] at e
          rw [Int32.le_iff_toInt_le, k19]
          omega)]
        exact P'
  · rw [if_pos ((isT_iff a).mpr c), if_pos (isIn_iff.mpr (by rw [l0, l3]; exact c))]
    exact P'
theorem LR_code {z : zT} {h g : ph_H} (P : LR h g) (J : IT z g) (a o x y w : Int32) : LR (FX11_code a o x y w h).2 (FX12_code a o x y w g).2 := ⟨PN_code P.1 J a o x y w, QR_fr P.2 (frCR_FX11_code _ _ _ _ _ _ (EQ_r h)) (frVR_FX12_code _ _ _ _ _ _ (EQ_r g))⟩
theorem LR_clear {z : zT} {h g : ph_H} (P : LR h g) (J : IT z g) (a : Int32) : LR (FX11_clear a h).2 (FX12_clear a g).2 := ⟨PN_clear P.1 a, QR_fr P.2 (frCR_FX11_clear _ _ (EQ_r h)) (frVR_FX12_clear _ _ (EQ_r g))⟩
theorem LR_cell {z : zT} {h g : ph_H} (P : LR h g) (J : IT z g) (a v : Int32) : LR (FX11_cell a v h).2 (FX12_cell a v g).2 := ⟨PN_cell P.1 a v, QR_fr P.2 (frCR_FX11_cell _ _ _ (EQ_r h)) (frVR_FX12_cell _ _ _ (EQ_r g))⟩
theorem LR_input {z : zT} {h g : ph_H} (P : LR h g) (J : IT z g) (a : Int32) : LR (FX11_input a h).2 (FX12_input a g).2 := ⟨PN_input P.1 J a, QR_fr P.2 (frCR_FX11_input _ _ (EQ_r h)) (frVR_FX12_input _ _ (EQ_r g))⟩
theorem LR_turn {z : zT} {h g : ph_H} (P : LR h g) (J : IT z g) (a n : Int32) : LR (FX11_turn a n h).2 (FX12_turn a n g).2 := ⟨PN_turn P.1 J a n, QR_fr P.2 (frCR_FX11_turn _ _ _ (EQ_r h)) (frVR_FX12_turn _ _ _ (EQ_r g))⟩
theorem LR_freely {z : zT} {h g : ph_H} (P : LR h g) (J : IT z g) : LR (FX11_freely h).2 (FX12_freely g).2 := ⟨PN_freely P.1, QR_fr P.2 (frCR_FX11_freely _ (EQ_r h)) (frVR_FX12_freely _ (EQ_r g))⟩
theorem LR_run {z : zT} {h g : ph_H} (P : LR h g) (J : IT z g) : LR (FX11_run h).2 (FX12_run g).2 := by
  refine ⟨PN_fr P.1 (frN_FX11_run _ (EQ_r h)) (frVN_FX12_run _ (EQ_r g)), ?_⟩
  obtain ⟨hE, gE, U, e1, e2⟩ := run_sim P.1 J
  have o := run_over U
  obtain ⟨R, T, H, N, F, KK⟩ := U
  obtain ⟨t1, t2, t3, t4, t5, t6⟩ := T
  have k0 : (0 : Int32).toInt = 0 := by decide
  rw [e1, e2]
  have X : (FX11_run_40 (FX10_record_s_29 hE)).2 = hs (hs (hs (hs (hs (hs (hs hE 35 13 (FX10_howOver_s hE)) 35 15 (hE 15 10)) 35 16 (hE 15 12)) 47 6 0) 0 8 1) 0 9 (hE 35 11)) 0 10 (hE 35 11) := by
    unfold FX11_run_40 FX11_run_47 FX4_forget FX10_record_s_29
    simp [hs_get]
  have Y : (FX12_run_150 gE).2 = hs (hs (hs (hs (hs (hs (hs gE 0 36 1) 0 37 (FX12_ending (hs gE 0 36 1))) 0 38 (gE 0 24)) 0 39 (gE 0 25)) 0 40 (if gE 0 25 ≤ 0 then -1 else gE 0 26)) 0 41 (gE 0 23)) 0 42 (gE 0 24) := by
    unfold FX12_run_150 FX12_run_195
    split <;> simp [hs_get]
  rw [X, Y]
  have L : FX10_latestThread (hs (hs (hs (hs (hs (hs (hs hE 35 13 (FX10_howOver_s hE)) 35 15 (hE 15 10)) 35 16 (hE 15 12)) 47 6 0) 0 8 1) 0 9 (hE 35 11)) 0 10 (hE 35 11)) = FX10_latestThread hE := by
    unfold FX10_latestThread
    simp [hs_get]
  refine ⟨by simp [hs_get], fun _ => ⟨?_, ?_, ?_, ?_, ?_, ?_, ?_, ?_, ?_, ?_⟩⟩
  · simp [hs_get, o]
  · simp [hs_get, t1]
  · simp [hs_get, t3]
  · rw [L, t6]
    simp only [hs_get]
    by_cases c : gE 0 25 = 0
    · simp (decide := true) [c]
    · have : ¬ gE 0 25 ≤ 0 := fun w => c (tI (by rw [Int32.le_iff_toInt_le, k0] at w; omega))
      simp [c, this]
  · simp only [hs_get]
    simp [KK, R.2.2.2.1.1]
  · simp [hs_get, t2]
  · simp [hs_get, R.2.2.2.2.1.1]
  · simp [hs_get, t1]
  · intro s a b
    have := t4 s a (by simpa [hs_get] using b)
    simpa [TRs, hs_get] using this
  · intro i hi
    have := t5 i (by simpa [hs_get] using hi)
    simpa [hs_get] using this
theorem isM_iff {h : ph_H} (x : Int32) : FX11_isMoment x h = 0 ↔ ¬ (0 ≤ x.toInt ∧ x.toInt ≤ (h 35 11).toInt) := by
  have h0 : (0 : Int32).toInt = 0 := by decide
  unfold FX11_isMoment
  by_cases a : x < 0
  · rw [if_pos a]
    rw [Int32.lt_iff_toInt_lt, h0] at a
    exact ⟨fun _ => by omega, fun _ => rfl⟩
  · rw [if_neg a]
    rw [Int32.lt_iff_toInt_lt, h0] at a
    by_cases b : h 35 11 < x
    · rw [if_pos b]
      rw [Int32.lt_iff_toInt_lt] at b
      exact ⟨fun _ => by omega, fun _ => rfl⟩
    · rw [if_neg b]
      rw [Int32.lt_iff_toInt_lt] at b
      exact ⟨fun w => absurd w (by decide), fun w => by omega⟩
theorem LR_00 {h g : ph_H} (P : LR h g) : LR h (hs g 0 0 0) := LR_fr P (EQ_r h) (EQ_s rfl (EQ_r g))
theorem LR_view {h g : ph_H} (P : LR h g) (n : ¬ g 0 36 = 0) (v : Int32) : LR (hs h 0 10 v) (hs g 0 42 v) := by
  obtain ⟨P, Q, q⟩ := P
  refine ⟨PN_fr P (EQ_s rfl (EQ_r h)) (EQ_s rfl (EQ_r g)), by simpa [hs_get] using Q, fun _ => ?_⟩
  obtain ⟨q1, q2, q3, q4, q5, q6, q7, q8, q9, q10⟩ := q n
  refine ⟨by simpa [hs_get] using q1, by simpa [hs_get] using q2, by simpa [hs_get] using q3, ?_, by simpa [hs_get] using q5, by simpa [hs_get] using q6, by simpa [hs_get] using q7, by simp [hs_get], fun s a b => ?_, fun i hi => ?_⟩
  · have : FX10_latestThread (hs h 0 10 v) = FX10_latestThread h := by
      unfold FX10_latestThread
      simp [hs_get]
    rw [this]
    simpa [hs_get] using q4
  · have := q9 s a (by simpa [hs_get] using b)
    simpa [TRs, hs_get] using this
  · have := q10 i (by simpa [hs_get] using hi)
    simpa [hs_get] using this
theorem to_both {h g : ph_H} (P : LR h g) (s : Int32) : (FX11_to s h).1 = (FX12_to s g).1 ∧ LR (FX11_to s h).2 (FX12_to s g).2 := by
  have Pz := LR_00 P
  have Q := P.2
  unfold FX11_to FX12_to
  rw [Q.1]
  by_cases c : g 0 36 = 0
  · rw [if_pos c, if_pos c]
    exact ⟨rfl, Pz⟩
  · rw [if_neg c, if_neg c]
    have q := Q.2 c
    have e : FX11_isMoment s h = 0 ↔ FX12_isIn s.toInt64 0 ((g 0 38).toInt64) = 0 := by
      rw [isM_iff, isIn_iff, l0, Int32.toInt_toInt64, q.2.1]
    by_cases d : FX12_isIn s.toInt64 0 ((g 0 38).toInt64) = 0
    · rw [if_pos d, if_pos (e.mpr d)]
      exact ⟨rfl, Pz⟩
    · rw [if_neg d, if_neg (fun w => d (e.mp w))]
      exact ⟨rfl, LR_view Pz (by rw [hs_o (by simp)]; exact c) s⟩
theorem back_both {h g : ph_H} (P : LR h g) (n : Int32) : (FX11_back n h).1 = (FX12_back n g).1 ∧ LR (FX11_back n h).2 (FX12_back n g).2 := by
  have Pz := LR_00 P
  have Q := P.2
  unfold FX11_back FX12_back
  rw [Q.1]
  by_cases c : g 0 36 = 0
  · rw [if_pos c, if_pos c]
    exact ⟨rfl, Pz⟩
  · rw [if_neg c, if_neg c]
    have q := Q.2 c
    rw [q.2.2.2.2.2.2.2.1]
    by_cases d : n < 0
    · rw [if_pos d, if_pos d]
      exact ⟨rfl, Pz⟩
    · rw [if_neg d, if_neg d]
      by_cases e : n ≤ g 0 42
      · rw [if_pos e, if_pos e]
        exact ⟨rfl, LR_view Pz (by rw [hs_o (by simp)]; exact c) _⟩
      · rw [if_neg e, if_neg e]
        exact ⟨rfl, Pz⟩
end MG_48_xB4
section MG_48_xB5
/-! what told, change and step answer -/
theorem told_ans {z : zT} {h g : ph_H} (P : LR h g) (J : IT z g) (a : Int32) : FX11_told a h = (FX12_told a g).1 := by
  obtain ⟨-, Q, q⟩ := P
  unfold FX11_told FX12_told
  rw [Q]
  by_cases c : g 0 36 = 0
  · rw [if_pos c, if_pos c]
  · obtain ⟨q1, q2, q3, q4, q5, q6, q7, q8, q9, q10⟩ := q c
    rw [if_neg c, if_neg c, q1, q2, q3, q5, q6, q7]
    repeat' split
    all_goals first | rfl | (rw [q4]; simp [*])
theorem change_ans {z : zT} {h g : ph_H} (P : LR h g) (J : IT z g) (a b : Int32) : FX11_change a b h = (FX12_change a b g).1 := by
  obtain ⟨-, Q, q⟩ := P
  have k0 : (0 : Int32).toInt = 0 := by decide
  have k1 : (1 : Int32).toInt = 1 := by decide
  unfold FX11_change FX12_change FX12_change_36
  rw [Q]
  by_cases c : g 0 36 = 0
  · rw [if_pos c, if_pos c]
  · obtain ⟨q1, q2, q3, q4, q5, q6, q7, q8, q9, q10⟩ := q c
    rw [if_neg c, if_neg c, q6]
    by_cases d : a < 0
    · rw [if_pos d, if_pos d]
    · rw [if_neg d, if_neg d]
      by_cases e : g 0 60 ≤ a
      · rw [if_pos e, if_pos e]
      · rw [if_neg e, if_neg e]
        rw [Int32.lt_iff_toInt_lt, k0] at d
        rw [Int32.le_iff_toInt_le] at e
        have an : (a.toNatClampNeg : Int) = a.toInt := by
          rw [← Int32.toNat_toInt]
          omega
        obtain ⟨r1, r2⟩ := q10 a.toNatClampNeg (by omega)
        rw [r1, r2]
        by_cases f : 0 ≤ b.toInt ∧ b.toInt ≤ 1
        · rw [if_neg (fun w => isIn_iff.mp w (by rw [l0, l1]; exact f)), if_neg (by rw [Int32.lt_iff_toInt_lt, k0]; omega), if_pos (by rw [Int32.le_iff_toInt_le, k1]; omega)]
          split <;> rfl
        · rw [if_pos (isIn_iff.mpr (by rw [l0, l1]; exact f))]
          by_cases u : b < 0
          · rw [if_pos u]
          · rw [if_neg u, if_neg (by
              rw [Int32.lt_iff_toInt_lt, k0] at u
              rw [Int32.le_iff_toInt_le, k1]
              omega)]
theorem step_ans {z : zT} {h g : ph_H} (P : LR h g) (J : IT z g) (a b : Int32) : FX11_step a b h = (FX12_step_ a b g).1 := by
  obtain ⟨-, Q, q⟩ := P
  have k0 : (0 : Int32).toInt = 0 := by decide
  have k1 : (1 : Int32).toInt = 1 := by decide
  unfold FX11_step FX12_step_
  rw [Q]
  by_cases c : g 0 36 = 0
  · rw [if_pos c, if_pos c]
  · obtain ⟨q1, q2, q3, q4, q5, q6, q7, q8, q9, q10⟩ := q c
    rw [if_neg c, if_neg c, q2]
    by_cases f : 1 ≤ a.toInt ∧ a.toInt ≤ (g 0 38).toInt
    · have an : (a.toNatClampNeg : Int) = a.toInt := by
        rw [← Int32.toNat_toInt]
        omega
      obtain ⟨r1, r2, r3, r4, r5, r6, r7, r8⟩ := q9 a.toNatClampNeg (by omega) (by omega)
      rw [if_neg (by rw [Int32.lt_iff_toInt_lt, k1]; omega), if_pos (by rw [Int32.le_iff_toInt_le]; omega), if_neg (fun w => isIn_iff.mp w (by rw [l1, Int32.toInt_toInt64]; exact f)), r1, r2, r3, r4, r5, r6]
      repeat' split
      all_goals rfl
    · rw [if_pos (c := FX12_isIn a.toInt64 1 ((g 0 38).toInt64) = 0) (isIn_iff.mpr (by rw [l1, Int32.toInt_toInt64]; exact f))]
      by_cases u : a < 1
      · rw [if_pos u]
      · rw [if_neg u, if_neg (by
          rw [Int32.lt_iff_toInt_lt, k1] at u
          rw [Int32.le_iff_toInt_le]
          omega)]
end MG_48_xB5
section MG_48_xB6
/-! what last and next answer -/
theorem pl_no {v p : Int32} (a : PLp v) (n : p < 0) (m : ¬ p = -2) : ¬ v = p := by
  have k0 : (0 : Int32).toInt = 0 := by decide
  rw [Int32.lt_iff_toInt_lt, k0] at n
  rintro rfl
  rcases a with a | a
  · exact m a
  · omega
theorem next_in {h g : ph_H} {p : Int32} (m : ¬ p = -2) (e : h 35 11 = g 0 38) (r : ∀ s : Nat, 0 < s → (s : Int) ≤ (g 0 38).toInt → h 39 s = g 32 s ∧ PLp (g 32 s)) (b : (g 0 38).toInt ≤ 300) : ∀ (q : Nat) (x : Int32), 0 < x.toInt → x.toInt ≤ 301 → FX10_nextRead_12 q p x h = (FX12_next_35 q p x g).1
  | 0, x, _, _ => rfl
  | q + 1, x, x0, x1 => by
    have k1 : (1 : Int32).toInt = 1 := by decide
    unfold FX10_nextRead_12 FX12_next_35 FX12_next_59
    rw [e]
    by_cases c : g 0 38 < x
    · rw [if_pos c, if_pos c]
    · rw [if_neg c, if_neg c]
      rw [Int32.lt_iff_toInt_lt] at c
      have xn : (x.toNatClampNeg : Int) = x.toInt := by
        rw [← Int32.toNat_toInt]
        omega
      have e1 : (x + 1).toInt = x.toInt + 1 := by rw [ti_add (by omega) (by omega), k1]
      obtain ⟨r1, r2⟩ := r x.toNatClampNeg (by omega) (by omega)
      have ih := next_in m e r b q (x + 1) (by omega) (by omega)
      rw [r1]
      by_cases d : g 32 x.toNatClampNeg = p
      · rw [if_pos d, if_pos d]
        by_cases n : p < 0
        · exact absurd d (pl_no r2 n m)
        · rw [if_neg n]
      · rw [if_neg d, if_neg d]
        exact ih
theorem next_m2 {g : ph_H} : ∀ (q : Nat) (x : Int32), (FX12_next_35 q (-2) x g).1 = 0
  | 0, x => rfl
  | q + 1, x => by
    unfold FX12_next_35 FX12_next_59
    split
    · rfl
    · split
      · rw [if_pos (by decide)]
        exact next_m2 q (x + 1)
      · exact next_m2 q (x + 1)
theorem steps_iv {z : zT} {g : ph_H} (J : IT z g) : 0 ≤ (g 0 38).toInt ∧ (g 0 38).toInt ≤ 300 := ITv J 0 38
theorem next_00 (q : Nat) (p x : Int32) (g : ph_H) : (FX12_next_35 q p x (hs g 0 0 0)).1 = (FX12_next_35 q p x g).1 := by
  induction q generalizing x with
  | zero => rfl
  | succ q ih =>
    unfold FX12_next_35 FX12_next_59
    rw [hs_o (by simp), hs_o (by simp)]
    split
    · rfl
    · split
      · split
        · exact ih _
        · rfl
      · exact ih _
theorem mom_eq {h g : ph_H} {s : Int32} (e : h 35 11 = g 0 38) : FX11_isMoment s h = 0 ↔ FX12_isIn s.toInt64 0 ((g 0 38).toInt64) = 0 := by
  rw [isM_iff, isIn_iff, l0, Int32.toInt_toInt64, e]
theorem mom_in {g : ph_H} {s : Int32} (d : ¬ FX12_isIn s.toInt64 0 ((g 0 38).toInt64) = 0) : 0 ≤ s.toInt ∧ s.toInt ≤ (g 0 38).toInt := by
  apply Classical.byContradiction
  intro w
  exact d (isIn_iff.mpr (by rw [l0, Int32.toInt_toInt64]; exact w))
theorem next_ans {z : zT} {h g : ph_H} (P : LR h g) (J : IT z g) (p s : Int32) : FX11_next p s h = (FX12_next p s g).1 := by
  obtain ⟨-, Q, q⟩ := P
  have sb := steps_iv J
  have k1 : (1 : Int32).toInt = 1 := by decide
  unfold FX11_next FX12_next
  rw [Q]
  by_cases c : g 0 36 = 0
  · rw [if_pos c, if_pos c]
  · obtain ⟨q1, q2, q3, q4, q5, q6, q7, q8, q9, q10⟩ := q c
    rw [if_neg c, if_neg c]
    by_cases d : FX12_isIn s.toInt64 0 ((g 0 38).toInt64) = 0
    · rw [if_pos d, if_pos ((mom_eq q2).mpr d)]
    · rw [if_neg d, if_neg (fun w => d ((mom_eq q2).mp w)), next_00]
      obtain ⟨s0, s1⟩ := mom_in d
      have e1 : (s + 1).toInt = s.toInt + 1 := by rw [ti_add (by omega) (by omega), k1]
      unfold FX10_nextRead
      by_cases m : p = -2
      · rw [if_pos m, m, next_m2]
      · rw [if_neg m]
        exact next_in m q2 (fun s a b => ⟨(q9 s a b).2.2.2.1, (q9 s a b).2.2.2.2.2.2.2.2.1⟩) sb.2 2000 (s + 1) (by omega) (by omega)
theorem last_in {h : ph_H} {p : Int32} : ∀ (q : Nat) (x : Int32), 0 ≤ x.toInt → x.toInt ≤ 300 → x.toInt < (q : Int) → (FX10_lastWrite_10 q p x h = 0 ∧ ∀ k : Nat, 0 < k → (k : Int) ≤ x.toInt → ¬ h 40 k = p) ∨ (∃ k : Nat, 0 < k ∧ (k : Int) ≤ x.toInt ∧ h 40 k = p ∧ (FX10_lastWrite_10 q p x h).toInt = k ∧ ∀ j : Nat, k < j → (j : Int) ≤ x.toInt → ¬ h 40 j = p)
  | 0, x, a, b, m => by omega
  | q + 1, x, a, b, m => by
    have k0 : (0 : Int32).toInt = 0 := by decide
    have kn1 : (-1 : Int32).toInt = -1 := by decide
    unfold FX10_lastWrite_10
    by_cases c : x ≤ 0
    · rw [if_pos c]
      rw [Int32.le_iff_toInt_le, k0] at c
      exact Or.inl ⟨rfl, fun k k0 k1 => by omega⟩
    · rw [if_neg c]
      rw [Int32.le_iff_toInt_le, k0] at c
      have xn : (x.toNatClampNeg : Int) = x.toInt := by
        rw [← Int32.toNat_toInt]
        omega
      by_cases d : h 40 x.toNatClampNeg = p
      · rw [if_pos d]
        exact Or.inr ⟨x.toNatClampNeg, by omega, by omega, d, xn.symm, fun j a b => by omega⟩
      · rw [if_neg d]
        have e1 : (x + (-1)).toInt = x.toInt - 1 := by rw [ti_add (by omega) (by omega), kn1]; omega
        rcases last_in (h := h) (p := p) q (x + (-1)) (by omega) (by omega) (by omega) with ⟨r, n⟩ | ⟨k, k0, k1, k2, k3, k4⟩
        · refine Or.inl ⟨r, fun k a b => ?_⟩
          by_cases w : k = x.toNatClampNeg
          · rw [w]; exact d
          · exact n k a (by omega)
        · refine Or.inr ⟨k, k0, by omega, k2, k3, fun j a b => ?_⟩
          by_cases w : j = x.toNatClampNeg
          · rw [w]; exact d
          · exact k4 j a (by omega)
theorem last_rf {p s : Int32} (s3 : s.toInt ≤ 300) : ∀ (q : Nat) (f x : Int32) (g : ph_H), 0 < x.toInt → x.toInt ≤ s.toInt + 1 → s.toInt + 1 - x.toInt < (q : Int) → ((FX12_last_36 q p s f x g).1 = f ∧ ∀ k : Nat, x.toInt ≤ k → (k : Int) ≤ s.toInt → ¬ (g 33 k = p ∧ ¬ p < 0)) ∨ (∃ k : Nat, x.toInt ≤ k ∧ (k : Int) ≤ s.toInt ∧ g 33 k = p ∧ ¬ p < 0 ∧ ((FX12_last_36 q p s f x g).1).toInt = k ∧ ∀ j : Nat, k < j → (j : Int) ≤ s.toInt → ¬ g 33 j = p)
  | 0, f, x, g, a, b, m => by omega
  | q + 1, f, x, g, a, b, m => by
    have k1 : (1 : Int32).toInt = 1 := by decide
    unfold FX12_last_36 FX12_last_62 FX12_last_63
    by_cases c : s < x
    · rw [if_pos c]
      rw [Int32.lt_iff_toInt_lt] at c
      exact Or.inl ⟨rfl, fun k a b => by omega⟩
    · rw [if_neg c]
      rw [Int32.lt_iff_toInt_lt] at c
      have xn : (x.toNatClampNeg : Int) = x.toInt := by
        rw [← Int32.toNat_toInt]
        omega
      have e1 : (x + 1).toInt = x.toInt + 1 := by rw [ti_add (by omega) (by omega), k1]
      have go : ∀ f', ((¬ (g 33 x.toNatClampNeg = p ∧ ¬ p < 0) ∧ f' = f) ∨ ((g 33 x.toNatClampNeg = p ∧ ¬ p < 0) ∧ f' = x)) → ((FX12_last_36 q p s f' (x + 1) g).1 = f ∧ ∀ k : Nat, x.toInt ≤ k → (k : Int) ≤ s.toInt → ¬ (g 33 k = p ∧ ¬ p < 0)) ∨ (∃ k : Nat, x.toInt ≤ k ∧ (k : Int) ≤ s.toInt ∧ g 33 k = p ∧ ¬ p < 0 ∧ ((FX12_last_36 q p s f' (x + 1) g).1).toInt = k ∧ ∀ j : Nat, k < j → (j : Int) ≤ s.toInt → ¬ g 33 j = p) := fun f' hf => by
        rcases last_rf s3 q f' (x + 1) g (by omega) (by omega) (by omega) with ⟨r, n⟩ | ⟨k, k0, k1, k2, k3, k4, k5⟩
        · rcases hf with ⟨n1, ef⟩ | ⟨y, ef⟩
          · refine Or.inl ⟨by rw [r, ef], fun k a b => ?_⟩
            by_cases w : k = x.toNatClampNeg
            · rw [w]; exact n1
            · exact n k (by omega) b
          · refine Or.inr ⟨x.toNatClampNeg, by omega, by omega, y.1, y.2, by rw [r, ef]; exact xn.symm, fun j a b w => n j (by omega) b ⟨w, y.2⟩⟩
        · exact Or.inr ⟨k, by omega, k1, k2, k3, k4, k5⟩
      by_cases d : g 33 x.toNatClampNeg = p
      · rw [if_pos d]
        by_cases n : p < 0
        · rw [if_pos n]
          exact go f (Or.inl ⟨fun w => w.2 n, rfl⟩)
        · rw [if_neg n]
          exact go x (Or.inr ⟨⟨d, n⟩, rfl⟩)
      · rw [if_neg d]
        exact go f (Or.inl ⟨fun w => d w.1, rfl⟩)
theorem last_ans {z : zT} {h g : ph_H} (P : LR h g) (J : IT z g) (p s : Int32) : FX11_last p s h = (FX12_last p s g).1 := by
  obtain ⟨-, Q, q⟩ := P
  have sb := steps_iv J
  have k1 : (1 : Int32).toInt = 1 := by decide
  have k0 : (0 : Int32).toInt = 0 := by decide
  unfold FX11_last FX12_last
  rw [Q]
  by_cases c : g 0 36 = 0
  · rw [if_pos c, if_pos c]
  · obtain ⟨q1, q2, q3, q4, q5, q6, q7, q8, q9, q10⟩ := q c
    rw [if_neg c, if_neg c]
    by_cases d : FX12_isIn s.toInt64 0 ((g 0 38).toInt64) = 0
    · rw [if_pos d, if_pos ((mom_eq q2).mpr d)]
    · rw [if_neg d, if_neg (fun w => d ((mom_eq q2).mp w))]
      obtain ⟨s0, s1⟩ := mom_in d
      have rows : ∀ k : Nat, 0 < k → (k : Int) ≤ s.toInt → h 40 k = g 33 k ∧ PLp (g 33 k) := fun k a b => ⟨(q9 k a (by omega)).2.2.2.2.1, (q9 k a (by omega)).2.2.2.2.2.2.2.2.2⟩
      have g00 : ∀ k, hs g 0 0 0 33 k = g 33 k := fun k => hs_o (by simp)
      rcases last_rf (p := p) (s := s) (by omega) 2000 0 1 (hs g 0 0 0) (by decide) (by omega) (by omega) with ⟨r, n⟩ | ⟨k, a0, a1, a2, a3, a4, a5⟩
      · rw [r]
        unfold FX10_lastWrite
        by_cases m : p = -2
        · rw [if_pos m]
        · rw [if_neg m]
          rcases last_in (h := h) (p := p) 2000 s s0 (by omega) (by omega) with ⟨r2, _⟩ | ⟨k, b0, b1, b2, b3, b4⟩
          · exact r2
          · obtain ⟨w1, w2⟩ := rows k b0 b1
            rw [w1] at b2
            have := n k (by omega) b1
            rw [g00] at this
            exact absurd b2 (fun e => this ⟨e, fun u => pl_no w2 u m e⟩)
      · rw [g00] at a2
        unfold FX10_lastWrite
        have m : ¬ p = -2 := fun e => a3 (by rw [e]; decide)
        rw [if_neg m]
        have w := rows k (by omega) a1
        rcases last_in (h := h) (p := p) 2000 s s0 (by omega) (by omega) with ⟨r2, n⟩ | ⟨k', b0, b1, b2, b3, b4⟩
        · exact absurd (w.1.trans a2) (n k (by omega) a1)
        · have e : k = k' := by
            rcases Nat.lt_trichotomy k k' with u | u | u
            · have := a5 k' u b1
              rw [g00] at this
              exact absurd ((rows k' b0 b1).1.symm.trans b2) this
            · exact u
            · exact absurd (w.1.trans a2) (b4 k u a1)
          apply tI
          rw [a4, b3, e]
end MG_48_xB6
