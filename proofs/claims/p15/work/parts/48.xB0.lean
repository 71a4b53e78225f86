/-! a step of a run: advance and stepKept -/
theorem step_rec {g : ph_H} {t : Int32} (na : ¬ asksU t g) : FX12_step t g 0 24 = g 0 24 + 1 ∧ FX12_step t g 0 26 = t ∧ FX12_step t g 0 27 = g 12 t.toNatClampNeg ∧ FX12_step t g 0 28 = g 2 ((24 * t) + g 12 t.toNatClampNeg).toNatClampNeg ∧ FX12_step t g 0 35 = g 0 35 := by
  have A : ∀ i G, FX12_step_148 t i G 0 24 = G 0 24 + 1 ∧ FX12_step_148 t i G 0 26 = t ∧ FX12_step_148 t i G 0 27 = G 0 27 ∧ FX12_step_148 t i G 0 28 = G 0 28 ∧ FX12_step_148 t i G 0 35 = G 0 35 := fun i G => by
    have e := frI_FX12_instruct (h0 := G) t i G (EQ_r G)
    unfold FX12_step_148 FX12_step_154
    simp only [hs_get]
    have e1 := e 0 24 rfl
    have e2 := e 0 27 rfl
    have e3 := e 0 28 rfl
    have e4 := e 0 35 rfl
    simp [e1, e2, e3, e4]
  unfold FX12_step FX12_step_110 FX12_step_154
  by_cases w : g 15 t.toNatClampNeg < 0
  · rw [if_pos w]
    by_cases o : g 2 ((24 * t) + g 12 t.toNatClampNeg).toNatClampNeg = 16
    · rw [if_pos o]
      by_cases k : g 0 33 = 0
      · rw [if_pos k]
        have := A ((24 * t) + g 12 t.toNatClampNeg) (hs (hs (hs (hs (hs (hs g 0 27 (g 12 t.toNatClampNeg)) 0 28 (g 2 ((24 * t) + g 12 t.toNatClampNeg).toNatClampNeg)) 0 29 (-2)) 0 30 (-2)) 0 31 0) 0 32 (-1))
        simpa [hs_get] using this
      · rw [if_neg k, if_neg (fun e => na ⟨w, o, k, e⟩)]
        have := A ((24 * t) + g 12 t.toNatClampNeg) (hs (hs (hs (hs (hs (hs g 0 27 (g 12 t.toNatClampNeg)) 0 28 (g 2 ((24 * t) + g 12 t.toNatClampNeg).toNatClampNeg)) 0 29 (-2)) 0 30 (-2)) 0 31 0) 0 32 (-1))
        simpa [hs_get] using this
    · rw [if_neg o]
      have := A ((24 * t) + g 12 t.toNatClampNeg) (hs (hs (hs (hs (hs (hs g 0 27 (g 12 t.toNatClampNeg)) 0 28 (g 2 ((24 * t) + g 12 t.toNatClampNeg).toNatClampNeg)) 0 29 (-2)) 0 30 (-2)) 0 31 0) 0 32 (-1))
      simpa [hs_get] using this
  · rw [if_neg w, goTo_eq]
    simp [hs_get]
theorem cg1_o (t : Int32) (g : ph_H) (k i : Nat) (h1 : ¬ k = 37) (h2 : ¬ k = 38) (h3 : ¬ (k = 0 ∧ i = 60)) : cg1 t g k i = g k i := by
  unfold cg1
  split
  · rfl
  · rw [hs_o h3, hs_o (fun w => h2 w.1), hs_o (fun w => h1 w.1)]
theorem cg1_IM {z : zT} {g : ph_H} {t : Int32} (I : IM z g) (ht : iv 0 3 t) (hch : (g 0 60).toInt ≤ (g 0 24).toInt) (ns : iv 0 299 (g 0 24)) : ∃ z', IM z' (cg1 t g) := by
  unfold cg1
  split
  · exact ⟨z, I⟩
  · have k1 : (1 : Int32).toInt = 1 := by decide
    have b : iv 0 300 (g 0 60) := IMv I 0 60
    unfold iv at b ns
    exact ⟨_, IMg (k := 0) (i := 60) (IMs (k := 38) (IMs (k := 37) I (iv_any _) rfl) (show iv 0 3 t from ht) rfl) (show iv 0 300 (g 0 60 + 1) from by
      unfold iv
      rw [ti_add (by omega) (by omega), k1]
      omega) rfl⟩
theorem kI_o (x : Int32) (g : ph_H) (k i : Nat) (h1 : ¬ k = 36) : kI x g k i = g k i := by
  unfold kI
  split
  · rfl
  · rw [hs_o (fun w => h1 w.1)]
theorem kW_o (t : Int32) (g : ph_H) (k i : Nat) (h1 : k < 29 ∨ 35 < k ∨ ¬ i = (g 0 24).toNatClampNeg) : kW t g k i = g k i := by
  unfold kW
  rw [hs_o (by omega), hs_o (by omega), hs_o (by omega), hs_o (by omega), hs_o (by omega), hs_o (by omega), hs_o (by omega)]
/-- what stepKept leaves: the machine as the step left it; the record one longer -/
theorem sk_o {g : ph_H} {t : Int32} (na : ¬ asksU t (cg1 t g)) (k i : Nat) (h1 : k < 20 ∨ 36 < k) : FX12_stepKept t g k i = FX12_step t (cg1 t g) k i := by
  rw [sk_eq]
  have e := frK_FX12_keep (h0 := kW t (kI (g 0 23) (FX12_step t (cg1 t g)))) (FX12_step t (cg1 t g) 0 24) _ (EQ_r _)
  have p : pK k i = true := by
    unfold pK
    split <;> first | omega | rfl
  rw [e k i p, kW_o _ _ _ _ (by omega), kI_o _ _ _ _ (by omega)]
theorem sk_r {g : ph_H} {t : Int32} (k i : Nat) (h1 : 28 < k) (h2 : k ≤ 35) : FX12_stepKept t g k i = kW t (kI (g 0 23) (FX12_step t (cg1 t g))) k i := by
  rw [sk_eq]
  have e := frK_FX12_keep (h0 := kW t (kI (g 0 23) (FX12_step t (cg1 t g)))) (FX12_step t (cg1 t g) 0 24) _ (EQ_r _)
  have p : pK k i = true := by
    unfold pK
    split <;> first | omega | rfl
  exact e k i p
theorem sk_k {g : ph_H} {t : Int32} (f : iv 0 300 (FX12_step t (cg1 t g) 0 24)) : (∀ k : Nat, k < 28 → FX12_stepKept t g 20 (28 * (FX12_step t (cg1 t g) 0 24).toNatClampNeg + k) = FX12_step t (cg1 t g) 10 k ∧ FX12_stepKept t g 21 (28 * (FX12_step t (cg1 t g) 0 24).toNatClampNeg + k) = FX12_step t (cg1 t g) 11 k) ∧ (∀ j : Nat, (j : Int) < 28 * (FX12_step t (cg1 t g) 0 24).toInt → FX12_stepKept t g 20 j = g 20 j ∧ FX12_stepKept t g 21 j = g 21 j) := by
  rw [sk_eq]
  unfold FX12_keep
  obtain ⟨a1, a2⟩ := kp2 2000 (FX12_step t (cg1 t g) 0 24) 0 (kW t (kI (g 0 23) (FX12_step t (cg1 t g)))) f ⟨by decide, by decide⟩ (by decide)
  have s := frS_FX12_step (h0 := cg1 t g) t (cg1 t g) (EQ_r _)
  have k0 : (0 : Int32).toInt = 0 := by decide
  refine ⟨fun k hk => ?_, fun j hj => ?_⟩
  · obtain ⟨b1, b2⟩ := a1 k (by omega) hk
    rw [b1, b2, kW_o _ _ _ _ (by omega), kI_o _ _ _ _ (by omega), kW_o _ _ _ _ (by omega), kI_o _ _ _ _ (by omega)]
    exact ⟨rfl, rfl⟩
  · obtain ⟨b1, b2⟩ := a2 j (by omega)
    rw [b1, b2, kW_o _ _ _ _ (by omega), kI_o _ _ _ _ (by omega), kW_o _ _ _ _ (by omega), kI_o _ _ _ _ (by omega), s 20 j rfl, s 21 j rfl, cg1_o _ _ _ _ (by omega) (by omega) (by omega), cg1_o _ _ _ _ (by omega) (by omega) (by omega)]
    exact ⟨rfl, rfl⟩
/-- the class's notes -/
theorem ne_o (H : ph_H) (k i : Nat) (h1 : k < 39 ∨ 44 < k ∨ ¬ i = (H 35 11).toNatClampNeg) : FX10_noteEffects_s H k i = H k i := by
  have a : ∀ H k i, (k < 43 ∨ 44 < k ∨ ¬ i = (H 35 11).toNatClampNeg) → FX10_noteEffects_s_68 H k i = H k i := fun H k i q => by
    unfold FX10_noteEffects_s_68
    rw [hs_o (by omega), hs_o (by omega)]
  unfold FX10_noteEffects_s
  repeat' split
  · rw [a _ _ _ (by simp only [hs_get]; simp; omega), hs_o (by omega), hs_o (by omega)]
  · rw [a _ _ _ (by simp only [hs_get]; simp; omega), hs_o (by omega), hs_o (by omega)]
  · rw [a _ _ _ (by simp only [hs_get]; simp; omega), hs_o (by omega), hs_o (by omega), hs_o (by omega), hs_o (by omega)]
theorem ne_at (H : ph_H) : FX10_noteEffects_s H 39 (H 35 11).toNatClampNeg = H 15 14 ∧ FX10_noteEffects_s H 40 (H 35 11).toNatClampNeg = H 15 15 ∧ FX10_noteEffects_s H 43 (H 35 11).toNatClampNeg = H 15 16 ∧ FX10_noteEffects_s H 44 (H 35 11).toNatClampNeg = H 15 17 ∧ (0 ≤ (H 15 15).toInt → (H 15 15).toInt < 12 → FX10_noteEffects_s H 41 (H 35 11).toNatClampNeg = H 16 (H 15 15).toNatClampNeg ∧ FX10_noteEffects_s H 42 (H 35 11).toNatClampNeg = H 17 (H 15 15).toNatClampNeg) := by
  have k0 : (0 : Int32).toInt = 0 := by decide
  have k12 : (12 : Int32).toInt = 12 := by decide
  unfold FX10_noteEffects_s FX10_noteEffects_s_68
  by_cases c : H 15 15 < 0
  · rw [if_pos c]
    rw [Int32.lt_iff_toInt_lt, k0] at c
    refine ⟨by simp [hs_get], by simp [hs_get], by simp [hs_get], by simp [hs_get], fun a b => by omega⟩
  · rw [if_neg c]
    by_cases d : 12 ≤ H 15 15
    · rw [if_pos d]
      rw [Int32.le_iff_toInt_le, k12] at d
      refine ⟨by simp [hs_get], by simp [hs_get], by simp [hs_get], by simp [hs_get], fun a b => by omega⟩
    · rw [if_neg d]
      refine ⟨by simp [hs_get], by simp [hs_get], by simp [hs_get], by simp [hs_get], fun a b => by simp [hs_get]⟩
theorem opOf_hs {t a : Int32} {h h' : ph_H} (e9 : ∀ i, h' 9 i = h 9 i) (e10 : ∀ i, h' 10 i = h 10 i) : FX5_opOf_t t a h' = FX5_opOf_t t a h := by
  unfold FX5_opOf_t FX5_has_t FX5_firstPart_t
  rw [e9, e10]
theorem next_eq {z : zT} {h g : ph_H} {t : Int32} (R : RC h g) (I : IM z g) (ht : iv 0 3 t) : FX3_nextInstruction_s t h = g 12 t.toNatClampNeg := by
  unfold FX3_nextInstruction_s
  rw [ended_eq R I ht]
  by_cases e : g 12 t.toNatClampNeg = 24
  · rw [if_pos e, if_neg (by decide), e]
  · rw [if_neg e, if_pos rfl]
    exact (stands R I ht e).1
theorem op_eq {z : zT} {h g : ph_H} {t : Int32} (R : RC h g) (I : IM z g) (ht : iv 0 3 t) (e : ¬ g 12 t.toNatClampNeg = 24) : FX5_opOf_t t (g 12 t.toNatClampNeg) h = g 2 ((24 * t) + g 12 t.toNatClampNeg).toNatClampNeg := by
  obtain ⟨s1, s2⟩ := stands R I ht e
  have p := (parts R I ht e).1
  have f := R.2.1 _ (t_lt ht)
  have k := nrm_id (many_iv I t.toNatClampNeg) (a := h 18 t.toNatClampNeg) (by rw [f]; exact e)
  have k24 : (24 : Int32).toInt = 24 := by decide
  unfold iv at s2
  have a1 := nn_t s2.1
  have a2 : ¬ 24 ≤ h 18 t.toNatClampNeg := by rw [Int32.le_iff_toInt_le, k24]; omega
  have a3 : ¬ g 1 t.toNatClampNeg ≤ h 18 t.toNatClampNeg := by rw [Int32.le_iff_toInt_le]; omega
  have a4 := R.2.2.2.2.2.1.1 _ (t_lt ht)
  rw [← p, ← s1]
  unfold FX5_opOf_t FX5_has_t
  rw [a4]
  simp (decide := true) only [a1, a2, a3, ↓reduceIte]
theorem fl_n {G : ph_H} (w : FL G) : ¬ G 0 25 = -1 := fun e => by
  have := w.1
  rw [e] at this
  exact absurd this (by decide)
/-- ADVANCE: the record grows on both sides alike -/
theorem adv_eq {z : zT} {h g : ph_H} {t : Int32} (R : RC h g) (T : TR h g) (I : IM z g) (ht : iv 0 3 t) (c : ¬ FX12_canGo t g = 0) (nf : g 0 25 = 0) (nk : g 0 33 = 0) (ns : iv 0 299 (g 0 24)) (hch : (g 0 60).toInt ≤ (g 0 24).toInt) :
    (FX10_advance_s t h).1 = 1 ∧ RC (FX10_advance_s t h).2 (FX12_stepKept t g) ∧ TR (FX10_advance_s t h).2 (FX12_stepKept t g) ∧ 0 ≤ (FX12_stepKept t g 0 25).toInt := by
  obtain ⟨t1, t2, t3, t4, t5, t6⟩ := T
  have k1 : (1 : Int32).toInt = 1 := by decide
  have k0 : (0 : Int32).toInt = 0 := by decide
  have k300 : (300 : Int32).toInt = 300 := by decide
  have sn := iv_nat ns rfl
  have ns' := ns
  unfold iv at ns
  have es : (g 0 24 + 1).toInt = (g 0 24).toInt + 1 := by rw [ti_add (by omega) (by omega), k1]
  have en : (g 0 24 + 1).toNatClampNeg = (g 0 24).toNatClampNeg + 1 := by
    have : ((g 0 24 + 1).toNatClampNeg : Int) = (g 0 24).toInt + 1 := by
      rw [← Int32.toNat_toInt]
      omega
    omega
  have cb : iv 0 300 (g 0 60) := IMv I 0 60
  have cn := iv_nat cb rfl
  unfold iv at cb
  have ec : (g 0 60 + 1).toInt = (g 0 60).toInt + 1 := by rw [ti_add (by omega) (by omega), k1]
  obtain ⟨z1, I1⟩ := cg1_IM (t := t) I ht hch ns'
  have co := cg1_o t g
  have R1 : RC h (cg1 t g) := R.congr (fun _ _ _ => rfl) (fun k i q => co k i (fun e => by rw [e] at q; exact absurd q (by simp [rM])) (fun e => by rw [e] at q; exact absurd q (by simp [rM])) (fun e => by rw [e.1, e.2] at q; exact absurd q (by decide))) (fun n => absurd nk n)
  have c1 : ¬ FX12_canGo t (cg1 t g) = 0 := by
    rw [← canGo_eq R1 I1 ht, canGo_eq R I ht]
    exact c
  have nf1 : cg1 t g 0 25 = 0 := by rw [co _ _ (by decide) (by decide) (by decide)]; exact nf
  have nk1 : cg1 t g 0 33 = 0 := by rw [co _ _ (by decide) (by decide) (by decide)]; exact nk
  have na : ¬ asksU t (cg1 t g) := fun a => a.2.2.1 nk1
  obtain ⟨w1, w2, w3, w4⟩ := go_eq R1 I1 ht c1 nf1 na
  obtain ⟨x24, x26, x27, x28, x35⟩ := step_rec na
  rw [co _ _ (by decide) (by decide) (by decide)] at x24
  rw [co _ _ (by decide) (by decide) (by omega)] at x27
  rw [co 12 _ (by decide) (by decide) (by omega), co 2 _ (by decide) (by decide) (by omega)] at x28
  obtain ⟨_, c12, _⟩ := cg_true c
  have fs := frS_FX12_step (h0 := cg1 t g) t (cg1 t g) (EQ_r _)
  have fg := frG_FX3_go_s (h0 := h) t h (EQ_r _)
  generalize hG2 : FX12_step t (cg1 t g) = G2 at *
  generalize hH1 : FX3_go_s t h = r at *
  have so : ∀ k i, (k < 20 ∨ 36 < k) → FX12_stepKept t g k i = G2 k i := fun k i q => by rw [sk_o na k i q, hG2]
  have sr : ∀ k i, 28 < k → k ≤ 35 → FX12_stepKept t g k i = kW t (kI (g 0 23) G2) k i := fun k i a b => by rw [sk_r k i a b, hG2]
  have sk := sk_k (g := g) (t := t) (by rw [hG2, x24]; unfold iv; omega)
  rw [hG2, x24, en] at sk
  obtain ⟨skA, skB⟩ := sk
  generalize hG : FX12_stepKept t g = G at *
  have lat : FX10_latestThread (hs r.2 35 14 r.1) = g 0 26 := by
    rw [← t6]
    unfold FX10_latestThread
    rw [hs_o (by simp), hs_o (by simp), fg 35 11 rfl, fg 36 _ rfl]
  have nI := next_eq R I ht
  have oE := op_eq R I ht c12
  have adv : FX10_advance_s t h = FX10_advance_s_51 t (g 12 t.toNatClampNeg) (FX10_noteChange t (hs r.2 35 14 r.1)) := by
    unfold FX10_advance_s FX10_advance_s_30
    rw [t3, if_pos nf, t1, if_pos (by rw [Int32.lt_iff_toInt_lt, k300]; omega), hH1, if_neg (by rw [w1]; exact fl_n w4), nI]
  rw [adv]
  unfold FX10_advance_s_51
  have N : ∀ k i, ¬ k = 45 → ¬ k = 46 → ¬ (k = 35 ∧ i = 12) → ¬ (k = 35 ∧ i = 14) → FX10_noteChange t (hs r.2 35 14 r.1) k i = r.2 k i := fun k i a b d e => by
    unfold FX10_noteChange
    split
    · rw [hs_o e]
    · rw [hs_o d, hs_o (fun w => b w.1), hs_o (fun w => a w.1), hs_o e]
  have N14 : FX10_noteChange t (hs r.2 35 14 r.1) 35 14 = r.1 := by
    unfold FX10_noteChange
    split
    · rw [hs_self]
    · rw [hs_o (by simp), hs_o (by simp), hs_o (by simp), hs_self]
  have e12 : hs r.2 35 14 r.1 35 12 = g 0 60 := by rw [hs_o (by simp), fg 35 12 rfl]; exact t2
  have e11 : hs r.2 35 14 r.1 35 11 = g 0 24 := by rw [hs_o (by simp), fg 35 11 rfl]; exact t1
  have N12 : FX10_noteChange t (hs r.2 35 14 r.1) 35 12 = cg1 t g 0 60 := by
    unfold FX10_noteChange cg1
    rw [lat]
    by_cases q : t = g 0 26
    · rw [if_pos q, if_pos q]
      exact e12
    · rw [if_neg q, if_neg q, hs_self, hs_self, e12]
  have NC : ∀ i : Nat, (i : Int) < (cg1 t g 0 60).toInt → FX10_noteChange t (hs r.2 35 14 r.1) 45 i = cg1 t g 37 i ∧ FX10_noteChange t (hs r.2 35 14 r.1) 46 i = cg1 t g 38 i := fun i hi => by
    unfold FX10_noteChange cg1
    unfold cg1 at hi
    rw [lat]
    by_cases q : t = g 0 26
    · rw [if_pos q] at hi
      rw [if_pos q, if_pos q, hs_o (by simp), hs_o (by simp), fg 45 i rfl, fg 46 i rfl]
      exact t5 i hi
    · rw [if_neg q, hs_self] at hi
      rw [if_neg q, if_neg q, e12, e11]
      by_cases d : i = (g 0 60).toNatClampNeg
      · subst d
        simp [hs_get]
      · have := t5 i (by omega)
        simp only [hs_get]
        simp [d, fg 45 i rfl, fg 46 i rfl, this]
  generalize hN : FX10_noteChange t (hs r.2 35 14 r.1) = h2 at *
  have h11 : h2 35 11 = g 0 24 := by rw [N _ _ (by decide) (by decide) (by decide) (by decide), fg 35 11 rfl]; exact t1
  rw [h11]
  have oo : FX5_opOf_t t (g 12 t.toNatClampNeg) (hs (hs (hs h2 35 11 (g 0 24 + 1)) 36 (g 0 24 + 1).toNatClampNeg t) 37 (g 0 24 + 1).toNatClampNeg (g 12 t.toNatClampNeg)) = g 2 ((24 * t) + g 12 t.toNatClampNeg).toNatClampNeg := by
    rw [← oE]
    apply opOf_hs
    · intro i
      rw [hs_o (by simp), hs_o (by simp), hs_o (by simp), N _ _ (by decide) (by decide) (by simp) (by simp), fg 9 i rfl]
    · intro i
      rw [hs_o (by simp), hs_o (by simp), hs_o (by simp), N _ _ (by decide) (by decide) (by simp) (by simp), fg 10 i rfl]
  rw [oo, en]
  generalize hX0 : hs (hs (hs (hs h2 35 11 (g 0 24 + 1)) 36 ((g 0 24).toNatClampNeg + 1) t) 37 ((g 0 24).toNatClampNeg + 1) (g 12 t.toNatClampNeg)) 38 ((g 0 24).toNatClampNeg + 1) (g 2 ((24 * t) + g 12 t.toNatClampNeg).toNatClampNeg) = X0
  have X11 : X0 35 11 = g 0 24 + 1 := by rw [← hX0, hs_o (by simp), hs_o (by simp), hs_o (by simp), hs_self]
  have X0o : ∀ k i, ¬ (k = 35 ∧ i = 11) → (k < 36 ∨ 38 < k ∨ ¬ i = (g 0 24).toNatClampNeg + 1) → X0 k i = h2 k i := fun k i a b => by
    rw [← hX0, hs_o (by omega), hs_o (by omega), hs_o (by omega), hs_o a]
  have no := ne_o X0
  have na' := ne_at X0
  rw [X11, en] at no na'
  generalize hX : FX10_noteEffects_s X0 = X at *
  show (1 : Int32) = 1 ∧ RC X G ∧ TR X G ∧ 0 ≤ (G 0 25).toInt
  have Xm : ∀ k i, (15 ≤ k ∧ k ≤ 24 ∨ k < 15) → X k i = r.2 k i := fun k i q => by
    rw [no k i (by omega), X0o k i (by omega) (by omega), N k i (by omega) (by omega) (by omega) (by omega)]
  have g0e : ∀ i, G 0 i = G2 0 i := fun i => so 0 i (by omega)
  have x60 : G2 0 60 = cg1 t g 0 60 := fs 0 60 rfl
  have gN : ∀ k i, (k < 20 ∨ 36 < k) → G k i = G2 k i := so
  refine ⟨rfl, w2.congr (fun k i q => Xm k i ?_) (fun k i q => gN k i ?_) (fun n => absurd ?_ n), ?_, by rw [g0e]; exact w4.1⟩
  · unfold cM at q
    split at q <;> first | omega | (exact absurd q (by decide))
  · unfold rM at q
    split at q <;> first | omega | (exact absurd q (by decide))
  · rw [fs 0 33 rfl]
    exact nk1
  have kwv : ∀ k i, (k < 29 ∨ 35 < k ∨ ¬ i = (g 0 24).toNatClampNeg + 1) → ¬ k = 36 → kW t (kI (g 0 23) G2) k i = G2 k i := fun k i q n => by
    rw [kW_o _ _ _ _ (by rw [kI_o _ _ _ _ (by decide), x24, en]; exact q), kI_o _ _ _ _ n]
  have kwa : ∀ k, 29 ≤ k → k ≤ 35 → kW t (kI (g 0 23) G2) k ((g 0 24).toNatClampNeg + 1) = if k = 29 then t else if k = 30 then G2 0 27 else if k = 31 then G2 0 28 else if k = 32 then (if G2 0 25 ≤ 0 then G2 0 29 else -2) else if k = 33 then (if G2 0 25 ≤ 0 then G2 0 30 else -2) else if k = 34 then (if G2 0 25 ≤ 0 then G2 0 31 else 0) else G2 0 32 := fun k a b => by
    unfold kW
    rw [kI_o _ _ 0 24 (by decide), kI_o _ _ 0 25 (by decide), kI_o _ _ 0 27 (by decide), kI_o _ _ 0 28 (by decide), kI_o _ _ 0 29 (by decide), kI_o _ _ 0 30 (by decide), kI_o _ _ 0 31 (by decide), kI_o _ _ 0 32 (by decide), x24, en]
    have hk : k = 29 ∨ k = 30 ∨ k = 31 ∨ k = 32 ∨ k = 33 ∨ k = 34 ∨ k = 35 := by omega
    rcases hk with rfl | rfl | rfl | rfl | rfl | rfl | rfl <;> simp [hs_get]
  obtain ⟨ef1, ef2, ef3, ef4⟩ := w3
  have SS : ∀ s : Nat, ¬ s = (g 0 24).toNatClampNeg + 1 → (s : Int) ≤ (g 0 24).toInt → ∀ k, 29 ≤ k → k ≤ 35 → G k s = g k s := fun s a b k p q => by
    rw [sr k s (by omega) q, kwv k s (by omega) (by omega), fs k s (by unfold pS; split <;> first | omega | rfl), co k s (by omega) (by omega) (by omega)]
  have XX : ∀ s : Nat, ¬ s = (g 0 24).toNatClampNeg + 1 → ∀ k, 36 ≤ k → k ≤ 44 → X k s = h k s := fun s a k p q => by
    rw [no k s (by omega), X0o k s (by omega) (by omega), N k s (by omega) (by omega) (by omega) (by omega), fg k s (by unfold pG; split <;> first | omega | rfl)]
  refine ⟨?_, ?_, ?_, ?_, ?_, ?_⟩
  · rw [no 35 11 (by omega), X11, g0e, x24]
  · rw [no 35 12 (by omega), X0o 35 12 (by omega) (by omega), N12, g0e, x60]
  · rw [no 35 14 (by omega), X0o 35 14 (by omega) (by omega), N14, w1, g0e]
  · intro s s0 sl
    rw [g0e, x24, es] at sl
    by_cases d : s = (g 0 24).toNatClampNeg + 1
    · subst d
      have v : ∀ k, 29 ≤ k → k ≤ 35 → G k ((g 0 24).toNatClampNeg + 1) = _ := fun k a b => (sr k _ (by omega) b).trans (kwa k a b)
      have v29 := v 29 (by omega) (by omega)
      have v30 := v 30 (by omega) (by omega)
      have v31 := v 31 (by omega) (by omega)
      have v32 := v 32 (by omega) (by omega)
      have v33 := v 33 (by omega) (by omega)
      have v34 := v 34 (by omega) (by omega)
      have v35 := v 35 (by omega) (by omega)
      simp only [if_true, Nat.reduceEqDiff, if_false] at v29 v30 v31 v32 v33 v34 v35
      have m14 : X0 15 14 = G2 0 29 := by rw [X0o _ _ (by omega) (by omega), N _ _ (by omega) (by omega) (by omega) (by omega)]; exact ef1
      have m15 : X0 15 15 = G2 0 30 := by rw [X0o _ _ (by omega) (by omega), N _ _ (by omega) (by omega) (by omega) (by omega)]; exact ef2
      have m16 : X0 15 16 = G2 0 31 := by rw [X0o _ _ (by omega) (by omega), N _ _ (by omega) (by omega) (by omega) (by omega)]; exact ef3
      have m17 : X0 15 17 = r.2 15 17 := by rw [X0o _ _ (by omega) (by omega), N _ _ (by omega) (by omega) (by omega) (by omega)]
      obtain ⟨n1, n2, n3, n4, n5⟩ := na'
      rw [m14] at n1
      rw [m15] at n2 n5
      rw [m16] at n3
      rw [m17] at n4
      have ff : ¬ G2 0 25 ≤ 0 → G2 0 29 = -2 ∧ G2 0 30 = -2 ∧ G2 0 31 = 0 := fun f => w4.2.1 (fun e => f (by rw [e]; decide))
      have g32 : G 32 ((g 0 24).toNatClampNeg + 1) = G2 0 29 := by
        rw [v32]
        by_cases f : G2 0 25 ≤ 0
        · rw [if_pos f]
        · rw [if_neg f, (ff f).1]
      have g33 : G 33 ((g 0 24).toNatClampNeg + 1) = G2 0 30 := by
        rw [v33]
        by_cases f : G2 0 25 ≤ 0
        · rw [if_pos f]
        · rw [if_neg f, (ff f).2.1]
      have g34 : G 34 ((g 0 24).toNatClampNeg + 1) = G2 0 31 := by
        rw [v34]
        by_cases f : G2 0 25 ≤ 0
        · rw [if_pos f]
        · rw [if_neg f, (ff f).2.2]
      refine ⟨?_, ?_, ?_, ?_, ?_, ?_, ?_, ?_, by rw [g32]; exact w4.2.2.1, by rw [g33]; exact w4.2.2.2⟩
      · rw [no 36 _ (by omega), v29, ← hX0, hs_o (by simp), hs_o (by simp), hs_self]
      · rw [no 37 _ (by omega), v30, x27, ← hX0, hs_o (by simp), hs_self]
      · rw [no 38 _ (by omega), v31, x28, ← hX0, hs_self]
      · rw [n1, g32]
      · rw [n2, g33]
      · rw [n3, g34]
      · rw [g34, v35, n4]
        exact ef4
      · rw [g33]
        intro a b
        obtain ⟨b1, b2⟩ := n5 a b
        have wl : (G2 0 30).toNatClampNeg < 28 := by
          have : ((G2 0 30).toNatClampNeg : Int) = (G2 0 30).toInt := by
            rw [← Int32.toNat_toInt]
            omega
          omega
        obtain ⟨q1, q2⟩ := skA _ wl
        obtain ⟨r1, r2⟩ := w2.1 _ wl
        rw [b1, b2, q1, q2, X0o _ _ (by omega) (by omega), X0o _ _ (by omega) (by omega), N _ _ (by omega) (by omega) (by omega) (by omega), N _ _ (by omega) (by omega) (by omega) (by omega)]
        exact ⟨r1, r2⟩
    · have sl2 : (s : Int) ≤ (g 0 24).toInt := by omega
      obtain ⟨u1, u2, u3, u4, u5, u6, u7, u8, u9, u10⟩ := t4 s s0 sl2
      have s29 := SS s d sl2
      have x36 := XX s d
      unfold TRs
      rw [s29 29 (by omega) (by omega), s29 30 (by omega) (by omega), s29 31 (by omega) (by omega), s29 32 (by omega) (by omega), s29 33 (by omega) (by omega), s29 34 (by omega) (by omega), s29 35 (by omega) (by omega), x36 36 (by omega) (by omega), x36 37 (by omega) (by omega), x36 38 (by omega) (by omega), x36 39 (by omega) (by omega), x36 40 (by omega) (by omega), x36 41 (by omega) (by omega), x36 42 (by omega) (by omega), x36 43 (by omega) (by omega), x36 44 (by omega) (by omega)]
      refine ⟨u1, u2, u3, u4, u5, u6, u7, fun a b => ?_, u9, u10⟩
      have wl : (g 33 s).toNatClampNeg < 12 := by
        have : ((g 33 s).toNatClampNeg : Int) = (g 33 s).toInt := by
          rw [← Int32.toNat_toInt]
          omega
        omega
      obtain ⟨q1, q2⟩ := skB (28 * s + (g 33 s).toNatClampNeg) (by rw [es]; omega)
      rw [q1, q2]
      exact u8 a b
  · intro i hi
    rw [g0e, x60] at hi
    rw [gN 37 i (by omega), gN 38 i (by omega), fs 37 i rfl, fs 38 i rfl, no 45 i (by omega), no 46 i (by omega), X0o 45 i (by omega) (by omega), X0o 46 i (by omega) (by omega)]
    exact NC i hi
  · unfold FX10_latestThread
    rw [no 35 11 (by omega), X11, if_neg (by rw [Int32.le_iff_toInt_le, k0]; omega), if_neg (by rw [Int32.lt_iff_toInt_lt, k300]; omega), g0e, x26, en, no 36 _ (by omega), ← hX0, hs_o (by simp), hs_o (by simp), hs_self]
