/-! RUN as a call on both sides; the programs told are the same -/
def PN (h g : ph_H) : Prop := (∀ t, t < 4 → h 2 t = g 1 t) ∧ (∀ i, i < 96 → h 3 (4 * i) = g 2 i ∧ h 3 (4 * i + 1) = g 3 i ∧ h 3 (4 * i + 2) = g 4 i ∧ h 3 (4 * i + 3) = g 5 i) ∧ (∀ c, c < 12 → h 4 c = g 6 c) ∧ (h 1 6 = g 0 7 ∧ ∀ k : Nat, (k : Int) < (g 0 7).toInt → h 5 k = g 7 k) ∧ (h 1 7 = g 0 9 ∧ ∀ k : Nat, (k : Int) < (g 0 9).toInt → h 6 k = g 8 k ∧ h 7 k = g 9 k) ∧ (∀ i, iv 0 19 (g 2 i))
theorem bec (h : ph_H) : (∀ i, i < 4 → FX5_become_tn h 9 i = h 2 i) ∧ (∀ i, i < 384 → FX5_become_tn h 10 i = h 3 i) ∧ (∀ i, i < 12 → FX5_become_tn h 11 i = h 4 i) ∧ (∀ i, i < 30 → FX5_become_tn h 12 i = h 5 i) ∧ (∀ i, i < 40 → FX5_become_tn h 13 i = h 6 i ∧ FX5_become_tn h 14 i = h 7 i) ∧ FX5_become_tn h 8 6 = h 1 6 ∧ FX5_become_tn h 8 7 = h 1 7 ∧ (∀ k i, ¬ (8 ≤ k ∧ k ≤ 14) → FX5_become_tn h k i = h k i) := by
  have n4 : (4 : Int32).toNatClampNeg = 4 := by decide
  have n384 : (384 : Int32).toNatClampNeg = 384 := by decide
  have n12 : (12 : Int32).toNatClampNeg = 12 := by decide
  have n30 : (30 : Int32).toNatClampNeg = 30 := by decide
  have n40 : (40 : Int32).toNatClampNeg = 40 := by decide
  unfold FX5_become_tn
  refine ⟨fun i hi => ?_, fun i hi => ?_, fun i hi => ?_, fun i hi => ?_, fun i hi => ⟨?_, ?_⟩, ?_, ?_, fun k i q => ?_⟩
  · rw [hs_o (by simp), hs_o (by simp), hc_o (by decide), hc_o (by decide), hc_o (by decide), hc_o (by decide), hc_o (by decide), hc_at, n4, if_pos hi]
  · rw [hs_o (by simp), hs_o (by simp), hc_o (by decide), hc_o (by decide), hc_o (by decide), hc_o (by decide), hc_at, n384, if_pos hi, hc_o (by decide)]
  · rw [hs_o (by simp), hs_o (by simp), hc_o (by decide), hc_o (by decide), hc_o (by decide), hc_at, n12, if_pos hi, hc_o (by decide), hc_o (by decide)]
  · rw [hs_o (by simp), hs_o (by simp), hc_o (by decide), hc_o (by decide), hc_at, n30, if_pos hi, hc_o (by decide), hc_o (by decide), hc_o (by decide)]
  · rw [hs_o (by simp), hs_o (by simp), hc_o (by decide), hc_at, n40, if_pos hi, hc_o (by decide), hc_o (by decide), hc_o (by decide), hc_o (by decide)]
  · rw [hs_o (by simp), hs_o (by simp), hc_at, n40, if_pos hi, hc_o (by decide), hc_o (by decide), hc_o (by decide), hc_o (by decide), hc_o (by decide)]
  · rw [hs_o (by simp), hs_self, hc_o (by decide), hc_o (by decide), hc_o (by decide), hc_o (by decide), hc_o (by decide), hc_o (by decide)]
  · rw [hs_self, hc_o (by decide), hc_o (by decide), hc_o (by decide), hc_o (by decide), hc_o (by decide), hc_o (by decide)]
  · rw [hs_o (by omega), hs_o (by omega), hc_o (by omega), hc_o (by omega), hc_o (by omega), hc_o (by omega), hc_o (by omega), hc_o (by omega)]
theorem run_start {z : zT} {h g : ph_H} (P : PN h g) (J : IT z g) : RUN z (hs (hs (hs (FX3_begin_st (FX5_become_tn h 8 6) (FX5_become_tn h)) 35 11 0) 35 12 0) 35 14 0) (FX12_keep 0 (hs (hs (FX12_begin (hs (hs g 0 0 0) 0 33 0)) 0 60 0) 0 64 0)) := by
  obtain ⟨w1, w2, w3, w4, w5, w6⟩ := P
  obtain ⟨c1, c2, c3, c4, c5, c6, c7, c8⟩ := bec h
  have k0 : (0 : Int32).toInt = 0 := by decide
  have f7 : iv 0 30 (g 0 7) := ITv J 0 7
  have f9 : iv 0 40 (g 0 9) := ITv J 0 9
  unfold iv at f7 f9
  have G0 : ∀ k i, ¬ k = 0 → (hs (hs g 0 0 0) 0 33 0) k i = g k i := fun k i q => by rw [hs_o (fun w => q w.1), hs_o (fun w => q w.1)]
  have g33 : (hs (hs g 0 0 0) 0 33 0) 0 33 = 0 := hs_self _ _ _ _
  have g7 : (hs (hs g 0 0 0) 0 33 0) 0 7 = g 0 7 := by rw [hs_o (by simp), hs_o (by simp)]
  have g9 : (hs (hs g 0 0 0) 0 33 0) 0 9 = g 0 9 := by rw [hs_o (by simp), hs_o (by simp)]
  have kn0 : kn (hs (hs g 0 0 0) 0 33 0) = g 0 7 := by
    unfold kn
    rw [if_pos g33, g7]
  have RB : RC (FX3_begin_st (FX5_become_tn h 8 6) (FX5_become_tn h)) (FX12_begin (hs (hs g 0 0 0) 0 33 0)) := begin_RC (h := FX5_become_tn h) (g := (hs (hs g 0 0 0) 0 33 0)) ⟨⟨fun t ht => by rw [c1 t ht, G0 1 t (by decide)]; exact w1 t ht, fun i hi => by
      rw [c2 _ (by omega), c2 _ (by omega), c2 _ (by omega), c2 _ (by omega), G0 2 i (by decide), G0 3 i (by decide), G0 4 i (by decide), G0 5 i (by decide)]
      exact w2 i hi⟩, fun c hc => by rw [c3 c hc, G0 6 c (by decide)]; exact w3 c hc, fun i => by rw [G0 2 i (by decide)]; exact w6 i⟩ (by rw [c6, kn0]; exact w4.1) (by rw [kn0]; omega) (fun k hk => by
      rw [kn0] at hk
      unfold vi
      rw [if_pos g33, G0 7 k (by decide), c4 k (by omega)]
      exact w4.2 k hk)
  obtain ⟨r1, r2, r3, r4⟩ := rbeg (hs (hs g 0 0 0) 0 33 0)
  obtain ⟨d1, d2, d3, d4, d5, d6, d7, d8⟩ := cbeg (FX5_become_tn h 8 6) (FX5_become_tn h)
  have fk := frK_FX12_keep (h0 := hs (hs (FX12_begin (hs (hs g 0 0 0) 0 33 0)) 0 60 0) 0 64 0) 0 _ (EQ_r _)
  have K0 : ∀ i, ¬ i = 60 → ¬ i = 64 → (FX12_keep 0 (hs (hs (FX12_begin (hs (hs g 0 0 0) 0 33 0)) 0 60 0) 0 64 0)) 0 i = FX12_begin (hs (hs g 0 0 0) 0 33 0) 0 i := fun i a b => by rw [fk 0 i rfl, hs_o (by simp [b]), hs_o (by simp [a])]
  have e24 : (FX12_keep 0 (hs (hs (FX12_begin (hs (hs g 0 0 0) 0 33 0)) 0 60 0) 0 64 0)) 0 24 = 0 := by rw [K0 _ (by decide) (by decide), r4]; simp
  have e25 : (FX12_keep 0 (hs (hs (FX12_begin (hs (hs g 0 0 0) 0 33 0)) 0 60 0) 0 64 0)) 0 25 = 0 := by rw [K0 _ (by decide) (by decide), r4]; simp
  have e26 : (FX12_keep 0 (hs (hs (FX12_begin (hs (hs g 0 0 0) 0 33 0)) 0 60 0) 0 64 0)) 0 26 = 0 := by rw [K0 _ (by decide) (by decide), r4]; simp
  have e60 : (FX12_keep 0 (hs (hs (FX12_begin (hs (hs g 0 0 0) 0 33 0)) 0 60 0) 0 64 0)) 0 60 = 0 := by rw [fk 0 60 rfl, hs_o (by simp), hs_self]
  have e9 : (FX12_keep 0 (hs (hs (FX12_begin (hs (hs g 0 0 0) 0 33 0)) 0 60 0) 0 64 0)) 0 9 = g 0 9 := by rw [K0 _ (by decide) (by decide), r4, if_neg (by decide), g9]
  have H11 : (hs (hs (hs (FX3_begin_st (FX5_become_tn h 8 6) (FX5_become_tn h)) 35 11 0) 35 12 0) 35 14 0) 35 11 = 0 := by rw [hs_o (by simp), hs_o (by simp), hs_self]
  refine ⟨?_, ⟨?_, ?_, ?_, ?_, ?_, ?_⟩, ?_, ⟨?_, ?_⟩, ?_, ?_⟩
  · refine RB.congr (fun k i q => ?_) (fun k i q => ?_) (fun n => absurd ?_ n)
    · have : ¬ k = 35 := fun e => by rw [e] at q; exact absurd q (by simp [cM])
      rw [hs_o (fun w => this w.1), hs_o (fun w => this w.1), hs_o (fun w => this w.1)]
    · have p : pK k i = true := by
        unfold rM at q
        unfold pK
        split at q <;> first | rfl | (exact absurd q (by decide))
      have n1 : ¬ (k = 0 ∧ i = 64) := fun e => by rw [e.1, e.2] at q; exact absurd q (by decide)
      have n2 : ¬ (k = 0 ∧ i = 60) := fun e => by rw [e.1, e.2] at q; exact absurd q (by decide)
      rw [fk k i p, hs_o n1, hs_o n2]
    · rw [r4, if_neg (by decide)]
      exact g33
  · rw [H11, e24]
  · rw [hs_o (by simp), hs_self, e60]
  · rw [hs_self, e25]
  · intro s a b
    rw [e24, k0] at b
    omega
  · intro i hi
    rw [e60, k0] at hi
    omega
  · unfold FX10_latestThread
    rw [H11, if_pos (by decide), e26]
  · -- the reference's own invariant
    have I0 : IT z (hs (hs g 0 0 0) 0 33 0) := by
      obtain ⟨z1, m, i, e⟩ := J
      exact ⟨_, zm_hs m rfl rfl, IMg (k := 0) (i := 33) (IMa 0 0 i rfl rfl) (show iv 0 1 0 from ⟨by decide, by decide⟩) rfl, hz_e⟩
    have b := T_begin I0
    obtain ⟨⟨z1, m, i, e, r⟩, e24⟩ := b.2
    have fz : iv 0 300 (0 : Int32) := ⟨by decide, by decide⟩
    have i2 : IM (hs z1 0 60 0) (hs (hs (FX12_begin (hs (hs g 0 0 0) 0 33 0)) 0 60 0) 0 64 0) := IMs (k := 0) (i := 64) (IMg (k := 0) (i := 60) i fz rfl) (show iv 0 1 0 from ⟨by decide, by decide⟩) rfl
    have k := SX12_keep (z := hs z1 0 60 0) 0 _ i2 fz
    refine ⟨_, zm_hs m rfl rfl, k.2, (hz_i rfl).trans e, RMz_60 r, ?_⟩
    have q24 : hs z1 0 60 0 0 24 = z1 0 24 := hz_i rfl
    have q0 : z1 0 24 = 0 := (IMz i 0 24 rfl).symm.trans e24
    rw [hz_e, q24, q0]
    exact Int.le_refl _
  · rw [hs_o (by simp), hs_o (by simp), hs_o (by simp), d8 _ _ (by decide), c7, e9]
    exact w5.1
  · intro k hk
    rw [e9] at hk
    rw [hs_o (by simp), hs_o (by simp), hs_o (by simp), hs_o (by simp), hs_o (by simp), hs_o (by simp), d8 _ _ (by decide), d8 _ _ (by decide), fk 8 k rfl, fk 9 k rfl, hs_o (by simp), hs_o (by simp), hs_o (by simp), hs_o (by simp), r3 8 k (by decide) (by decide), r3 9 k (by decide) (by decide), G0 8 k (by decide), G0 9 k (by decide), (c5 k (by omega)).1, (c5 k (by omega)).2]
    exact w5.2 k hk
  · rw [e25, k0]
    exact Int.le_refl _
  · rw [e24, kp24, fk 0 18 rfl]
theorem run_sim {z : zT} {h g : ph_H} (P : PN h g) (J : IT z g) : ∃ hE gE, RUN z hE gE ∧ FX11_run h = FX11_run_40 (FX10_record_s_29 hE) ∧ FX12_run g = FX12_run_150 gE := by
  have U := run_start P J
  obtain ⟨g3, a1, a2⟩ := turns_eq 2000 2000 0 (hs (hs (hs (FX3_begin_st (FX5_become_tn h 8 6) (FX5_become_tn h)) 35 11 0) 35 12 0) 35 14 0) (FX12_keep 0 (hs (hs (FX12_begin (hs (hs g 0 0 0) 0 33 0)) 0 60 0) 0 64 0)) U ⟨by decide, by decide⟩ (by decide) (by decide)
  obtain ⟨z', I⟩ := RH_IM a2.2.2.1
  have s300 : iv 0 300 (g3 0 24) := IMv I 0 24
  unfold iv at s300
  have k0 : (0 : Int32).toInt = 0 := by decide
  obtain ⟨gE, b1, b2⟩ := goon_eq 2000 2000 0 _ g3 a2 ⟨by decide, by decide⟩ (by omega) (by omega) (by decide)
  refine ⟨_, gE, b2, rfl, ?_⟩
  rw [← b1, ← a1]
  rfl
theorem over_eq' {z : zT} {h g : ph_H} (R : RC h g) (I : IM z g) (e : h 35 14 = g 0 25) (F : 0 ≤ (g 0 25).toInt) : FX10_howOver_s h = FX12_ending g := by
  have k0 : (0 : Int32).toInt = 0 := by decide
  have who := who_eq R I (a := 0) ⟨by decide, by decide⟩
  obtain ⟨_, o⟩ := over23 R I 2000 0 ⟨by decide, by decide⟩ (by decide)
  unfold FX10_howOver_s FX12_ending FX3_allStartedHaveEnded_s
  rw [e, who, o]
  by_cases c : g 0 25 = 0
  · simp (decide := true) only [c, ↓reduceIte]
  · rw [if_neg c, if_neg (fun w => c (tI (by rw [Int32.le_iff_toInt_le, k0] at w; omega)))]
theorem run_over {z : zT} {h g : ph_H} (U : RUN z h g) : FX10_howOver_s h = FX12_ending (hs g 0 36 1) := by
  obtain ⟨R, T, H, N, F, KK⟩ := U
  obtain ⟨z', I⟩ := RH_IM H
  refine over_eq' (R.rs rfl) (IMs (k := 0) (i := 36) I (show iv 0 1 1 from ⟨by decide, by decide⟩) rfl) ?_ ?_
  · rw [hs_o (by simp)]
    exact T.2.2.1
  · rw [hs_o (by simp)]
    exact F
/-- what run answers -/
theorem run_ans {z : zT} {h g : ph_H} (P : PN h g) (J : IT z g) : (FX11_run h).1 = (FX12_run g).1 := by
  obtain ⟨hE, gE, U, e1, e2⟩ := run_sim P J
  rw [e1, e2]
  have o := run_over U
  have a : (FX11_run_40 (FX10_record_s_29 hE)).1 = FX10_howOver_s hE := by
    unfold FX11_run_40 FX11_run_47 FX4_forget FX10_record_s_29
    simp [hs_get]
  have b : (FX12_run_150 gE).1 = FX12_ending (hs gE 0 36 1) := by
    unfold FX12_run_150 FX12_run_195
    split <;> simp [hs_get]
  rw [a, b, o]
