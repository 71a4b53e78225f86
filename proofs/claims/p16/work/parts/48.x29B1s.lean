/-! THE STATES of a run, one behind each step -/
theorem canGo_c {t : Int32} {g g' : ph_H} (e2 : ∀ i, g' 2 i = g 2 i) (e3 : ∀ i, g' 3 i = g 3 i) (e10 : ∀ i, g' 10 i = g 10 i) (e11 : ∀ i, g' 11 i = g 11 i) (e12 : ∀ i, g' 12 i = g 12 i) (e13 : ∀ i, g' 13 i = g 13 i) (e14 : ∀ i, g' 14 i = g 14 i) (e15 : ∀ i, g' 15 i = g 15 i) (e17 : ∀ i, g' 17 i = g 17 i) : FX12_canGo t g' = FX12_canGo t g := by
  unfold FX12_canGo FX12_canGo_107 FX12_canGo_108 FX12_canGo_144 FX12_isLock FX12_isLock_20 FX12_local
  simp only [e2, e3, e10, e11, e12, e13, e14, e15, e17]
def STEP (t : Int32) (G G' : ph_H) : Prop := (∀ h, RC h G → RC (FX3_go_s t h).2 G') ∧ (∀ h, RCo2 h G → RCo2 (FX3_go_oc2 t h).2 G')
theorem step_any {z : zT} {g : ph_H} {t : Int32} (I : IM z g) (ht : iv 0 3 t) (c : ¬ FX12_canGo t g = 0) (nf : g 0 25 = 0) (nk : g 0 33 = 0) (ns : iv 0 299 (g 0 24)) (hch : (g 0 60).toInt ≤ (g 0 24).toInt) : STEP t g (FX12_stepKept t g) := by
  obtain ⟨z1, I1⟩ := cg1_IM (t := t) I ht hch ns
  have co := cg1_o t g
  have ce : ∀ k i, ¬ k = 0 → ¬ k = 37 → ¬ k = 38 → cg1 t g k i = g k i := fun k i a b c => co k i b c (fun w => a w.1)
  have c1 : ¬ FX12_canGo t (cg1 t g) = 0 := by
    rw [canGo_c (g := g) (fun i => ce _ i (by decide) (by decide) (by decide)) (fun i => ce _ i (by decide) (by decide) (by decide)) (fun i => ce _ i (by decide) (by decide) (by decide)) (fun i => ce _ i (by decide) (by decide) (by decide)) (fun i => ce _ i (by decide) (by decide) (by decide)) (fun i => ce _ i (by decide) (by decide) (by decide)) (fun i => ce _ i (by decide) (by decide) (by decide)) (fun i => ce _ i (by decide) (by decide) (by decide)) (fun i => ce _ i (by decide) (by decide) (by decide))]
    exact c
  have nf1 : cg1 t g 0 25 = 0 := by rw [co _ _ (by decide) (by decide) (by decide)]; exact nf
  have nk1 : cg1 t g 0 33 = 0 := by rw [co _ _ (by decide) (by decide) (by decide)]; exact nk
  have na : ¬ asksU t (cg1 t g) := fun a => a.2.2.1 nk1
  have fs := frS_FX12_step (h0 := cg1 t g) t (cg1 t g) (EQ_r _)
  have rm1 : ∀ k i, rM k i = true → cg1 t g k i = g k i := fun k i q => co k i (fun e => by rw [e] at q; exact absurd q (by simp [rM])) (fun e => by rw [e] at q; exact absurd q (by simp [rM])) (fun e => by rw [e.1, e.2] at q; exact absurd q (by decide))
  have rm2 : ∀ k i, rM k i = true → FX12_stepKept t g k i = FX12_step t (cg1 t g) k i := fun k i q => sk_o na k i (by
    unfold rM at q
    split at q <;> first | omega | (exact absurd q (by decide)))
  have n33 : FX12_step t (cg1 t g) 0 33 = 0 := by rw [fs 0 33 rfl]; exact nk1
  refine ⟨fun h R => ?_, fun h R => ?_⟩
  · have R1 : RC h (cg1 t g) := R.congr (fun _ _ _ => rfl) rm1 (fun n => absurd nk n)
    exact (go_eq R1 I1 ht c1 nf1 na).2.1.congr (fun _ _ _ => rfl) rm2 (fun n => absurd n33 n)
  · have R1 : RCo2 h (cg1 t g) := R.congro2 (fun _ _ _ => rfl) rm1 (fun n => absurd nk n)
    exact (go_eqo2 R1 I1 ht c1 nf1 na).2.1.congro2 (fun _ _ _ => rfl) rm2 (fun n => absurd n33 n)
theorem KR_c {g : ph_H} {s : Nat} {G G' : ph_H} (e : ∀ k i, (1 ≤ k ∧ k < 20) → G' k i = G k i) (e18 : G' 0 18 = G 0 18) (K : KR g s G) : KR g s G' := by
  obtain ⟨a, b, c, d⟩ := K
  refine ⟨fun k hk => ?_, fun t ht => ?_, ?_, ⟨fun x hx => ?_, fun i hi => ?_⟩⟩
  · rw [e 10 k (by omega), e 11 k (by omega)]
    exact a k hk
  · rw [e 12 _ (by omega), state_c (g := G) (fun i => e _ i (by omega)) (fun i => e _ i (by omega)) (fun i => e _ i (by omega)) (fun i => e _ i (by omega)) (fun i => e _ i (by omega)) (fun i => e _ i (by omega)) (fun i => e _ i (by omega)) (fun i => e _ i (by omega)) (fun i => e _ i (by omega))]
    exact b t ht
  · rw [e18]
    exact c
  · rw [e18] at hx
    rw [e 16 x (by omega), e 17 x (by omega), e 18 x (by omega)]
    exact d.1 x hx
  · rw [e18] at hi
    rw [e 19 i (by omega)]
    exact d.2 i hi
theorem KR_r {g g' : ph_H} {s : Nat} {G : ph_H} (e : ∀ k i, (20 ≤ k ∧ k ≤ 28) → g' k i = g k i) (K : KR g s G) : KR g' s G := by
  obtain ⟨a, b, c, d⟩ := K
  refine ⟨fun k hk => ?_, fun t ht => ?_, ?_, ⟨fun x hx => ?_, fun i hi => ?_⟩⟩
  · rw [e 20 _ (by omega), e 21 _ (by omega)]
    exact a k hk
  · rw [e 22 _ (by omega), e 23 _ (by omega)]
    exact b t ht
  · rw [e 24 _ (by omega)]
    exact c
  · rw [e 25 _ (by omega), e 26 _ (by omega), e 27 _ (by omega)]
    exact d.1 x hx
  · rw [e 28 _ (by omega)]
    exact d.2 i hi
/-- the kept rows behind stepKept -/
theorem sk_KR' {g : ph_H} {t : Int32} (na : ¬ asksU t (cg1 t g)) (s300 : iv 0 300 (FX12_step t (cg1 t g) 0 24)) (tn : 0 ≤ (FX12_step t (cg1 t g) 0 18).toInt ∧ (FX12_step t (cg1 t g) 0 18).toInt ≤ 12) : KR (FX12_stepKept t g) (FX12_step t (cg1 t g) 0 24).toNatClampNeg (FX12_stepKept t g) ∧ ∀ (s' : Nat) (G : ph_H), (s' : Int) < (FX12_step t (cg1 t g) 0 24).toInt → (G 0 18).toInt ≤ 12 → KR g s' G → KR (FX12_stepKept t g) s' G := by
  have fs := frS_FX12_step (h0 := cg1 t g) t (cg1 t g) (EQ_r _)
  have w : ∀ k i, (k < 29) → kW t (kI (g 0 23) (FX12_step t (cg1 t g))) k i = FX12_step t (cg1 t g) k i := fun k i q => by rw [kW_o _ _ _ _ (by omega), kI_o _ _ _ _ (by omega)]
  have K := keep_KR (s := FX12_step t (cg1 t g) 0 24) (g := kW t (kI (g 0 23) (FX12_step t (cg1 t g)))) s300 (by rw [w 0 18 (by omega)]; exact tn.1) (by rw [w 0 18 (by omega)]; exact tn.2)
  rw [← sk_eq] at K
  refine ⟨KR_c (fun k i q => ?_) ?_ K.1, fun s' G a b c => K.2 s' G a b (KR_r (fun k i q => ?_) c)⟩
  · rw [sk_o na k i (by omega), w k i (by omega)]
  · rw [sk_o na 0 18 (by omega), w 0 18 (by omega)]
  · rw [w k i (by omega), fs k i (by unfold pS; split <;> first | omega | rfl), cg1_o t g k i (by omega) (by omega) (by omega)]
theorem sk29 {g : ph_H} {t : Int32} (na : ¬ asksU t (cg1 t g)) : FX12_stepKept t g 29 (g 0 24 + 1).toNatClampNeg = t ∧ ∀ i, ¬ i = (g 0 24 + 1).toNatClampNeg → FX12_stepKept t g 29 i = g 29 i := by
  have fs := frS_FX12_step (h0 := cg1 t g) t (cg1 t g) (EQ_r _)
  obtain ⟨x24, -⟩ := step_rec na
  rw [cg1_o t g _ _ (by decide) (by decide) (by decide)] at x24
  refine ⟨?_, fun i hi => ?_⟩
  · rw [sk_r 29 _ (by omega) (by omega)]
    unfold kW
    rw [kI_o _ _ 0 24 (by decide), x24]
    simp [hs_get]
  · rw [sk_r 29 _ (by omega) (by omega), kW_o _ _ _ _ (by rw [kI_o _ _ 0 24 (by decide), x24]; omega), kI_o _ _ _ _ (by decide), fs 29 i rfl, cg1_o t g _ _ (by decide) (by decide) (by omega)]
/-- the program THEN of the class is that of a state -/
def TP (h G : ph_H) : Prop := PR h G ∧ h 8 6 = kn G ∧ 0 ≤ (kn G).toInt ∧ ∀ k : Nat, (k : Int) < (kn G).toInt → h 12 k = vi G k
def BEG (G : ph_H) : Prop := ∀ h, TP h G → RC (FX3_begin_st (h 8 6) h) G ∧ RCo2 (FX3_begin_ot (h 8 6) h) G
def SQ (g : ph_H) (Gs : Nat → ph_H) (n : Nat) : Prop := (∀ s, s ≤ n → (∃ z, IM z (Gs s)) ∧ KR g s (Gs s) ∧ NW (Gs s)) ∧ (∀ s, s < n → iv 0 3 (g 29 (s + 1)) ∧ STEP (g 29 (s + 1)) (Gs s) (Gs (s + 1)) ∧ CW g (Gs s) (Gs (s + 1)) (s + 1)) ∧ BEG (Gs 0)
theorem SQ_fr {g g' : ph_H} {Gs : Nat → ph_H} {n : Nat} (S : SQ g Gs n) (e : ∀ k i, (20 ≤ k ∧ k ≤ 33) → g' k i = g k i) : SQ g' Gs n := ⟨fun s hs => ⟨(S.1 s hs).1, KR_r (fun k i q => e k i (by omega)) (S.1 s hs).2.1, (S.1 s hs).2.2⟩, fun s hs => ⟨by rw [e 29 _ (by omega)]; exact (S.2.1 s hs).1, by rw [e 29 _ (by omega)]; exact (S.2.1 s hs).2.1, fun k hk => by rw [e 33 _ (by omega)]; exact (S.2.1 s hs).2.2 k hk⟩, S.2.2⟩
def SH (h g : ph_H) : Prop := ∃ Gs, SQ g Gs (g 0 24).toNatClampNeg ∧ Gs (g 0 24).toNatClampNeg = g ∧ TP h (Gs 0) ∧ IK g ∧ CI g (g 0 24)
theorem TP_fr {h h' G : ph_H} (P : TP h G) (e : ∀ k i, (8 ≤ k ∧ k ≤ 14) → h' k i = h k i) : TP h' G := by
  have c9 : ∀ i, h' 9 i = h 9 i := fun i => e _ _ (by omega)
  have c10 : ∀ i, h' 10 i = h 10 i := fun i => e _ _ (by omega)
  have c11 : ∀ i, h' 11 i = h 11 i := fun i => e _ _ (by omega)
  have c12 : ∀ i, h' 12 i = h 12 i := fun i => e _ _ (by omega)
  have c8 : h' 8 6 = h 8 6 := e _ _ (by omega)
  simpa only [TP, PR, Rpr, c8, c9, c10, c11, c12] using P
theorem SH_adv {z z2 : zT} {h h' g : ph_H} {t : Int32} (S : SH h g) (I : IM z g) (I2 : IM z2 (FX12_stepKept t g)) (ht : iv 0 3 t) (c : ¬ FX12_canGo t g = 0) (nf : g 0 25 = 0) (nk : g 0 33 = 0) (ns : iv 0 299 (g 0 24)) (hch : (g 0 60).toInt ≤ (g 0 24).toInt) (eh : ∀ k i, (8 ≤ k ∧ k ≤ 14) → h' k i = h k i) : SH h' (FX12_stepKept t g) := by
  have k1 : (1 : Int32).toInt = 1 := by decide
  have sn := iv_nat ns rfl
  have st := step_any I ht c nf nk ns hch
  unfold iv at ns
  have es : (g 0 24 + 1).toInt = (g 0 24).toInt + 1 := by rw [ti_add (by omega) (by omega), k1]
  have en : (g 0 24 + 1).toNatClampNeg = (g 0 24).toNatClampNeg + 1 := by
    have : ((g 0 24 + 1).toNatClampNeg : Int) = (g 0 24).toInt + 1 := by
      rw [← Int32.toNat_toInt]
      omega
    omega
  have nk1 : cg1 t g 0 33 = 0 := by rw [cg1_o t g _ _ (by decide) (by decide) (by decide)]; exact nk
  have na : ¬ asksU t (cg1 t g) := fun a => a.2.2.1 nk1
  obtain ⟨x24, -⟩ := step_rec na
  rw [cg1_o t g _ _ (by decide) (by decide) (by decide)] at x24
  obtain ⟨z1, I1⟩ := cg1_IM (t := t) I ht hch ⟨ns.1, ns.2⟩
  obtain ⟨r1, r2⟩ := sk29 na
  have r3 := sk33 na
  have cw := CW_sk ht na
  have e24 : FX12_stepKept t g 0 24 = g 0 24 + 1 := by rw [sk_o na 0 24 (by omega), x24]
  have tb : 0 ≤ (FX12_step t (cg1 t g) 0 18).toInt ∧ (FX12_step t (cg1 t g) 0 18).toInt ≤ 12 := by
    rw [← sk_o na 0 18 (by omega)]
    exact th_nn I2
  have K := sk_KR' na (by rw [x24]; unfold iv; omega) tb
  rw [x24, en] at K
  rw [en] at r1 r2 r3 cw
  obtain ⟨Gs, ⟨q1, q2, q3⟩, q4, q5, q6, q7⟩ := S
  have ns2 : iv 0 299 (g 0 24) := ⟨ns.1, ns.2⟩
  have f23 : iv 0 30 (g 0 23) := IMv I 0 23
  refine ⟨fun s => if s ≤ (g 0 24).toNatClampNeg then Gs s else FX12_stepKept t g, ⟨fun s hs => ?_, fun s hs => ?_, ?_⟩, ?_, ?_, IK_sk na f23 q6, CI_sk ht na ns2 I hch q7⟩
  · rw [e24, en] at hs
    by_cases d : s ≤ (g 0 24).toNatClampNeg
    · obtain ⟨⟨z', J⟩, k, nw⟩ := q1 s d
      simp only [if_pos d]
      exact ⟨⟨z', J⟩, K.2 s _ (by omega) (th_nn J).2 k, nw⟩
    · have : s = (g 0 24).toNatClampNeg + 1 := by omega
      simp only [if_neg d]
      rw [this]
      refine ⟨⟨z2, I2⟩, K.1, NW_sk ht c na ?_⟩
      rw [← q4]
      exact (q1 _ (Nat.le_refl _)).2.2
  · rw [e24, en] at hs
    by_cases d : s = (g 0 24).toNatClampNeg
    · subst d
      have n : ¬ (g 0 24).toNatClampNeg + 1 ≤ (g 0 24).toNatClampNeg := by omega
      simp only [if_neg n, if_pos (Nat.le_refl _)]
      rw [r1, q4]
      exact ⟨ht, st, cw⟩
    · have n : s + 1 ≤ (g 0 24).toNatClampNeg := by omega
      have n2 : s ≤ (g 0 24).toNatClampNeg := by omega
      simp only [if_pos n, if_pos n2]
      obtain ⟨u1, u2, u3⟩ := q2 s (by omega)
      rw [r2 (s + 1) (by omega)]
      exact ⟨u1, u2, fun k hk => by rw [r3 (s + 1) (by omega)]; exact u3 k hk⟩
  · simp only [if_pos (Nat.zero_le _)]
    exact q3
  · rw [e24, en]
    have n : ¬ (g 0 24).toNatClampNeg + 1 ≤ (g 0 24).toNatClampNeg := by omega
    simp only [if_neg n]
  · simp only [if_pos (Nat.zero_le _)]
    exact TP_fr q5 eh
