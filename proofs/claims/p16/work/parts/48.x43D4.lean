/-! what play and ended answer -/
theorem play_run {z : zT} {h g : ph_H} {a b : Int32} (P : LR h g) (J : IT z g) (n : ¬ g 0 36 = 0) (fa : 0 ≤ a.toInt ∧ a.toInt ≤ (g 0 60).toInt) (fb : 0 ≤ b.toInt ∧ b.toInt ≤ (g 0 41).toInt) : SAMEo (FX11_goByRecordc1 a (FX3_begin_on b h)) (FX12_play_59 a (FX12_begin (hs (hs (hs g 0 0 0) 0 33 1) 0 34 b))) := by
  have k0 : (0 : Int32).toInt = 0 := by decide
  have k1 : (1 : Int32).toInt = 1 := by decide
  have km : (-1 : Int32).toInt = -1 := by decide
  have k300 : (300 : Int32).toInt = 300 := by decide
  have g60 : iv 0 300 (g 0 60) := ITv J 0 60
  have g41 : iv 0 30 (g 0 41) := ITv J 0 41
  have g38 : iv 0 300 (g 0 38) := ITv J 0 38
  unfold iv at g60 g41 g38
  have f0 : iv 0 300 a := ⟨fa.1, by omega⟩
  have f1 : iv 0 30 b := ⟨fb.1, by omega⟩
  obtain ⟨PA, PB, PC, ⟨PD, PE⟩⟩ := P
  obtain ⟨⟨d1, d2, d3⟩, d4, d5⟩ := PD n
  obtain ⟨q1, q2, q3, q4, q5, q6, q7, q8, q9, q10⟩ := PB.2 n
  obtain ⟨w1, w2, w3, w4, w5, w6⟩ := PA
  have G0 : ∀ k i, ¬ k = 0 → (hs (hs (hs g 0 0 0) 0 33 1) 0 34 b) k i = g k i := fun k i q => by rw [hs_o (fun w => q w.1), hs_o (fun w => q w.1), hs_o (fun w => q w.1)]
  have g33 : (hs (hs (hs g 0 0 0) 0 33 1) 0 34 b) 0 33 = 1 := by rw [hs_o (by simp), hs_self]
  have n33 : ¬ (hs (hs (hs g 0 0 0) 0 33 1) 0 34 b) 0 33 = 0 := by rw [g33]; decide
  have kn0 : kn (hs (hs (hs g 0 0 0) 0 33 1) 0 34 b) = b := by
    unfold kn
    rw [if_neg n33, hs_self]
  have RB : RCo1 (FX3_begin_on b h) (FX12_begin (hs (hs (hs g 0 0 0) 0 33 1) 0 34 b)) := begin_RCo1 (h := h) (g := (hs (hs (hs g 0 0 0) 0 33 1) 0 34 b)) ⟨⟨fun t ht => by rw [G0 1 t (by decide)]; exact w1 t ht, fun i hi => by
      rw [G0 2 i (by decide), G0 3 i (by decide), G0 4 i (by decide), G0 5 i (by decide)]
      exact w2 i hi⟩, fun c hc => by rw [G0 6 c (by decide)]; exact w3 c hc, fun i => by rw [G0 2 i (by decide)]; exact w6 i⟩ kn0.symm (by rw [kn0]; exact fb.1) (fun k hk => by
      rw [kn0] at hk
      unfold vi
      rw [if_neg n33, G0 36 k (by decide), d3 k (by omega)]
      exact w4.2 k (by omega))
  obtain ⟨z1, m, i, e⟩ := J
  have i2 : IM (hs (hs z1 0 33 1) 0 34 b) (hs (hs (hs g 0 0 0) 0 33 1) 0 34 b) := IMg (k := 0) (i := 34) (IMg (k := 0) (i := 33) (IMa 0 0 i rfl rfl) (show iv 0 1 1 from iv_01) rfl) (show iv 0 30 b from f1) rfl
  have bb := SX12_begin _ i2
  have I2 : RP z (FX12_begin (hs (hs (hs g 0 0 0) 0 33 1) 0 34 b)) := ⟨_, zm_hs (zm_hs (zm_hs (zm_hs m rfl rfl) rfl rfl) rfl rfl) rfl rfl, bb.2, RMz_0 i2⟩
  obtain ⟨r1, r2, r3, r4⟩ := rbeg (hs (hs (hs g 0 0 0) 0 33 1) 0 34 b)
  obtain ⟨c1, c2, c3, c4, c5, c6, c7, c8⟩ := cbego1 b h
  have v37 : ∀ j, hs (FX12_begin (hs (hs (hs g 0 0 0) 0 33 1) 0 34 b)) 0 66 (-1) 37 j = g 37 j := fun j => by rw [hs_o (by simp), r3 37 j (by decide) (by decide), G0 37 j (by decide)]
  have v38 : ∀ j, hs (FX12_begin (hs (hs (hs g 0 0 0) 0 33 1) 0 34 b)) 0 66 (-1) 38 j = g 38 j := fun j => by rw [hs_o (by simp), r3 38 j (by decide) (by decide), G0 38 j (by decide)]
  have e24 : hs (FX12_begin (hs (hs (hs g 0 0 0) 0 33 1) 0 34 b)) 0 66 (-1) 0 24 = 0 := by rw [hs_o (by simp), r4]; simp
  have e26 : hs (FX12_begin (hs (hs (hs g 0 0 0) 0 33 1) 0 34 b)) 0 66 (-1) 0 26 = 0 := by rw [hs_o (by simp), r4]; simp
  have LOOP : ∀ x4 x3 : Int32, x3.toInt = x4.toInt + 1 → (-1 ≤ x4.toInt ∧ x4.toInt ≤ 299) → (∀ j : Nat, (j : Int) < a.toInt → (g 37 j).toInt ≤ x4.toInt) → SAMEo (FX11_goByRecordc1_37 2000 a 0 0 x4 (hs (FX3_begin_on b h) 0 11 0)) (FX12_play_83 2000 a x3 (hs (FX12_begin (hs (hs (hs g 0 0 0) 0 33 1) 0 34 b)) 0 66 (-1))) := fun x4 x3 e3 f4 X => by
    refine pl_loop (z := z) f0 e3 f4 2000 0 0 _ _ ?_ (by rw [e24, k0]; decide)
    refine ⟨RPa 0 66 I2 rfl rfl, ?_, by rw [hs_o (by simp), r4]; simp, by rw [hs_o (by simp), r4]; simp, by rw [hs_o (by simp), r4, if_neg (by decide), g33]; decide, hs_self _ _ _ _, by rw [hs_self, e24], e26.symm, ⟨fun j hj => ?_, fun j l hj hl => ?_⟩, fun j hj => by rw [v37]; exact X j hj, ⟨by rw [k0]; exact Int.le_refl _, by rw [k0]; exact fa.1⟩, fun j hj => by rw [k0] at hj; omega, fun j h1 h2 => ?_, fun _ => ?_⟩
    · refine RB.congro1 (fun k j q => hs_o (fun w => ?_)) (fun k j q => hs_o (fun w => ?_)) (fun _ j => hs_o (by simp))
      · rw [w.1] at q
        exact absurd q (by simp [cMo1])
      · rw [w.1, w.2] at q
        exact absurd q (by decide)
    · rw [v37, v38, hs_o (by simp), hs_o (by simp), c8 45 j (by decide), c8 46 j (by decide)]
      obtain ⟨u1, u2⟩ := q10 j (by omega)
      obtain ⟨u3, u4, u5⟩ := d4 j (by omega)
      exact ⟨u1, u2, u3, u5⟩
    · rw [v37, v37]
      exact d5 j l hj (by omega)
    · rw [v37, e24, k0]
      exact (d4 j (by omega)).1
    · have n0 : (0 : Int32).toNatClampNeg = 0 := by decide
      rw [n0]
      rfl
  unfold FX11_goByRecordc1 FX11_goByRecordc1_29 FX11_goByRecordc1_30 FX12_play_59 FX12_play_82
  by_cases c : a = 0
  · have f := LOOP (-1) 0 (by rw [km, k0]; omega) (by rw [km]; omega) (fun j hj => by rw [c, k0] at hj; omega)
    rw [if_pos (show a ≤ 0 by rw [c]; decide), if_pos c]
    exact f
  · have ap : 0 < a.toInt := by
      have : ¬ a.toInt = 0 := fun w => c (tI (w.trans k0.symm))
      omega
    have ea : (a - 1).toInt = a.toInt - 1 := by rw [Int32.toInt_sub, k1, bm_in (by omega) (by omega)]
    have na : ((a - 1).toNatClampNeg : Int) = a.toInt - 1 := by
      rw [← Int32.toNat_toInt]
      omega
    obtain ⟨u1, u2⟩ := q10 (a - 1).toNatClampNeg (by omega)
    obtain ⟨u3, u4, u5⟩ := d4 (a - 1).toNatClampNeg (by omega)
    rw [if_neg (show ¬ a ≤ 0 by rw [Int32.le_iff_toInt_le, k0]; omega), if_neg (show ¬ 300 < a by rw [Int32.lt_iff_toInt_lt, k300]; omega), if_neg c, c8 45 _ (by decide), u1]
    have v : (FX12_begin (hs (hs (hs g 0 0 0) 0 33 1) 0 34 b)) 37 (a - 1).toNatClampNeg = g 37 (a - 1).toNatClampNeg := by rw [r3 37 _ (by decide) (by decide), G0 37 _ (by decide)]
    rw [v]
    refine LOOP _ _ (by rw [ti_add (by omega) (by omega), k1]) ⟨by omega, by omega⟩ (fun j hj => ?_)
    by_cases d : j = (a - 1).toNatClampNeg
    · rw [d]
      exact Int.le_refl _
    · have := d5 j (a - 1).toNatClampNeg (by omega) (by omega)
      omega
theorem LR_frP {h h' g g' : ph_H} (P : LR h g) (e : EQ pP h h') (d : EQ pVP g g') (x : h' 0 12 = g' 0 66) : LR h' g' := ⟨PN_fr P.1 (EQ_sub pN0_pP e) (EQ_sub pVN0_pVP d), QR_fr P.2.1 (EQ_sub (fun k i q => pSR_pP k i (pQ_pSR k i q)) e) (EQ_sub pVR0_pVP d), SR_fr P.2.2.1 (EQ_sub pSR_pP e) (EQ_sub pVR0_pVP d), PLQ_fr P.2.2.2.1 (EQ_sub (fun k i q => pVR0_pVP k i (pX6_pVR0 k i q)) d) (EQ_sub pX7_pVP d), x⟩
theorem play_both {z : zT} {h g : ph_H} (P : LR h g) (J : IT z g) (a b : Int32) : (FX11_play a b h).1 = (FX12_play a b g).1 ∧ LR (FX11_play a b h).2 (FX12_play a b g).2 := by
  have k0 : (0 : Int32).toInt = 0 := by decide
  have Pz := LR_00 P
  have Q := P.2.1
  have fe := frP_FX11_play (h0 := h) a b h (EQ_r h)
  have fv := frVP_FX12_play (h0 := g) a b g (EQ_r g)
  suffices (FX11_play a b h).1 = (FX12_play a b g).1 ∧ (FX11_play a b h).2 0 12 = (FX12_play a b g).2 0 66 from ⟨this.1, LR_frP P fe fv this.2⟩
  have E := P.2.2.2.2
  have Z : h 0 12 = hs g 0 0 0 0 66 := by rw [hs_o (by simp)]; exact E
  unfold FX11_play FX12_play FX11_play_54
  rw [Q.1]
  by_cases c : g 0 36 = 0
  · rw [if_pos c, if_pos c]
    exact ⟨rfl, Z⟩
  · rw [if_neg c, if_neg c]
    obtain ⟨q1, q2, q3, q4, q5, q6, q7, q8, q9, q10⟩ := Q.2 c
    rw [q6, q7]
    by_cases fa : 0 ≤ a.toInt ∧ a.toInt ≤ (g 0 60).toInt
    · rw [if_neg (show ¬ a < 0 by rw [Int32.lt_iff_toInt_lt, k0]; omega), if_neg (show ¬ g 0 60 < a by rw [Int32.lt_iff_toInt_lt]; omega), if_neg (fun w => isIn_iff.mp w (by rw [l0, Int32.toInt_toInt64]; exact fa))]
      by_cases fb : 0 ≤ b.toInt ∧ b.toInt ≤ (g 0 41).toInt
      · rw [if_neg (show ¬ b < 0 by rw [Int32.lt_iff_toInt_lt, k0]; omega), if_pos (show b ≤ g 0 41 by rw [Int32.le_iff_toInt_le]; omega), if_neg (fun w => isIn_iff.mp w (by rw [l0, Int32.toInt_toInt64]; exact fb))]
        obtain ⟨s1, s2⟩ := play_run P J c fa fb
        refine ⟨s2, ?_⟩
        dsimp only
        rw [hs_self]
        exact s1
      · rw [if_pos (isIn_iff.mpr (by rw [l0, Int32.toInt_toInt64]; exact fb))]
        by_cases u : b < 0
        · rw [if_pos u]
          exact ⟨rfl, Z⟩
        · rw [Int32.lt_iff_toInt_lt, k0] at u
          rw [if_neg (show ¬ b < 0 by rw [Int32.lt_iff_toInt_lt, k0]; omega), if_neg (show ¬ b ≤ g 0 41 by rw [Int32.le_iff_toInt_le]; omega)]
          exact ⟨rfl, Z⟩
    · rw [if_pos (isIn_iff.mpr (by rw [l0, Int32.toInt_toInt64]; exact fa))]
      by_cases u : a < 0
      · rw [if_pos u]
        exact ⟨rfl, Z⟩
      · rw [Int32.lt_iff_toInt_lt, k0] at u
        rw [if_neg (show ¬ a < 0 by rw [Int32.lt_iff_toInt_lt, k0]; omega), if_pos (show g 0 60 < a by rw [Int32.lt_iff_toInt_lt]; omega)]
        exact ⟨rfl, Z⟩
theorem ended_ans {z : zT} {h g : ph_H} (P : LR h g) (J : IT z g) : FX11_ended h = (FX12_ended g).1 := P.2.2.2.2
