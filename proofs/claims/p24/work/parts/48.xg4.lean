section MG_48_x40B7
/-! SEEN BEHIND a step: the class's machine has that step's state again -/
theorem LR_00' {h g : ph_H} (P : LR h g) : LR h (hs g 0 0 0) := LR_00 P
def RD (h g : ph_H) (n : Nat) : Prop := ∀ s : Nat, 0 < s → s ≤ n → h 36 s = g 29 s
theorem rep_s {g : ph_H} {Gs : Nat → ph_H} {n : Nat} (S : SQ g Gs n) (n3 : n ≤ 300) : ∀ (q : Nat) (a x : Int32) (h : ph_H), RC h (Gs x.toNatClampNeg) → RD h g n → 0 ≤ x.toInt → x.toInt ≤ a.toInt → a.toInt ≤ n → a.toInt - x.toInt < (q : Int) → RC (FX11_replay_s_3 q a x h) (Gs a.toNatClampNeg)
  | 0, a, x, h, R, D, x0, xa, an, m => by omega
  | q + 1, a, x, h, R, D, x0, xa, an, m => by
    have k1 : (1 : Int32).toInt = 1 := by decide
    have k300 : (300 : Int32).toInt = 300 := by decide
    unfold FX11_replay_s_3 FX11_replay_s_33
    by_cases c : a ≤ x
    · rw [if_pos c]
      rw [Int32.le_iff_toInt_le] at c
      have : x = a := tI (by omega)
      rw [← this]
      exact R
    · rw [if_neg c]
      rw [Int32.le_iff_toInt_le] at c
      rw [if_neg (by rw [Int32.le_iff_toInt_le, k300]; omega)]
      have e1 : (x + 1).toInt = x.toInt + 1 := by rw [ti_add (by omega) (by omega), k1]
      have xn : (x.toNatClampNeg : Int) = x.toInt := by
        rw [← Int32.toNat_toInt]
        omega
      have en : (x + 1).toNatClampNeg = x.toNatClampNeg + 1 := by
        have : ((x + 1).toNatClampNeg : Int) = x.toInt + 1 := by
          rw [← Int32.toNat_toInt]
          omega
        omega
      obtain ⟨s1, s2, s3, s4⟩ := S.2.1 x.toNatClampNeg (by omega)
      have ed : h 36 (x + 1).toNatClampNeg = g 29 (x.toNatClampNeg + 1) := by rw [en, D _ (by omega) (by omega)]
      rw [ed]
      have f := frD_FX3_go_s (h0 := h) (g 29 (x.toNatClampNeg + 1)) h (EQ_r h)
      refine rep_s S n3 q a (x + 1) _ ?_ ?_ (by omega) (by omega) an (by omega)
      · rw [en]
        exact s2.1 h R
      · intro s p r
        rw [f 36 s rfl]
        exact D s p r
theorem rep_o {g : ph_H} {Gs : Nat → ph_H} {n : Nat} (S : SQ g Gs n) (n3 : n ≤ 300) : ∀ (q : Nat) (a x : Int32) (h : ph_H), RCo2 h (Gs x.toNatClampNeg) → RD h g n → 0 ≤ x.toInt → x.toInt ≤ a.toInt → a.toInt ≤ n → a.toInt - x.toInt < (q : Int) → RCo2 (FX11_replay_oc2_3 q a x h) (Gs a.toNatClampNeg)
  | 0, a, x, h, R, D, x0, xa, an, m => by omega
  | q + 1, a, x, h, R, D, x0, xa, an, m => by
    have k1 : (1 : Int32).toInt = 1 := by decide
    have k300 : (300 : Int32).toInt = 300 := by decide
    unfold FX11_replay_oc2_3 FX11_replay_oc2_33
    by_cases c : a ≤ x
    · rw [if_pos c]
      rw [Int32.le_iff_toInt_le] at c
      have : x = a := tI (by omega)
      rw [← this]
      exact R
    · rw [if_neg c]
      rw [Int32.le_iff_toInt_le] at c
      rw [if_neg (by rw [Int32.le_iff_toInt_le, k300]; omega)]
      have e1 : (x + 1).toInt = x.toInt + 1 := by rw [ti_add (by omega) (by omega), k1]
      have xn : (x.toNatClampNeg : Int) = x.toInt := by
        rw [← Int32.toNat_toInt]
        omega
      have en : (x + 1).toNatClampNeg = x.toNatClampNeg + 1 := by
        have : ((x + 1).toNatClampNeg : Int) = x.toInt + 1 := by
          rw [← Int32.toNat_toInt]
          omega
        omega
      obtain ⟨s1, s2, s3, s4⟩ := S.2.1 x.toNatClampNeg (by omega)
      have ed : h 36 (x + 1).toNatClampNeg = g 29 (x.toNatClampNeg + 1) := by rw [en, D _ (by omega) (by omega)]
      rw [ed]
      have f := frC_FX3_go_oc2 (h0 := h) (g 29 (x.toNatClampNeg + 1)) h (EQ_r h)
      refine rep_o S n3 q a (x + 1) _ ?_ ?_ (by omega) (by omega) an (by omega)
      · rw [en]
        exact s2.2 h R
      · intro s p r
        rw [f 36 s rfl]
        exact D s p r
theorem RC_9 {h g : ph_H} {v : Int32} (R : RC h g) : RC (hs h 0 9 v) g := R.congr (fun k i q => hs_o (fun w => by rw [w.1] at q; exact absurd q (by simp [cM]))) (fun _ _ _ => rfl) (fun _ _ => rfl)
theorem LR_RD {h g : ph_H} (P : LR h g) (n : ¬ g 0 36 = 0) : RD h g (g 0 38).toNatClampNeg := fun s p r => by
  obtain ⟨q1, q2, q3, q4, q5, q6, q7, q8, q9, q10⟩ := P.2.1.2 n
  by_cases c : 0 ≤ (g 0 38).toInt
  · have : ((g 0 38).toNatClampNeg : Int) = (g 0 38).toInt := by
      rw [← Int32.toNat_toInt]
      omega
    exact (q9 s p (by omega)).1
  · have : (g 0 38).toNatClampNeg = 0 := by
      rw [← Int32.toNat_toInt]
      omega
    omega
theorem sb_9 (s : Int32) (h : ph_H) : FX11_seenBehind s h 0 9 = s := by
  unfold FX11_seenBehind FX11_seenBehind_26 FX11_seenBehind_31 FX11_seenBehind_44
  split <;> rw [hs_self]
/-- seenBehind keeps what holds between two calls, and has the state of that step -/
theorem sb_sim {z : zT} {h g : ph_H} {s : Int32} (P : LR h g) (J : IT z g) (n : ¬ g 0 36 = 0) (s0 : 0 ≤ s.toInt) (s1 : s.toInt ≤ (g 0 38).toInt) : LR (FX11_seenBehind s h) g ∧ ∃ Gs, SQ g Gs (g 0 38).toNatClampNeg ∧ TP h (Gs 0) ∧ RC (FX11_seenBehind s h) (Gs s.toNatClampNeg) := by
  have D := LR_RD P n
  have f300 : iv 0 300 (g 0 38) := ITv J 0 38
  have n38 := iv_nat f300 rfl
  unfold iv at f300
  have fd := frD_FX11_seenBehind (h0 := h) s h (EQ_r h)
  obtain ⟨Pa, Pb, Pc, Px⟩ := P
  obtain ⟨v0, v1, Gs, q1, q2, q3, q4, q5⟩ := Pc n
  have R : RC (FX11_seenBehind s h) (Gs s.toNatClampNeg) := by
    unfold FX11_seenBehind FX11_seenBehind_26 FX11_seenBehind_31 FX11_seenBehind_44 FX11_replay_s
    by_cases c : h 0 9 ≤ s
    · rw [if_pos c]
      rw [Int32.le_iff_toInt_le] at c
      exact RC_9 (rep_s q1 (by omega) 2000 s (h 0 9) h q5 D q3 c (by omega) (by omega))
    · rw [if_neg c]
      have n0 : (0 : Int32).toNatClampNeg = 0 := by decide
      have k0 : (0 : Int32).toInt = 0 := by decide
      have b := (q1.2.2 h q2).1
      have fb := frD_FX3_begin_st (h0 := h) (h 8 6) h (EQ_r h)
      rw [hs_self]
      refine RC_9 (rep_s q1 (by omega) 2000 s 0 _ (by rw [n0]; exact RC_9 b) (fun u p r => ?_) (by rw [k0]; exact Int.le_refl _) (by rw [k0]; exact s0) (by omega) (by rw [k0]; omega))
      rw [hs_o (by simp), fb 36 u rfl]
      exact D u p r
  have TT : TP (FX11_seenBehind s h) (Gs 0) := TP_fr q2 (fun k i q => fd k i (by
    have : k = 8 ∨ k = 9 ∨ k = 10 ∨ k = 11 ∨ k = 12 ∨ k = 13 ∨ k = 14 := by omega
    rcases this with rfl | rfl | rfl | rfl | rfl | rfl | rfl <;> rfl))
  exact ⟨⟨PN_fr Pa (EQ_sub pN0_pD fd) (EQ_r g), QR_fr Pb (EQ_sub pQ_pD fd) (EQ_r g), fun _ => ⟨v0, v1, Gs, q1, TT, by rw [sb_9]; exact s0, by rw [sb_9]; exact s1, by rw [sb_9]; exact R⟩, Px.1, by rw [fd 0 12 rfl]; exact Px.2.1, FO_fr Px.2.2 (EQ_sub pFO_pD fd) (EQ_r g)⟩, Gs, q1, q2, R⟩
theorem LR_sb {z : zT} {h g : ph_H} {s : Int32} (P : LR h g) (J : IT z g) (e : ¬ g 0 36 = 0 → 0 ≤ s.toInt ∧ s.toInt ≤ (g 0 38).toInt) : LR (FX11_seenBehind s h) g := by
  by_cases n : g 0 36 = 0
  · have fd := frD_FX11_seenBehind (h0 := h) s h (EQ_r h)
    exact ⟨PN_fr P.1 (EQ_sub pN0_pD fd) (EQ_r g), QR_fr P.2.1 (EQ_sub pQ_pD fd) (EQ_r g), fun w => absurd n w, P.2.2.2.1, by rw [fd 0 12 rfl]; exact P.2.2.2.2.1, FO_fr P.2.2.2.2.2 (EQ_sub pFO_pD fd) (EQ_r g)⟩
  · exact (sb_sim P J n (e n).1 (e n).2).1
def vH (h h' : ph_H) : Prop := h' = h ∨ h' = FX11_seenBehind (h 0 10) h
theorem LR_10 {h g : ph_H} (P : LR h g) (n : ¬ g 0 36 = 0) : h 0 10 = g 0 42 ∧ 0 ≤ (g 0 42).toInt ∧ (g 0 42).toInt ≤ (g 0 38).toInt := by
  obtain ⟨q1, q2, q3, q4, q5, q6, q7, q8, q9, q10⟩ := P.2.1.2 n
  obtain ⟨v0, v1, -⟩ := P.2.2.1 n
  exact ⟨q8, v0, v1⟩
theorem LR_vH {z : zT} {h h' g : ph_H} (P : LR h g) (J : IT z g) (q : vH h h') : LR h' g := by
  rcases q with rfl | rfl
  · exact P
  · exact LR_sb P J (fun n => by
      obtain ⟨a, b, c⟩ := LR_10 P n
      rw [a]
      exact ⟨b, c⟩)
theorem LR_sb35 {z : zT} {h g : ph_H} (P : LR h g) (J : IT z g) : LR (FX11_seenBehind (h 35 11) h) g := LR_sb P J (fun n => by
  obtain ⟨q1, q2, q3, q4, q5, q6, q7, q8, q9, q10⟩ := P.2.1.2 n
  have f300 : iv 0 300 (g 0 38) := ITv J 0 38
  rw [q2]
  exact ⟨f300.1, Int.le_refl _⟩)
theorem thing_vH (a b : Int32) (h : ph_H) : vH h (FX11_thing a b h).2 := by
  unfold FX11_thing FX11_thing_18
  repeat' split
  all_goals first | exact Or.inl rfl | exact Or.inr rfl
theorem thread_vH (a b : Int32) (h : ph_H) : vH h (FX11_thread a b h).2 := by
  unfold FX11_thread FX11_thread_36
  repeat' split
  all_goals first | exact Or.inl rfl | exact Or.inr rfl
theorem LR_thing {z : zT} {h g : ph_H} (P : LR h g) (J : IT z g) (a b : Int32) : LR (FX11_thing a b h).2 (FX12_thing a b g).2 := LR_fr (LR_vH P J (thing_vH a b h)) (EQ_r _) (frV_FX12_thing _ _ g (EQ_r g))
theorem LR_thread {z : zT} {h g : ph_H} (P : LR h g) (J : IT z g) (a b : Int32) : LR (FX11_thread a b h).2 (FX12_thread a b g).2 := LR_fr (LR_vH P J (thread_vH a b h)) (EQ_r _) (frV_FX12_thread _ _ g (EQ_r g))
theorem isM_in {h : ph_H} {x : Int32} (n : ¬ FX11_isMoment x h = 0) : 0 ≤ x.toInt ∧ x.toInt ≤ (h 35 11).toInt := Classical.byContradiction (fun w => n ((isM_iff x).mpr w))
theorem LR_differ {z : zT} {h g : ph_H} (P : LR h g) (J : IT z g) (a b : Int32) : LR (FX11_differ a b h).2 (FX12_differ a b g).2 := by
  refine LR_fr (g := g) ?_ (EQ_r _) (frV_FX12_differ _ _ g (EQ_r g))
  unfold FX11_differ FX11_differ_46 FX11_differ_56 FX11_differ_61
  by_cases c : h 0 8 = 0
  · rw [if_pos c]
    exact P
  · rw [if_neg c]
    by_cases d : FX11_isMoment a h = 0
    · rw [if_pos d]
      exact P
    · rw [if_neg d]
      by_cases e : FX11_isMoment b h = 0
      · rw [if_pos e]
        exact P
      · rw [if_neg e]
        dsimp only
        have f1 := frC_FX3_begin_ot (h0 := h) (h 8 6) h (EQ_r h)
        have f2 := frC_FX11_replay_oc2 (h0 := h) 0 a (FX3_begin_ot (h 8 6) h) f1
        refine LR_sb (LR_fr P f2 (EQ_r g)) J (fun n => ?_)
        obtain ⟨q1, q2, q3, q4, q5, q6, q7, q8, q9, q10⟩ := P.2.1.2 n
        have := isM_in e
        rw [q2] at this
        exact this
end MG_48_x40B7
section MG_48_x41B8
/-! what thing and thread answer -/
theorem ixm {c v a : Int32} {m : Nat} (hv : iv 0 300 v) (ha : iv 0 200 a) (q : (decide (c.toInt = m) && decide (m ≤ 1000)) = true) : (c * v + a).toNatClampNeg = m * v.toNatClampNeg + a.toNatClampNeg := by
  rw [Bool.and_eq_true, decide_eq_true_eq, decide_eq_true_eq] at q
  obtain ⟨q1, q2⟩ := q
  have vn := iv_nat hv rfl
  have an := iv_nat ha rfl
  unfold iv at hv ha
  have b0 : (0 : Int) ≤ (m : Int) * v.toInt := Int.mul_nonneg (by omega) hv.1
  have b1 : (m : Int) * v.toInt ≤ 1000 * 300 := Int.mul_le_mul (by omega) hv.2 hv.1 (by omega)
  have e1 : (c * v).toInt = (m : Int) * v.toInt := by rw [ti_mul (by rw [q1]; omega) (by rw [q1]; omega), q1]
  have e2 : (c * v + a).toInt = (m : Int) * v.toInt + a.toInt := by rw [ti_add (by omega) (by omega), e1]
  have e3 : ((c * v + a).toNatClampNeg : Int) = (m : Int) * v.toInt + a.toInt := by
    rw [← Int32.toNat_toInt]
    omega
  have e4 : ((m * v.toNatClampNeg : Nat) : Int) = (m : Int) * v.toInt := by rw [Int.natCast_mul, vn]
  omega
theorem in01 {b : Int32} : FX12_isIn b.toInt64 0 1 = 0 ↔ ¬ (b = 0 ∨ b = 1) := by
  have k0 : (0 : Int32).toInt = 0 := by decide
  have k1 : (1 : Int32).toInt = 1 := by decide
  rw [isIn_iff, l0, l1]
  constructor
  · intro w d
    rcases d with d | d
    · rw [d, k0] at w
      omega
    · rw [d, k1] at w
      omega
  · intro w d
    by_cases c : b.toInt = 0
    · exact w (Or.inl (tI (c.trans k0.symm)))
    · exact w (Or.inr (tI (by rw [k1]; omega)))
theorem sbG_at {z : zT} {h g : ph_H} (P : LR h g) (J : IT z g) (n : ¬ g 0 36 = 0) : iv 0 300 (g 0 42) ∧ h 0 10 = g 0 42 ∧ ∃ G, (∃ z, IM z G) ∧ NW G ∧ KR g (g 0 42).toNatClampNeg G ∧ RC (FX11_seenBehind (h 0 10) h) G := by
  obtain ⟨e, v0, v1⟩ := LR_10 P n
  have f300 : iv 0 300 (g 0 38) := ITv J 0 38
  have n38 := iv_nat f300 rfl
  unfold iv at f300
  have f42 : iv 0 300 (g 0 42) := ⟨v0, by omega⟩
  have n42 := iv_nat f42 rfl
  obtain ⟨-, Gs, q1, q2, q3⟩ := sb_sim P J n v0 v1
  obtain ⟨w1, w2, w3⟩ := q1.1 (g 0 42).toNatClampNeg (by omega)
  refine ⟨f42, e, _, w1, w3, w2, ?_⟩
  rw [e]
  exact q3
theorem thing_ans {z : zT} {h g : ph_H} (P : LR h g) (J : IT z g) (a b : Int32) : (FX11_thing a b h).1 = (FX12_thing a b g).1 := by
  have k0 : (0 : Int32).toInt = 0 := by decide
  have k1 : (1 : Int32).toInt = 1 := by decide
  have E := P.2.1.1
  unfold FX11_thing FX12_thing FX11_thing_18 FX12_isThing FX3_hasThing_s
  rw [E]
  by_cases c : g 0 36 = 0
  · rw [if_pos c, if_pos c]
  · obtain ⟨f42, e10, G, ⟨z', I⟩, nw, K, R⟩ := sbG_at P J c
    obtain ⟨t1, t2⟩ := R.2.2.2.1
    obtain ⟨k20, k22, k24, k25, k28⟩ := K
    have g42 : hs g 0 0 0 0 42 = g 0 42 := hs_o (by simp)
    have g36 : hs g 0 0 0 0 36 = g 0 36 := hs_o (by simp)
    have g24 : ∀ i, hs g 0 0 0 24 i = g 24 i := fun i => hs_o (by simp)
    rw [if_neg c, if_neg c, g42, g36, g24, if_neg c, k24, t1]
    by_cases a0 : a < 0
    · simp (decide := true) only [a0, ↓reduceIte]
    · by_cases a1 : G 0 18 ≤ a
      · simp (decide := true) only [a0, a1, ↓reduceIte]
      · have tn := th_nn I
        simp (decide := true) only [a0, a1, ↓reduceIte]
        rw [Int32.lt_iff_toInt_lt, k0] at a0
        rw [Int32.le_iff_toInt_le] at a1
        have fa : iv 0 200 a := ⟨by omega, by omega⟩
        have an := iv_nat fa rfl
        rw [ixm (c := 12) (m := 12) f42 fa rfl]
        obtain ⟨x1, x2, x3⟩ := k25 a.toNatClampNeg (by omega)
        obtain ⟨y1, y2, y3, y4⟩ := t2 a.toNatClampNeg (by omega)
        rw [x1, x2, x3, y1, y2]
        by_cases d : FX12_isIn b.toInt64 0 1 = 0
        · rw [if_pos d]
          have d' := in01.mp d
          by_cases u : b < 0
          · rw [if_pos u]
          · rw [if_neg u]
            by_cases w : b ≤ 1
            · exfalso
              rw [Int32.lt_iff_toInt_lt, k0] at u
              rw [Int32.le_iff_toInt_le, k1] at w
              by_cases o : b.toInt = 0
              · exact d' (Or.inl (tI (o.trans k0.symm)))
              · exact d' (Or.inr (tI (by rw [k1]; omega)))
            · rw [if_neg w]
        · rw [if_neg d]
          have d' : b = 0 ∨ b = 1 := Classical.byContradiction (fun w => d (in01.mpr w))
          rcases d' with rfl | rfl
          · simp (decide := true) only [↓reduceIte]
          · simp (decide := true) only [↓reduceIte]
            by_cases o : G 16 a.toNatClampNeg = 1
            · simp (decide := true) only [o, ↓reduceIte]
            · simp (decide := true) only [o, ↓reduceIte]
              rcases y3 with ⟨u1, u2⟩ | ⟨u1, u2⟩
              · rw [u1, u2]
                simp (decide := true) only [↓reduceIte]
              · unfold iv at u2
                rw [u1] at u2 ⊢
                rw [if_pos (by rw [Int32.le_iff_toInt_le, k0]; omega)]
theorem nexI_eq {z : zT} {h g : ph_H} {t : Int32} (R : RC h g) (I : IM z g) (ht : iv 0 3 t) : FX3_nextInstruction_s t h = g 12 t.toNatClampNeg := by
  unfold FX3_nextInstruction_s
  rw [ended_eq R I ht]
  by_cases c : g 12 t.toNatClampNeg = 24
  · rw [if_pos c, if_neg (by decide), c]
  · rw [if_neg c, if_pos rfl]
    exact (stands R I ht c).1
theorem nexI_eqo2 {z : zT} {h g : ph_H} {t : Int32} (R : RCo2 h g) (I : IM z g) (ht : iv 0 3 t) : FX3_nextInstruction_oc2 t h = g 12 t.toNatClampNeg := by
  unfold FX3_nextInstruction_oc2
  rw [ended_eqo2 R I ht]
  by_cases c : g 12 t.toNatClampNeg = 24
  · rw [if_pos c, if_neg (by decide), c]
  · rw [if_neg c, if_pos rfl]
    exact (standso2 R I ht c).1
theorem stand_eq {z : zT} {h g : ph_H} {t : Int32} (R : RC h g) (I : IM z g) (N : NW g) (ht : iv 0 3 t) : FX3_standing_s t h = FX12_state t g := by
  have k0 : (0 : Int32).toInt = 0 := by decide
  have nw := N _ (t_lt ht)
  unfold FX3_standing_s FX12_state
  rw [ended_eq R I ht, canGo_eq R I ht]
  rcases R.2.2.1 _ (t_lt ht) with ⟨m, st, as, wk⟩ | ⟨m, st, as, wk⟩ | ⟨m, st, as, q, wk⟩ | ⟨m, st, as, wk, q⟩
  · simp (decide := true) only [m, st, ↓reduceIte]
  · by_cases c : g 12 t.toNatClampNeg = 24
    · simp (decide := true) only [m, st, as, c, ↓reduceIte]
    · simp (decide := true) only [m, st, as, c, ↓reduceIte]
  · have q' := q
    unfold iv at q'
    rw [as] at nw
    have c := nw q'.1
    have n14 : ¬ g 14 t.toNatClampNeg < 0 := by
      rw [as, Int32.lt_iff_toInt_lt, k0]
      omega
    simp (decide := true) only [m, st, c, n14, ↓reduceIte]
  · by_cases c : g 12 t.toNatClampNeg = 24
    · simp (decide := true) only [m, st, as, c, ↓reduceIte]
    · simp (decide := true) only [m, st, as, c, ↓reduceIte]
theorem thread_ans {z : zT} {h g : ph_H} (P : LR h g) (J : IT z g) (a b : Int32) : (FX11_thread a b h).1 = (FX12_thread a b g).1 := by
  have k0 : (0 : Int32).toInt = 0 := by decide
  have k1 : (1 : Int32).toInt = 1 := by decide
  have E := P.2.1.1
  unfold FX11_thread FX12_thread FX11_thread_36
  rw [E]
  by_cases c : g 0 36 = 0
  · rw [if_pos c, if_pos c]
  · obtain ⟨f42, e10, G, ⟨z', I⟩, nw, K, R⟩ := sbG_at P J c
    obtain ⟨k20, k22, k24, k25, k28⟩ := K
    rw [if_neg c, if_neg c]
    by_cases t : 0 ≤ a.toInt ∧ a.toInt ≤ 3
    · have ft : iv 0 3 a := t
      have fa : iv 0 200 a := ⟨t.1, by omega⟩
      rw [if_neg (fun w => (isT_iff a).mp w t), if_neg (fun w => isIn_iff.mp w (by rw [l0, l3]; exact t))]
      rw [ixm (c := 4) (m := 4) f42 fa rfl, (k22 a ft).1, (k22 a ft).2, nexI_eq R I ft, stand_eq R I nw ft]
      by_cases d : FX12_isIn b.toInt64 0 1 = 0
      · rw [if_pos d]
        have d' := in01.mp d
        by_cases u : b < 0
        · rw [if_pos u]
        · rw [if_neg u]
          by_cases w : b ≤ 1
          · exfalso
            rw [Int32.lt_iff_toInt_lt, k0] at u
            rw [Int32.le_iff_toInt_le, k1] at w
            by_cases o : b.toInt = 0
            · exact d' (Or.inl (tI (o.trans k0.symm)))
            · exact d' (Or.inr (tI (by rw [k1]; omega)))
          · rw [if_neg w]
      · rw [if_neg d]
        have d' : b = 0 ∨ b = 1 := Classical.byContradiction (fun w => d (in01.mpr w))
        rcases d' with rfl | rfl
        · simp (decide := true) only [↓reduceIte]
        · simp (decide := true) only [↓reduceIte]
    · rw [if_pos ((isT_iff a).mpr t), if_pos (isIn_iff.mpr (by rw [l0, l3]; exact t))]
end MG_48_x41B8
section MG_48_x42B9
/-! what differ answers -/
def DF (h g : ph_H) (a b : Int32) : Prop := (∀ k, k < 28 → h 16 k = g 20 (28 * b.toNatClampNeg + k) ∧ h 17 k = g 21 (28 * b.toNatClampNeg + k) ∧ h 26 k = g 20 (28 * a.toNatClampNeg + k) ∧ h 27 k = g 21 (28 * a.toNatClampNeg + k)) ∧ (∀ t : Int32, iv 0 3 t → FX3_nextInstruction_s t h = g 22 (4 * b.toNatClampNeg + t.toNatClampNeg) ∧ FX3_nextInstruction_oc2 t h = g 22 (4 * a.toNatClampNeg + t.toNatClampNeg))
theorem df51 {h g : ph_H} {a b : Int32} (fa : iv 0 300 a) (fb : iv 0 300 b) (D : DF h g a b) : ∀ (q : Nat) (n x : Int32), iv 0 4 x → FX3_differences_soc2_51 q n x h = (FX12_differ_128 q a b n x g).1
  | 0, n, x, f => rfl
  | q + 1, n, x, f => by
    have k1 : (1 : Int32).toInt = 1 := by decide
    have k4 : (4 : Int32).toInt = 4 := by decide
    unfold FX3_differences_soc2_51 FX12_differ_128 FX3_differences_soc2_72 FX12_differ_165
    unfold iv at f
    by_cases c : 4 ≤ x
    · rw [if_pos c, if_pos c]
    · rw [if_neg c, if_neg c]
      rw [Int32.le_iff_toInt_le, k4] at c
      have fx : iv 0 3 x := ⟨f.1, by omega⟩
      have fx2 : iv 0 200 x := ⟨f.1, by omega⟩
      have e1 : (x + 1).toInt = x.toInt + 1 := by rw [ti_add (by omega) (by omega), k1]
      obtain ⟨d1, d2⟩ := D.2 x fx
      have ih := fun m => df51 fa fb D q m (x + 1) (by unfold iv; omega)
      have n0 : n + 0 = n := Int32.add_zero n
      rw [d1, d2, ixm (c := 4) (m := 4) fa fx2 rfl, ixm (c := 4) (m := 4) fb fx2 rfl, ih, ih, n0]
      by_cases e : g 22 (4 * a.toNatClampNeg + x.toNatClampNeg) = g 22 (4 * b.toNatClampNeg + x.toNatClampNeg)
      · rw [if_pos e, if_pos e.symm]
      · rw [if_neg e, if_neg (fun w => e w.symm)]
theorem df4 {h g : ph_H} {a b : Int32} (fa : iv 0 300 a) (fb : iv 0 300 b) (D : DF h g a b) : ∀ (q : Nat) (n x : Int32), iv 0 28 x → FX3_differences_soc2_4 q n x h = (FX12_differ_50 q a b n x g).1
  | 0, n, x, f => rfl
  | q + 1, n, x, f => by
    have k1 : (1 : Int32).toInt = 1 := by decide
    have k28 : (28 : Int32).toInt = 28 := by decide
    unfold FX3_differences_soc2_4 FX12_differ_50 FX3_differences_soc2_40 FX3_differences_soc2_43 FX12_differ_112 FX12_differ_117
    have xn := iv_nat f rfl
    unfold iv at f
    by_cases c : 28 ≤ x
    · rw [if_pos c, if_pos c]
      exact df51 fa fb D 2000 n 0 ⟨by decide, by decide⟩
    · rw [if_neg c, if_neg c]
      rw [Int32.le_iff_toInt_le, k28] at c
      have fx2 : iv 0 200 x := ⟨f.1, by omega⟩
      have e1 : (x + 1).toInt = x.toInt + 1 := by rw [ti_add (by omega) (by omega), k1]
      obtain ⟨d1, d2, d3, d4⟩ := D.1 x.toNatClampNeg (by omega)
      have ih := fun m => df4 fa fb D q m (x + 1) (by unfold iv; omega)
      have n0 : n + 0 = n := Int32.add_zero n
      rw [d1, d2, d3, d4, ixm (c := 28) (m := 28) fa fx2 rfl, ixm (c := 28) (m := 28) fb fx2 rfl, ih, ih, n0]
      by_cases e : g 20 (28 * a.toNatClampNeg + x.toNatClampNeg) = g 20 (28 * b.toNatClampNeg + x.toNatClampNeg)
      · rw [if_pos e, if_pos e.symm]
        by_cases o : g 21 (28 * a.toNatClampNeg + x.toNatClampNeg) = g 21 (28 * b.toNatClampNeg + x.toNatClampNeg)
        · rw [if_pos o, if_pos o.symm]
        · rw [if_neg o, if_neg (fun w => o w.symm)]
      · rw [if_neg e, if_neg (fun w => e w.symm)]
theorem differ_ans {z : zT} {h g : ph_H} (P : LR h g) (J : IT z g) (a b : Int32) : (FX11_differ a b h).1 = (FX12_differ a b g).1 := by
  have E := P.2.1.1
  unfold FX11_differ FX12_differ FX11_differ_46 FX11_differ_56 FX11_differ_61
  rw [E]
  by_cases c : g 0 36 = 0
  · rw [if_pos c, if_pos c]
  · have q := P.2.1.2 c
    have ei : ∀ s : Int32, FX11_isMoment s h = 0 ↔ FX12_isIn s.toInt64 0 ((g 0 38).toInt64) = 0 := fun s => by
      rw [isM_iff, isIn_iff, l0, Int32.toInt_toInt64, q.2.1]
    rw [if_neg c, if_neg c]
    by_cases da : FX12_isIn a.toInt64 0 ((g 0 38).toInt64) = 0
    · rw [if_pos da, if_pos ((ei a).mpr da)]
    · rw [if_neg da, if_neg (fun w => da ((ei a).mp w))]
      by_cases db : FX12_isIn b.toInt64 0 ((g 0 38).toInt64) = 0
      · rw [if_pos db, if_pos ((ei b).mpr db)]
      · rw [if_neg db, if_neg (fun w => db ((ei b).mp w))]
        have ma := isM_in (fun w => da ((ei a).mp w))
        have mb := isM_in (fun w => db ((ei b).mp w))
        rw [q.2.1] at ma mb
        have f300 : iv 0 300 (g 0 38) := ITv J 0 38
        have n38 := iv_nat f300 rfl
        unfold iv at f300
        have fa : iv 0 300 a := ⟨ma.1, by omega⟩
        have fb : iv 0 300 b := ⟨mb.1, by omega⟩
        have na := iv_nat fa rfl
        have nb := iv_nat fb rfl
        obtain ⟨v0, v1, Gs, q1, q2, q3, q4, q5⟩ := P.2.2.1 c
        have f1 := frC_FX3_begin_ot (h0 := h) (h 8 6) h (EQ_r h)
        have f2 := frC_FX11_replay_oc2 (h0 := h) 0 a (FX3_begin_ot (h 8 6) h) f1
        have D := LR_RD P c
        have R1 : RCo2 (FX11_replay_oc2 0 a (FX3_begin_ot (h 8 6) h)) (Gs a.toNatClampNeg) := by
          have n0 : (0 : Int32).toNatClampNeg = 0 := by decide
          have k0 : (0 : Int32).toInt = 0 := by decide
          exact rep_o q1 (by omega) 2000 a 0 _ (by rw [n0]; exact (q1.2.2 h q2).2) (fun u p r => by rw [f1 36 u rfl]; exact D u p r) (by rw [k0]; exact Int.le_refl _) (by rw [k0]; exact ma.1) (by omega) (by rw [k0]; omega)
        obtain ⟨⟨z1, I1⟩, K1, N1⟩ := q1.1 a.toNatClampNeg (by omega)
        have L2 : LR (FX11_replay_oc2 0 a (FX3_begin_ot (h 8 6) h)) g := LR_fr P f2 (EQ_r g)
        generalize FX11_replay_oc2 0 a (FX3_begin_ot (h 8 6) h) = h1 at *
        obtain ⟨-, Gt, t1, t2, t3⟩ := sb_sim L2 J c mb.1 mb.2
        obtain ⟨⟨z2, I2⟩, K2, N2⟩ := t1.1 b.toNatClampNeg (by omega)
        have fo := frO_FX11_seenBehind (h0 := h1) b h1 (EQ_r h1)
        have fd := frD_FX11_seenBehind (h0 := h1) b h1 (EQ_r h1)
        have R2 : RCo2 (FX11_seenBehind b h1) (Gs a.toNatClampNeg) := R1.congro2 (fun k i w => by
          unfold cMo2 at w
          split at w <;> first | exact fo _ _ rfl | exact fd _ _ rfl | (exact absurd w (by decide))) (fun _ _ _ => rfl) (fun _ _ => rfl)
        have DD : DF (FX11_seenBehind b h1) (hs g 0 0 0) a b := by
          refine ⟨fun k hk => ?_, fun t ht => ?_⟩
          · obtain ⟨u1, u2⟩ := t3.1 k hk
            obtain ⟨w1, w2⟩ := R2.1 k hk
            rw [u1, u2, w1, w2, hs_o (by simp), hs_o (by simp), hs_o (by simp), hs_o (by simp), (K2.1 k hk).1, (K2.1 k hk).2, (K1.1 k hk).1, (K1.1 k hk).2]
            exact ⟨rfl, rfl, rfl, rfl⟩
          · rw [nexI_eq t3 I2 ht, nexI_eqo2 R2 I1 ht, hs_o (by simp), hs_o (by simp), (K2.2.1 t ht).1, (K1.2.1 t ht).1]
            exact ⟨rfl, rfl⟩
        exact df4 fa fb DD 2000 0 0 ⟨by decide, by decide⟩
end MG_48_x42B9
section MG_48_x43D0
/-! what when answers -/
def Bw (g : ph_H) (a : Nat) (v : Int32) (s : Nat) : Int32 := if g 20 (28 * s + a) = 0 then (if g 21 (28 * s + a) = v then 1 else 0) else 0
theorem Bw01 (g : ph_H) (a : Nat) (v : Int32) (s : Nat) : Bw g a v s = 0 ∨ Bw g a v s = 1 := by
  unfold Bw
  repeat' split
  all_goals first | exact Or.inl rfl | exact Or.inr rfl
section
variable {g : ph_H} {a v n k r pv st s : Int32} {q : Nat}
theorem wh_step (ha : iv 0 11 a) (hs' : iv 0 300 s) (f38 : iv 0 300 (g 0 38)) (l : s.toInt ≤ (g 0 38).toInt) : FX12_when_54 (q + 1) a v n k r pv st s g = if Bw g a.toNatClampNeg v s.toNatClampNeg = 0 then (if pv = 0 then FX12_when_54 q a v n k r 0 st (s + 1) g else if r = n then (if k ≤ 0 then FX12_when_54 q a v n k (r + 1) 0 st (s + 1) g else if k = 1 then (st, g) else (s - 1, g)) else FX12_when_54 q a v n k (r + 1) 0 st (s + 1) g) else (if pv = 0 then FX12_when_54 q a v n k r 1 s (s + 1) g else FX12_when_54 q a v n k r 1 st (s + 1) g) := by
  have k1 : (1 : Int32).toInt = 1 := by decide
  have fa : iv 0 200 a := ⟨ha.1, by have := ha.2; omega⟩
  unfold iv at f38
  have e1 : (g 0 38 + 1).toInt = (g 0 38).toInt + 1 := by rw [ti_add (by omega) (by omega), k1]
  have n1 : ¬ g 0 38 + 1 < s := by rw [Int32.lt_iff_toInt_lt]; omega
  have n2 : ¬ g 0 38 < s := by rw [Int32.lt_iff_toInt_lt]; omega
  show FX12_when_54 (q + 1) a v n k r pv st s g = _
  rw [FX12_when_54]
  unfold FX12_when_109 FX12_when_110 FX12_when_126 FX12_when_163 FX12_when_166 Bw
  rw [if_neg n1, if_neg n2, ixm (c := 28) (m := 28) hs' fa rfl]
  by_cases c : g 20 (28 * s.toNatClampNeg + a.toNatClampNeg) = 0
  · by_cases d : g 21 (28 * s.toNatClampNeg + a.toNatClampNeg) = v
    · simp (decide := true) only [c, d, ↓reduceIte]
    · simp (decide := true) only [c, d, ↓reduceIte]
  · simp (decide := true) only [c, ↓reduceIte]
theorem wh_last (f38 : iv 0 300 (g 0 38)) (l : s = g 0 38 + 1) : FX12_when_54 (q + 1) a v n k r pv st s g = (if pv = 0 then FX12_when_54 q a v n k r 0 st (s + 1) g else if r = n then (if k ≤ 0 then FX12_when_54 q a v n k (r + 1) 0 st (s + 1) g else if k = 1 then (st, g) else (s - 1, g)) else FX12_when_54 q a v n k (r + 1) 0 st (s + 1) g) := by
  have k1 : (1 : Int32).toInt = 1 := by decide
  unfold iv at f38
  have e1 : (g 0 38 + 1).toInt = (g 0 38).toInt + 1 := by rw [ti_add (by omega) (by omega), k1]
  subst l
  have n1 : ¬ g 0 38 + 1 < g 0 38 + 1 := by rw [Int32.lt_iff_toInt_lt]; omega
  have n2 : g 0 38 < g 0 38 + 1 := by rw [Int32.lt_iff_toInt_lt]; omega
  rw [FX12_when_54]
  unfold FX12_when_109 FX12_when_110 FX12_when_126 FX12_when_163 FX12_when_166
  rw [if_neg n1, if_pos n2]
  simp (decide := true) only [↓reduceIte]
theorem wh_over (f38 : iv 0 300 (g 0 38)) (l : s = g 0 38 + 1) (h1 : 1 ≤ q) : (FX12_when_54 q a v n k r pv st (s + 1) g).1 = if k = 0 then r else -1 := by
  have k1 : (1 : Int32).toInt = 1 := by decide
  obtain ⟨q, rfl⟩ : ∃ p, q = p + 1 := ⟨q - 1, by omega⟩
  unfold iv at f38
  have e1 : (g 0 38 + 1).toInt = (g 0 38).toInt + 1 := by rw [ti_add (by omega) (by omega), k1]
  subst l
  have e2 : (g 0 38 + 1 + 1).toInt = (g 0 38).toInt + 2 := by rw [ti_add (by omega) (by omega), k1, e1]; omega
  have n1 : g 0 38 + 1 < g 0 38 + 1 + 1 := by rw [Int32.lt_iff_toInt_lt]; omega
  rw [FX12_when_54, if_pos n1]
  split <;> rfl
end
/-- the class knows what a cell held behind each step -/
def HB (h g : ph_H) (a v : Int32) : Prop := ∀ s x : Int32, 0 ≤ s.toInt → s.toInt ≤ (g 0 38).toInt → (s = 0 → x = Bw g a.toNatClampNeg v 0) → (0 < s.toInt → x = Bw g a.toNatClampNeg v (s.toNatClampNeg - 1)) → FX10_holdsBehind s a v x h = Bw g a.toNatClampNeg v s.toNatClampNeg
theorem HB_of {z : zT} {h g : ph_H} {a : Int32} (P : LR h g) (J : IT z g) (n : ¬ g 0 36 = 0) (ha : iv 0 11 a) (v : Int32) : HB h g a v := by
  intro s x s0 s1 x0 x1
  have k0 : (0 : Int32).toInt = 0 := by decide
  have f300 : iv 0 300 (g 0 38) := ITv J 0 38
  have n38 := iv_nat f300 rfl
  have an := iv_nat ha rfl
  unfold iv at f300 ha
  have sn : (s.toNatClampNeg : Int) = s.toInt := by
    rw [← Int32.toNat_toInt]
    omega
  obtain ⟨q1, q2, q3, q4, q5, q6, q7, q8, q9, q10⟩ := P.2.1.2 n
  obtain ⟨-, -, Gs, S1, -⟩ := P.2.2.1 n
  unfold FX10_holdsBehind
  by_cases c : s = 0
  · rw [if_pos c, x0 c, c]
    rfl
  · rw [if_neg c]
    have sp : 0 < s.toInt := by
      have : ¬ s.toInt = 0 := fun w => c (tI (w.trans k0.symm))
      omega
    obtain ⟨t1, t2, t3, t4, t5, t6, t7, t8, t9⟩ := q9 s.toNatClampNeg (by omega) (by omega)
    rw [t5, x1 sp]
    by_cases d : g 33 s.toNatClampNeg = a
    · rw [if_pos d]
      rw [d] at t8
      obtain ⟨u1, u2⟩ := t8 ha.1 (by omega)
      rw [u1, u2]
      rfl
    · rw [if_neg d]
      obtain ⟨p, ep⟩ : ∃ p, s.toNatClampNeg = p + 1 := ⟨s.toNatClampNeg - 1, by omega⟩
      obtain ⟨-, -, cw, -⟩ := S1.2.1 p (by omega)
      rw [← ep] at cw
      have ka := (S1.1 p (by omega)).2.1.1 a.toNatClampNeg (by omega)
      have kb := (S1.1 s.toNatClampNeg (by omega)).2.1.1 a.toNatClampNeg (by omega)
      rcases cw a.toNatClampNeg (by omega) with w | w
      · rw [ep] at kb w
        have e1 : s.toNatClampNeg - 1 = p := by omega
        rw [e1, ep]
        unfold Bw
        rw [ka.1, ka.2, kb.1, kb.2, w.1, w.2]
      · exact absurd (tI (by omega)) d
section
variable {h g : ph_H} {a v : Int32}
theorem wc_eq (ha : iv 0 11 a) (f38 : iv 0 300 (g 0 38)) (e11 : h 35 11 = g 0 38) (H : HB h g a v) (n : Int32) : ∀ (q : Nat) (c r pv x st s : Int32), c = r + pv → (pv = 0 ∨ pv = 1) → iv 0 301 s → s.toInt ≤ (g 0 38).toInt + 1 → (s = 0 → x = Bw g a.toNatClampNeg v 0) → (0 < s.toInt → x = Bw g a.toNatClampNeg v (s.toNatClampNeg - 1)) → (g 0 38).toInt + 2 - s.toInt < (q : Int) → FX10_spanCount_21 q a v c pv x s h = (FX12_when_54 q a v n 0 r pv st s g).1
  | 0, c, r, pv, x, st, s, ec, ev, fs, l, x0, x1, m => by unfold iv at f38; omega
  | q + 1, c, r, pv, x, st, s, ec, ev, fs, l, x0, x1, m => by
    have k0 : (0 : Int32).toInt = 0 := by decide
    have k1 : (1 : Int32).toInt = 1 := by decide
    have sn := iv_nat fs rfl
    unfold iv at fs
    have f38' := f38
    unfold iv at f38'
    have e1 : (s + 1).toInt = s.toInt + 1 := by rw [ti_add (by omega) (by omega), k1]
    have es : (g 0 38 + 1).toInt = (g 0 38).toInt + 1 := by rw [ti_add (by omega) (by omega), k1]
    have en : (s + 1).toNatClampNeg - 1 = s.toNatClampNeg := by
      have : ((s + 1).toNatClampNeg : Int) = s.toInt + 1 := by
        rw [← Int32.toNat_toInt]
        omega
      omega
    rw [FX10_spanCount_21]
    unfold FX10_spanCount_55
    rw [e11]
    by_cases o : g 0 38 < s
    · rw [if_pos o]
      rw [Int32.lt_iff_toInt_lt] at o
      have eo : s = g 0 38 + 1 := tI (by omega)
      rw [wh_last f38 eo]
      rcases ev with rfl | rfl
      · rw [if_pos rfl, wh_over f38 eo (by omega), if_pos rfl, ec, Int32.add_zero]
      · have w := fun n k r pv st => wh_over (a := a) (v := v) (n := n) (k := k) (r := r) (pv := pv) (st := st) (q := q) f38 eo (by omega)
        by_cases rn : r = n
        · simp (decide := true) only [rn, w, ↓reduceIte]
          rw [ec, rn]
        · simp (decide := true) only [rn, w, ↓reduceIte]
          exact ec
    · rw [if_neg o]
      rw [Int32.lt_iff_toInt_lt] at o
      rw [H s x (by omega) (by omega) x0 x1, wh_step ha ⟨fs.1, by omega⟩ f38 (by omega)]
      rcases Bw01 g a.toNatClampNeg v s.toNatClampNeg with b | b
      · rcases ev with rfl | rfl
        · rw [b, if_pos rfl, if_pos rfl, if_pos rfl]
          exact wc_eq ha f38 e11 H n q c r 0 0 st (s + 1) ec (Or.inl rfl) (by unfold iv; omega) (by omega) (fun w => absurd (congrArg Int32.toInt w) (by rw [e1, k0]; omega)) (fun _ => by rw [en]; exact b.symm) (by omega)
        · have ih := wc_eq ha f38 e11 H n q c (r + 1) 0 0 st (s + 1) (by rw [ec, Int32.add_zero]) (Or.inl rfl) (by unfold iv; omega) (by omega) (fun w => absurd (congrArg Int32.toInt w) (by rw [e1, k0]; omega)) (fun _ => by rw [en]; exact b.symm) (by omega)
          by_cases rn : r = n
          · simp (decide := true) only [b, rn, ↓reduceIte]
            rw [rn] at ih
            exact ih
          · simp (decide := true) only [b, rn, ↓reduceIte]
            exact ih
      · rcases ev with rfl | rfl
        · rw [b, if_neg (by decide), if_pos rfl, if_neg (by decide), if_pos rfl]
          exact wc_eq ha f38 e11 H n q (c + 1) r 1 1 s (s + 1) (by rw [ec, Int32.add_zero]) (Or.inr rfl) (by unfold iv; omega) (by omega) (fun w => absurd (congrArg Int32.toInt w) (by rw [e1, k0]; omega)) (fun _ => by rw [en]; exact b.symm) (by omega)
        · rw [b, if_neg (by decide), if_neg (by decide), if_neg (by decide), if_neg (by decide)]
          exact wc_eq ha f38 e11 H n q c r 1 1 st (s + 1) ec (Or.inr rfl) (by unfold iv; omega) (by omega) (fun w => absurd (congrArg Int32.toInt w) (by rw [e1, k0]; omega)) (fun _ => by rw [en]; exact b.symm) (by omega)
/-- in the span that is asked for, its first step is the answer -/
theorem wf_in (ha : iv 0 11 a) (f38 : iv 0 300 (g 0 38)) (n : Int32) : ∀ (q : Nat) (st s : Int32), iv 0 301 s → s.toInt ≤ (g 0 38).toInt + 1 → (g 0 38).toInt + 2 - s.toInt < (q : Int) → (FX12_when_54 q a v n 1 n 1 st s g).1 = st
  | 0, st, s, fs, l, m => by unfold iv at f38; omega
  | q + 1, st, s, fs, l, m => by
    have k1 : (1 : Int32).toInt = 1 := by decide
    unfold iv at fs
    have f38' := f38
    unfold iv at f38'
    have e1 : (s + 1).toInt = s.toInt + 1 := by rw [ti_add (by omega) (by omega), k1]
    have es : (g 0 38 + 1).toInt = (g 0 38).toInt + 1 := by rw [ti_add (by omega) (by omega), k1]
    by_cases o : g 0 38 < s
    · rw [Int32.lt_iff_toInt_lt] at o
      rw [wh_last f38 (tI (by omega)), if_neg (by decide), if_pos rfl, if_neg (by decide), if_pos rfl]
    · rw [Int32.lt_iff_toInt_lt] at o
      rw [wh_step ha ⟨fs.1, by omega⟩ f38 (by omega)]
      by_cases b : Bw g a.toNatClampNeg v s.toNatClampNeg = 0
      · rw [if_pos b, if_neg (by decide), if_pos rfl, if_neg (by decide), if_pos rfl]
      · rw [if_neg b, if_neg (by decide)]
        exact wf_in ha f38 n q st (s + 1) (by unfold iv; omega) (by omega) (by omega)
theorem wf_eq (ha : iv 0 11 a) (f38 : iv 0 300 (g 0 38)) (e11 : h 35 11 = g 0 38) (H : HB h g a v) (n : Int32) : ∀ (q : Nat) (c r pv x st s : Int32), c + 1 = r + pv → (pv = 0 ∨ pv = 1) → (pv = 1 → ¬ r = n) → iv 0 301 s → s.toInt ≤ (g 0 38).toInt + 1 → (s = 0 → x = Bw g a.toNatClampNeg v 0) → (0 < s.toInt → x = Bw g a.toNatClampNeg v (s.toNatClampNeg - 1)) → (g 0 38).toInt + 2 - s.toInt < (q : Int) → FX10_spanEdge_21 q a v n 1 c pv x s h = (FX12_when_54 q a v n 1 r pv st s g).1
  | 0, c, r, pv, x, st, s, ec, ev, nn, fs, l, x0, x1, m => by unfold iv at f38; omega
  | q + 1, c, r, pv, x, st, s, ec, ev, nn, fs, l, x0, x1, m => by
    have k0 : (0 : Int32).toInt = 0 := by decide
    have k1 : (1 : Int32).toInt = 1 := by decide
    have sn := iv_nat fs rfl
    unfold iv at fs
    have f38' := f38
    unfold iv at f38'
    have e1 : (s + 1).toInt = s.toInt + 1 := by rw [ti_add (by omega) (by omega), k1]
    have es : (g 0 38 + 1).toInt = (g 0 38).toInt + 1 := by rw [ti_add (by omega) (by omega), k1]
    have en : (s + 1).toNatClampNeg - 1 = s.toNatClampNeg := by
      have : ((s + 1).toNatClampNeg : Int) = s.toInt + 1 := by
        rw [← Int32.toNat_toInt]
        omega
      omega
    rw [FX10_spanEdge_21]
    unfold FX10_spanEdge_70 FX10_spanEdge_92
    rw [e11]
    by_cases o : g 0 38 < s
    · rw [if_pos o]
      rw [Int32.lt_iff_toInt_lt] at o
      have eo : s = g 0 38 + 1 := tI (by omega)
      rw [wh_last f38 eo]
      rcases ev with rfl | rfl
      · rw [if_pos rfl, if_pos rfl, wh_over f38 eo (by omega), if_neg (by decide)]
      · rw [if_neg (by decide), if_neg (by decide), if_neg (by decide), if_neg (nn rfl), wh_over f38 eo (by omega), if_neg (by decide)]
    · rw [if_neg o]
      rw [Int32.lt_iff_toInt_lt] at o
      rw [H s x (by omega) (by omega) x0 x1, wh_step ha ⟨fs.1, by omega⟩ f38 (by omega)]
      rcases Bw01 g a.toNatClampNeg v s.toNatClampNeg with b | b
      · rcases ev with rfl | rfl
        · have ih := wf_eq ha f38 e11 H n q c r 0 0 st (s + 1) ec (Or.inl rfl) (fun w => absurd w (by decide)) (by unfold iv; omega) (by omega) (fun w => absurd (congrArg Int32.toInt w) (by rw [e1, k0]; omega)) (fun _ => by rw [en]; exact b.symm) (by omega)
          simp (decide := true) only [b, ↓reduceIte]
          exact ih
        · have cr : c = r := by
            have := congrArg (· - 1) ec
            simpa [Int32.add_sub_cancel] using this
          have rn := nn rfl
          have cn : ¬ c = n := by rw [cr]; exact rn
          have ih := wf_eq ha f38 e11 H n q c (r + 1) 0 0 st (s + 1) (by rw [cr, Int32.add_zero]) (Or.inl rfl) (fun w => absurd w (by decide)) (by unfold iv; omega) (by omega) (fun w => absurd (congrArg Int32.toInt w) (by rw [e1, k0]; omega)) (fun _ => by rw [en]; exact b.symm) (by omega)
          simp (decide := true) only [b, rn, cn, ↓reduceIte]
          exact ih
      · rcases ev with rfl | rfl
        · have cr : c + 1 = r := by rw [ec, Int32.add_zero]
          simp (decide := true) only [b, ↓reduceIte]
          rw [cr]
          by_cases rn : r = n
          · rw [if_pos rn, rn]
            exact (wf_in ha f38 n q s (s + 1) (by unfold iv; omega) (by omega) (by omega)).symm
          · rw [if_neg rn]
            exact wf_eq ha f38 e11 H n q r r 1 1 s (s + 1) rfl (Or.inr rfl) (fun _ => rn) (by unfold iv; omega) (by omega) (fun w => absurd (congrArg Int32.toInt w) (by rw [e1, k0]; omega)) (fun _ => by rw [en]; exact b.symm) (by omega)
        · have ih := wf_eq ha f38 e11 H n q c r 1 1 st (s + 1) ec (Or.inr rfl) nn (by unfold iv; omega) (by omega) (fun w => absurd (congrArg Int32.toInt w) (by rw [e1, k0]; omega)) (fun _ => by rw [en]; exact b.symm) (by omega)
          simp (decide := true) only [b, ↓reduceIte]
          exact ih
theorem wl_eq (ha : iv 0 11 a) (f38 : iv 0 300 (g 0 38)) (e11 : h 35 11 = g 0 38) (H : HB h g a v) (n : Int32) : ∀ (q : Nat) (c r pv x st s : Int32), c + 1 = r + pv → (pv = 0 ∨ pv = 1) → iv 0 301 s → s.toInt ≤ (g 0 38).toInt + 1 → (s = 0 → x = Bw g a.toNatClampNeg v 0) → (0 < s.toInt → x = Bw g a.toNatClampNeg v (s.toNatClampNeg - 1)) → (g 0 38).toInt + 2 - s.toInt < (q : Int) → FX10_spanEdge_21 q a v n 0 c pv x s h = (FX12_when_54 q a v n 2 r pv st s g).1
  | 0, c, r, pv, x, st, s, ec, ev, fs, l, x0, x1, m => by unfold iv at f38; omega
  | q + 1, c, r, pv, x, st, s, ec, ev, fs, l, x0, x1, m => by
    have k0 : (0 : Int32).toInt = 0 := by decide
    have k1 : (1 : Int32).toInt = 1 := by decide
    have sn := iv_nat fs rfl
    unfold iv at fs
    have f38' := f38
    unfold iv at f38'
    have e1 : (s + 1).toInt = s.toInt + 1 := by rw [ti_add (by omega) (by omega), k1]
    have es : (g 0 38 + 1).toInt = (g 0 38).toInt + 1 := by rw [ti_add (by omega) (by omega), k1]
    have en : (s + 1).toNatClampNeg - 1 = s.toNatClampNeg := by
      have : ((s + 1).toNatClampNeg : Int) = s.toInt + 1 := by
        rw [← Int32.toNat_toInt]
        omega
      omega
    rw [FX10_spanEdge_21]
    unfold FX10_spanEdge_70 FX10_spanEdge_92
    rw [e11]
    have crl : pv = 1 → c = r := fun w => by
      rw [w] at ec
      have := congrArg (· - 1) ec
      simpa [Int32.add_sub_cancel] using this
    by_cases o : g 0 38 < s
    · rw [if_pos o]
      rw [Int32.lt_iff_toInt_lt] at o
      have eo : s = g 0 38 + 1 := tI (by omega)
      rw [wh_last f38 eo]
      rcases ev with rfl | rfl
      · rw [if_pos rfl, if_pos rfl, wh_over f38 eo (by omega), if_neg (by decide)]
      · have w := fun n k r pv st => wh_over (a := a) (v := v) (n := n) (k := k) (r := r) (pv := pv) (st := st) (q := q) f38 eo (by omega)
        rw [crl rfl]
        by_cases rn : r = n
        · simp (decide := true) only [rn, w, ↓reduceIte]
          rw [eo]
          exact (Int32.add_sub_cancel _ _).symm
        · simp (decide := true) only [rn, w, ↓reduceIte]
    · rw [if_neg o]
      rw [Int32.lt_iff_toInt_lt] at o
      rw [H s x (by omega) (by omega) x0 x1, wh_step ha ⟨fs.1, by omega⟩ f38 (by omega)]
      rcases Bw01 g a.toNatClampNeg v s.toNatClampNeg with b | b
      · rcases ev with rfl | rfl
        · have ih := wl_eq ha f38 e11 H n q c r 0 0 st (s + 1) ec (Or.inl rfl) (by unfold iv; omega) (by omega) (fun w => absurd (congrArg Int32.toInt w) (by rw [e1, k0]; omega)) (fun _ => by rw [en]; exact b.symm) (by omega)
          simp (decide := true) only [b, ↓reduceIte]
          exact ih
        · have cr := crl rfl
          have ih := wl_eq ha f38 e11 H n q r (r + 1) 0 0 st (s + 1) (by rw [Int32.add_zero]) (Or.inl rfl) (by unfold iv; omega) (by omega) (fun w => absurd (congrArg Int32.toInt w) (by rw [e1, k0]; omega)) (fun _ => by rw [en]; exact b.symm) (by omega)
          rw [cr]
          by_cases rn : r = n
          · simp (decide := true) only [b, rn, ↓reduceIte]
          · simp (decide := true) only [b, rn, ↓reduceIte]
            exact ih
      · rcases ev with rfl | rfl
        · have cr : c + 1 = r := by rw [ec, Int32.add_zero]
          have ih := wl_eq ha f38 e11 H n q r r 1 1 s (s + 1) rfl (Or.inr rfl) (by unfold iv; omega) (by omega) (fun w => absurd (congrArg Int32.toInt w) (by rw [e1, k0]; omega)) (fun _ => by rw [en]; exact b.symm) (by omega)
          simp (decide := true) only [b, ↓reduceIte]
          rw [cr]
          exact ih
        · have ih := wl_eq ha f38 e11 H n q c r 1 1 st (s + 1) ec (Or.inr rfl) (by unfold iv; omega) (by omega) (fun w => absurd (congrArg Int32.toInt w) (by rw [e1, k0]; omega)) (fun _ => by rw [en]; exact b.symm) (by omega)
          simp (decide := true) only [b, ↓reduceIte]
          exact ih
end
theorem Bw_00 (g : ph_H) : Bw (hs g 0 0 0) = Bw g := by
  funext a v s
  unfold Bw
  rw [hs_o (by simp), hs_o (by simp)]
theorem in02 {k : Int32} : FX12_isIn k.toInt64 0 2 = 0 ↔ ¬ (k = 0 ∨ k = 1 ∨ k = 2) := by
  have l2 : (2 : Int64).toInt = 2 := by decide
  have k0 : (0 : Int32).toInt = 0 := by decide
  have k1 : (1 : Int32).toInt = 1 := by decide
  have k2 : (2 : Int32).toInt = 2 := by decide
  rw [isIn_iff, l0, l2]
  constructor
  · intro w d
    rcases d with d | d | d
    · rw [d, k0] at w
      omega
    · rw [d, k1] at w
      omega
    · rw [d, k2] at w
      omega
  · intro w d
    by_cases c : k.toInt = 0
    · exact w (Or.inl (tI (c.trans k0.symm)))
    · by_cases e : k.toInt = 1
      · exact w (Or.inr (Or.inl (tI (e.trans k1.symm))))
      · exact w (Or.inr (Or.inr (tI (by rw [k2]; omega))))
theorem when_ans {z : zT} {h g : ph_H} (P : LR h g) (J : IT z g) (a v n k : Int32) : FX11_when a v n k h = (FX12_when a v n k g).1 := by
  have k0 : (0 : Int32).toInt = 0 := by decide
  have k2 : (2 : Int32).toInt = 2 := by decide
  have E := P.2.1.1
  unfold FX11_when FX12_when FX11_when_81
  rw [E]
  by_cases c : g 0 36 = 0
  · rw [if_pos c, if_pos c]
  · rw [if_neg c, if_neg c]
    by_cases t : 0 ≤ a.toInt ∧ a.toInt ≤ 11
    · have fa : iv 0 11 a := t
      have an := iv_nat fa rfl
      rw [if_neg (fun w => (isC_iff a).mp w t), if_neg (fun w => isIn_iff.mp w (by rw [l0, l11]; exact t))]
      by_cases d : FX12_isIn k.toInt64 0 2 = 0
      · rw [if_pos d]
        have d' := d
        rw [isIn_iff, l0, show (2 : Int64).toInt = 2 from by decide] at d'
        by_cases u : k < 0
        · rw [if_pos u]
        · rw [if_neg u]
          rw [Int32.lt_iff_toInt_lt, k0] at u
          rw [if_neg (by rw [Int32.le_iff_toInt_le, k2]; omega)]
      · rw [if_neg d]
        have d' : k = 0 ∨ k = 1 ∨ k = 2 := Classical.byContradiction (fun w => d (in02.mpr w))
        have f38 : iv 0 300 (hs g 0 0 0 0 38) := by rw [hs_o (by simp)]; exact ITv J 0 38
        obtain ⟨q1, q2, q3, q4, q5, q6, q7, q8, q9, q10⟩ := P.2.1.2 c
        have e11 : h 35 11 = hs g 0 0 0 0 38 := by rw [hs_o (by simp)]; exact q2
        have H : HB h (hs g 0 0 0) a v := by
          have H := HB_of P J c fa v
          unfold HB at H ⊢
          rw [Bw_00, hs_o (by simp)]
          exact H
        obtain ⟨-, -, Gs, S1, S2, -⟩ := P.2.2.1 c
        have ks := (S1.1 0 (Nat.zero_le _)).2.1.1 a.toNatClampNeg (by unfold iv at fa; omega)
        have rb := (S1.2.2 h S2).1.1 a.toNatClampNeg (by unfold iv at fa; omega)
        obtain ⟨b1, b2, -⟩ := cbeg (h 8 6) h
        rw [b1 _ (by unfold iv at fa; omega), b2 _ (by unfold iv at fa; omega), if_pos (by unfold iv at fa; omega)] at rb
        have B0 : ∀ x, x = (if h 11 a.toNatClampNeg = v then (1 : Int32) else 0) → x = Bw (hs g 0 0 0) a.toNatClampNeg v 0 := fun x e => by
          rw [e, Bw_00]
          unfold Bw
          rw [ks.1, ks.2, ← rb.1, ← rb.2, if_pos rfl]
        have fz : iv 0 301 (0 : Int32) := ⟨by decide, by decide⟩
        have hz : (0 : Int32).toInt ≤ (hs g 0 0 0 0 38).toInt + 1 := by rw [k0]; have := f38.1; omega
        have hm : (hs g 0 0 0 0 38).toInt + 2 - (0 : Int32).toInt < (2000 : Nat) := by rw [k0]; have := f38.2; omega
        have np : (0 : Int32) < 0 → False := by decide
        have nq : 0 < (0 : Int32).toInt → False := by rw [k0]; omega
        rcases d' with rfl | rfl | rfl
        · simp (decide := true) only [↓reduceIte]
          unfold FX10_spanCount FX10_spanCount_16
          have w := fun x e => wc_eq fa f38 e11 H n 2000 0 0 0 x (-1) 0 rfl (Or.inl rfl) fz hz (fun _ => B0 x e) (fun u => absurd u nq) hm
          by_cases o : h 11 a.toNatClampNeg = v
          · rw [if_pos o]
            exact w 1 (by rw [if_pos o])
          · rw [if_neg o]
            exact w 0 (by rw [if_neg o])
        · simp (decide := true) only [↓reduceIte]
          unfold FX10_spanEdge FX10_spanEdge_16
          have w := fun x e => wf_eq fa f38 e11 H n 2000 (-1) 0 0 x (-1) 0 (by decide) (Or.inl rfl) (fun u => absurd u (by decide)) fz hz (fun _ => B0 x e) (fun u => absurd u nq) hm
          by_cases o : h 11 a.toNatClampNeg = v
          · rw [if_pos o]
            exact w 1 (by rw [if_pos o])
          · rw [if_neg o]
            exact w 0 (by rw [if_neg o])
        · simp (decide := true) only [↓reduceIte]
          unfold FX10_spanEdge FX10_spanEdge_16
          have w := fun x e => wl_eq fa f38 e11 H n 2000 (-1) 0 0 x (-1) 0 (by decide) (Or.inl rfl) fz hz (fun _ => B0 x e) (fun u => absurd u nq) hm
          by_cases o : h 11 a.toNatClampNeg = v
          · rw [if_pos o]
            exact w 1 (by rw [if_pos o])
          · rw [if_neg o]
            exact w 0 (by rw [if_neg o])
    · rw [if_pos ((isC_iff a).mpr t), if_pos (isIn_iff.mpr (by rw [l0, l11]; exact t))]
end MG_48_x43D0
section MG_48_x44D1
/-! what value and place answer -/
abbrev okV (a b : Int32) : Prop := (a = -1 ∧ 0 ≤ b.toInt ∧ b.toInt ≤ 11) ∨ (¬ a = -1 ∧ (0 ≤ a.toInt ∧ a.toInt ≤ 3) ∧ 0 ≤ b.toInt ∧ b.toInt ≤ 3)
theorem vSlot_ok {a b : Int32} (c : okV a b) : ¬ vSlot a b < 0 ∧ iv 0 27 (vSlot a b) ∧ vSlot a b = if a = -1 then b else (12 + (4 * a)) + b := by
  have k0 : (0 : Int32).toInt = 0 := by decide
  have k12 : (12 : Int32).toInt = 12 := by decide
  have k4 : (4 : Int32).toInt = 4 := by decide
  unfold vSlot FX11_cellSlot FX11_localSlot
  rcases c with ⟨e, c⟩ | ⟨e, c, d⟩
  · rw [if_pos e, if_pos e, if_neg (fun w => (isC_iff b).mp w c)]
    exact ⟨by rw [Int32.lt_iff_toInt_lt, k0]; omega, ⟨c.1, by omega⟩, rfl⟩
  · rw [if_neg e, if_neg e, if_neg (fun w => (isT_iff a).mp w c), if_neg (by rw [Int32.lt_iff_toInt_lt, k0]; omega), if_pos (by rw [Int32.lt_iff_toInt_lt, k4]; omega), Int32.mul_comm a 4]
    have e1 : (4 * a).toInt = 4 * a.toInt := by rw [ti_mul (by rw [k4]; omega) (by rw [k4]; omega), k4]
    have e2 : (12 + 4 * a).toInt = 12 + 4 * a.toInt := by rw [ti_add (by omega) (by omega), k12, e1]
    have e3 : (12 + 4 * a + b).toInt = 12 + 4 * a.toInt + b.toInt := by rw [ti_add (by omega) (by omega), e2]
    exact ⟨by rw [Int32.lt_iff_toInt_lt, k0]; omega, ⟨by omega, by omega⟩, rfl⟩
theorem vSlot_no {a b : Int32} (c : ¬ okV a b) : vSlot a b < 0 := by
  have k0 : (0 : Int32).toInt = 0 := by decide
  have k4 : (4 : Int32).toInt = 4 := by decide
  unfold okV at c
  unfold vSlot FX11_cellSlot FX11_localSlot
  by_cases e : a = -1
  · rw [if_pos e, if_pos ((isC_iff b).mpr (fun w => c (Or.inl ⟨e, w⟩)))]
    decide
  · rw [if_neg e]
    by_cases t : 0 ≤ a.toInt ∧ a.toInt ≤ 3
    · rw [if_neg (fun w => (isT_iff a).mp w t)]
      by_cases u : b < 0
      · rw [if_pos u]
        decide
      · rw [if_neg u]
        rw [Int32.lt_iff_toInt_lt, k0] at u
        rw [if_neg (fun w => c (Or.inr ⟨e, t, by omega, by rw [Int32.lt_iff_toInt_lt, k4] at w; omega⟩))]
        decide
    · rw [if_pos ((isT_iff a).mpr t)]
      decide
/-- what value answers, and what it throws -/
theorem value_ref (a b c : Int32) (g : ph_H) : FX12_value a b c g = (if g 0 36 = 0 then (0, hs g 0 0 2) else if okV a b ∧ (c = 0 ∨ c = 1) then (if c = 0 then g 20 ((28 * g 0 42) + (if a = -1 then b else (12 + 4 * a) + b)).toNatClampNeg else g 21 ((28 * g 0 42) + (if a = -1 then b else (12 + 4 * a) + b)).toNatClampNeg, hs g 0 0 0) else (0, hs g 0 0 1)) := by
  have V58 : FX12_value_58 a b c g = if g 0 36 = 0 then (0, hs g 0 0 2) else (0, hs g 0 0 1) := by
    unfold FX12_value_58 FX12_value_59 FX12_value_83
    simp (decide := true) only [↓reduceIte]
  have V54 : FX12_value_54 a b c g = if g 0 36 = 0 then (0, hs g 0 0 2) else (if c = 0 then g 20 ((28 * g 0 42) + (if a = -1 then b else (12 + 4 * a) + b)).toNatClampNeg else g 21 ((28 * g 0 42) + (if a = -1 then b else (12 + 4 * a) + b)).toNatClampNeg, hs g 0 0 0) := by
    unfold FX12_value_54 FX12_value_59 FX12_value_83 FX12_value_119
    have e20 : ∀ i, hs g 0 0 0 20 i = g 20 i := fun i => hs_o (by simp)
    have e21 : ∀ i, hs g 0 0 0 21 i = g 21 i := fun i => hs_o (by simp)
    by_cases n : g 0 36 = 0
    · simp (decide := true) only [n, ↓reduceIte]
    · by_cases e : a = -1
      · by_cases d : c = 0 <;> simp (decide := true) only [n, e, d, e20, e21, ↓reduceIte]
      · by_cases d : c = 0 <;> simp (decide := true) only [n, e, d, e20, e21, ↓reduceIte]
  unfold FX12_value
  rw [V58, V54]
  by_cases n : g 0 36 = 0
  · rw [if_pos n, if_pos n, if_pos n]
    repeat' split
    all_goals rfl
  · rw [if_neg n, if_neg n, if_neg n]
    by_cases d : c = 0 ∨ c = 1
    · rw [if_neg (fun w => in01.mp w d)]
      by_cases e : a = -1
      · rw [if_pos e]
        by_cases t : 0 ≤ b.toInt ∧ b.toInt ≤ 11
        · rw [if_neg (fun w => isIn_iff.mp w (by rw [l0, l11]; exact t)), if_pos (show okV a b ∧ (c = 0 ∨ c = 1) from ⟨Or.inl ⟨e, t⟩, d⟩)]
        · rw [if_pos (isIn_iff.mpr (by rw [l0, l11]; exact t)), if_neg (fun w => w.1.elim (fun x => t x.2) (fun x => x.1 e))]
      · rw [if_neg e]
        by_cases t : 0 ≤ a.toInt ∧ a.toInt ≤ 3
        · rw [if_neg (fun w => isIn_iff.mp w (by rw [l0, l3]; exact t))]
          by_cases u : 0 ≤ b.toInt ∧ b.toInt ≤ 3
          · rw [if_neg (fun w => isIn_iff.mp w (by rw [l0, l3]; exact u)), if_pos (show okV a b ∧ (c = 0 ∨ c = 1) from ⟨Or.inr ⟨e, t, u⟩, d⟩)]
          · rw [if_pos (isIn_iff.mpr (by rw [l0, l3]; exact u)), if_neg (fun w => w.1.elim (fun x => e x.1) (fun x => u x.2.2))]
        · rw [if_pos (isIn_iff.mpr (by rw [l0, l3]; exact t)), if_neg (fun w => w.1.elim (fun x => e x.1) (fun x => t x.2.1))]
    · rw [if_pos (in01.mpr d), if_neg (fun w => d w.2)]
theorem value_both {z : zT} {h g : ph_H} (P : LR h g) (J : IT z g) (a b c : Int32) : Int32.ofNat (vCode a b c h) = (FX12_value a b c g).2 0 0 ∧ (vCode a b c h = 0 → vR a b c h = (FX12_value a b c g).1) := by
  have k0 : (0 : Int32).toInt = 0 := by decide
  have k1 : (1 : Int32).toInt = 1 := by decide
  have E := P.2.1.1
  rw [value_ref]
  unfold vCode vR
  rw [E]
  by_cases n : g 0 36 = 0
  · rw [if_pos n, if_pos n]
    refine ⟨?_, fun w => absurd w (by decide)⟩
    dsimp only
    rw [hs_self]
    rfl
  · rw [if_neg n, if_neg n]
    by_cases o : okV a b
    · obtain ⟨o1, o2, o3⟩ := vSlot_ok o
      rw [if_neg o1]
      by_cases d : c = 0 ∨ c = 1
      · rw [if_pos (show okV a b ∧ (c = 0 ∨ c = 1) from ⟨o, d⟩)]
        have c1 : ¬ c < 0 := by rcases d with rfl | rfl <;> decide
        have c2 : c ≤ 1 := by rcases d with rfl | rfl <;> decide
        rw [if_neg c1, if_pos c2]
        refine ⟨?_, fun _ => ?_⟩
        · dsimp only
          rw [hs_self]
          rfl
        · obtain ⟨f42, e10, G, ⟨z', I⟩, nw, K, R⟩ := sbG_at P J n
          have o2' := o2
          have sn := iv_nat o2 rfl
          unfold iv at o2'
          have f200 : iv 0 200 (vSlot a b) := ⟨o2'.1, by omega⟩
          dsimp only
          rw [← o3, ixm (c := 28) (m := 28) f42 f200 rfl, (K.1 _ (by omega)).1, (K.1 _ (by omega)).2, (R.1 _ (by omega)).1, (R.1 _ (by omega)).2]
      · rw [if_neg (show ¬ (okV a b ∧ (c = 0 ∨ c = 1)) from fun w => d w.2)]
        by_cases u : c < 0
        · rw [if_pos u]
          refine ⟨?_, fun w => absurd w (by decide)⟩
          dsimp only
          rw [hs_self]
          rfl
        · rw [if_neg u, if_neg (fun w => by
            rw [Int32.lt_iff_toInt_lt, k0] at u
            rw [Int32.le_iff_toInt_le, k1] at w
            by_cases o : c.toInt = 0
            · exact d (Or.inl (tI (o.trans k0.symm)))
            · exact d (Or.inr (tI (by rw [k1]; omega))))]
          refine ⟨?_, fun w => absurd w (by decide)⟩
          dsimp only
          rw [hs_self]
          rfl
    · rw [if_pos (vSlot_no o), if_neg (show ¬ (okV a b ∧ (c = 0 ∨ c = 1)) from fun w => o w.1)]
      refine ⟨?_, fun w => absurd w (by decide)⟩
      dsimp only
      rw [hs_self]
      rfl
theorem place_ref (a b : Int32) (g : ph_H) : FX12_place a b g = (if g 0 36 = 0 then (0, hs g 0 0 2) else if a < 0 then (0, hs g 0 0 1) else if g 24 (g 0 42).toNatClampNeg ≤ a then (0, hs g 0 0 1) else if g 25 ((12 * g 0 42) + a).toNatClampNeg = 1 then (if FX12_isIn b.toInt64 0 ((g 27 ((12 * g 0 42) + a).toNatClampNeg - 1).toInt64) = 0 then (0, hs g 0 0 1) else (g 28 (((192 * g 0 42) + (16 * a)) + b).toNatClampNeg, hs g 0 0 0)) else (0, hs g 0 0 1)) := by
  unfold FX12_place FX12_isThing FX12_place_56 FX12_place_57 FX12_place_79
  by_cases n : g 0 36 = 0
  · simp (decide := true) only [n, ↓reduceIte]
  · by_cases u : a < 0
    · simp (decide := true) only [n, u, ↓reduceIte]
    · by_cases t : g 24 (g 0 42).toNatClampNeg ≤ a
      · simp (decide := true) only [n, u, t, ↓reduceIte]
      · simp (decide := true) only [n, u, t, ↓reduceIte]
theorem place_both {z : zT} {h g : ph_H} (P : LR h g) (J : IT z g) (a b : Int32) : Int32.ofNat (pCode a b h) = (FX12_place a b g).2 0 0 ∧ (pCode a b h = 0 → pR a b h = (FX12_place a b g).1) := by
  have k0 : (0 : Int32).toInt = 0 := by decide
  have E := P.2.1.1
  have fin : ∀ x : Int32, (x = 1 ∨ x = 2) → ∀ c : Nat, Int32.ofNat c = x → Int32.ofNat c = ((0 : Int32), hs g 0 0 x).2 0 0 := fun x _ c e => by
    dsimp only
    rw [hs_self]
    exact e
  rw [place_ref]
  unfold pCode pR FX3_hasRowPlace_s
  rw [E]
  by_cases n : g 0 36 = 0
  · rw [if_pos n, if_pos n]
    exact ⟨fin 2 (Or.inr rfl) 2 rfl, fun w => absurd w (by decide)⟩
  · obtain ⟨f42, e10, G, ⟨z', I⟩, nw, K, R⟩ := sbG_at P J n
    obtain ⟨t1, t2⟩ := R.2.2.2.1
    obtain ⟨k20, k22, k24, k25, k28⟩ := K
    have n42 := iv_nat f42 rfl
    rw [if_neg n, if_neg n, k24, t1]
    by_cases u : a < 0
    · rw [if_pos u, if_pos u, if_pos rfl]
      exact ⟨fin 1 (Or.inl rfl) 1 rfl, fun w => absurd w (by decide)⟩
    · rw [if_neg u, if_neg u]
      by_cases t : G 0 18 ≤ a
      · rw [if_pos t, if_pos t, if_pos rfl]
        exact ⟨fin 1 (Or.inl rfl) 1 rfl, fun w => absurd w (by decide)⟩
      · rw [if_neg t, if_neg t]
        have tn := th_nn I
        rw [Int32.lt_iff_toInt_lt, k0] at u
        rw [Int32.le_iff_toInt_le] at t
        have fa : iv 0 200 a := ⟨by omega, by omega⟩
        have an := iv_nat fa rfl
        rw [ixm (c := 12) (m := 12) f42 fa rfl]
        obtain ⟨x1, x2, x3⟩ := k25 a.toNatClampNeg (by omega)
        obtain ⟨y1, y2, y3, y4⟩ := t2 a.toNatClampNeg (by omega)
        rw [x1, x3, y1, y2]
        by_cases o : G 16 a.toNatClampNeg = 1
        · rw [if_pos o, if_pos o]
          have fs : iv 0 16 (G 18 a.toNatClampNeg) := IMv I 18 _
          by_cases d : 0 ≤ b.toInt ∧ b.toInt < (G 18 a.toNatClampNeg).toInt
          · have b1 : ¬ b < 0 := by rw [Int32.lt_iff_toInt_lt, k0]; omega
            have b2 : ¬ G 18 a.toNatClampNeg ≤ b := by rw [Int32.le_iff_toInt_le]; omega
            rw [if_neg (fun w => (rowp_iff fs).mp w d), if_neg b1, if_neg b2, if_neg (show ¬ (1 : Int32) = 0 by decide)]
            refine ⟨by dsimp only; rw [hs_self]; rfl, fun _ => ?_⟩
            unfold iv at fs f42
            have k16 : (16 : Int32).toInt = 16 := by decide
            have k192 : (192 : Int32).toInt = 192 := by decide
            have bn : (b.toNatClampNeg : Int) = b.toInt := by
              rw [← Int32.toNat_toInt]
              omega
            have e1 : (16 * a).toInt = 16 * a.toInt := by rw [ti_mul (by rw [k16]; omega) (by rw [k16]; omega), k16]
            have e2 : (192 * g 0 42).toInt = 192 * (g 0 42).toInt := by rw [ti_mul (by rw [k192]; omega) (by rw [k192]; omega), k192]
            have e3 : (192 * g 0 42 + 16 * a).toInt = 192 * (g 0 42).toInt + 16 * a.toInt := by rw [ti_add (by omega) (by omega), e1, e2]
            have e4 : (192 * g 0 42 + 16 * a + b).toInt = 192 * (g 0 42).toInt + 16 * a.toInt + b.toInt := by rw [ti_add (by omega) (by omega), e3]
            have e5 : (16 * a + b).toInt = 16 * a.toInt + b.toInt := by rw [ti_add (by omega) (by omega), e1]
            have n4 : (192 * g 0 42 + 16 * a + b).toNatClampNeg = 192 * (g 0 42).toNatClampNeg + (16 * a.toNatClampNeg + b.toNatClampNeg) := by
              have : ((192 * g 0 42 + 16 * a + b).toNatClampNeg : Int) = (192 * g 0 42 + 16 * a + b).toInt := by
                rw [← Int32.toNat_toInt]
                omega
              omega
            have n5 : (a * 16 + b).toNatClampNeg = 16 * a.toNatClampNeg + b.toNatClampNeg := by
              rw [Int32.mul_comm a 16]
              have : ((16 * a + b).toNatClampNeg : Int) = (16 * a + b).toInt := by
                rw [← Int32.toNat_toInt]
                omega
              omega
            dsimp only
            rw [n4, n5, k28 _ (by omega)]
            exact y4 _ (by omega)
          · rw [if_pos ((rowp_iff fs).mpr d)]
            have w : (if b < 0 then (0 : Int32) else if G 18 a.toNatClampNeg ≤ b then 0 else 1) = 0 := by
              by_cases v : b < 0
              · rw [if_pos v]
              · rw [if_neg v]
                rw [Int32.lt_iff_toInt_lt, k0] at v
                rw [if_pos (by rw [Int32.le_iff_toInt_le]; omega)]
            rw [w, if_pos rfl]
            exact ⟨fin 1 (Or.inl rfl) 1 rfl, fun w => absurd w (by decide)⟩
        · rw [if_neg o, if_neg o, if_pos rfl]
          exact ⟨fin 1 (Or.inl rfl) 1 rfl, fun w => absurd w (by decide)⟩
end MG_48_x44D1
section MG_48_x45D2
/-! PLAY: the recorded changes on the other machine, with the program that stands now -/
theorem who21o1 {z : zT} {h g : ph_H} (R : RCo1 h g) (I : IM z g) : ∀ (q : Nat) (x : Int32), iv 0 4 x → FX3_whoGoes_oc1_21 q x h = FX12_free_12 q x g
  | 0, x, f => rfl
  | q + 1, x, f => by
    have k1 : (1 : Int32).toInt = 1 := by decide
    have k4 : (4 : Int32).toInt = 4 := by decide
    unfold iv at f
    unfold FX3_whoGoes_oc1_21 FX12_free_12
    by_cases c : 4 ≤ x
    · rw [if_pos c, if_pos c]
    · rw [if_neg c, if_neg c]
      rw [Int32.le_iff_toInt_le, k4] at c
      rw [canGo_eqo1 R I (t := x) ⟨f.1, by omega⟩, who21o1 R I q (x + 1) (by
        unfold iv
        rw [ti_add (by omega) (by omega), k1]
        omega)]
theorem who_eqo1 {z : zT} {h g : ph_H} {a : Int32} (R : RCo1 h g) (I : IM z g) (f : iv 0 3 a) : FX3_whoGoes_oc1 a h = FX12_free a g := by
  have k4 : (4 : Int32).toInt = 4 := by decide
  unfold FX3_whoGoes_oc1 FX3_whoGoes_oc1_19 FX12_free
  have f' := f
  unfold iv at f
  rw [if_neg (nn_t f.1), if_neg (by rw [Int32.le_iff_toInt_le, k4]; omega), canGo_eqo1 R I f', who21o1 R I 2000 0 ⟨by decide, by decide⟩]
def N7 (x : Int32) : Prop := ¬ x = 7
theorem N7_if {a b : Int32} {c : Prop} [Decidable c] (x : c → N7 a) (y : ¬ c → N7 b) : N7 (if c then a else b) := by
  by_cases d : c
  · rw [if_pos d]
    exact x d
  · rw [if_neg d]
    exact y d
theorem why_n7 {t o a b c n : Int32} {g : ph_H} (k : ¬ g 0 33 = 0) : N7 (FX12_why t o a b c n g) := by
  have m : iv 0 9 (FX12_modulo n 10) := modulo_iv (m := 10) rfl
  have k10 : (10 : Int32).toInt = 10 := by decide
  have k7 : (7 : Int32).toInt = 7 := by decide
  have z : ¬ 10 + FX12_modulo n 10 = 7 := fun w => by
    unfold iv at m
    have e : (10 + FX12_modulo n 10).toInt = 10 + (FX12_modulo n 10).toInt := by rw [ti_add (by omega) (by omega), k10]
    rw [w, k7] at e
    omega
  unfold FX12_why FX12_why_99 FX12_why_169 FX12_why_196 FX12_why_266
  repeat' (with_reducible refine N7_if (fun q => ?_) (fun q => ?_))
  all_goals first | (show ¬ _ = _; decide) | exact z | contradiction
theorem ins102_25 {t i a b c s0 : Int32} (G : ph_H) : FX12_instruct_102 t i a b c s0 G 0 25 = s0 := by
  have B : ∀ x6 y (K : ph_H), FX12_instruct_177 t i a b c x6 y K 0 25 = K 0 25 := fun x6 y K => by
    unfold FX12_instruct_177 FX12_instruct_195 FX12_instruct_204 FX12_instruct_251
    have w := frW_FX12_work (h0 := K) t (K 2 i.toNatClampNeg) a b c K (EQ_r K) 0 25 rfl
    have p := frX_FX12_workPlain (h0 := FX12_work t (K 2 i.toNatClampNeg) a b c K) t i a b _ (EQ_r _) 0 25 rfl
    rw [w] at p
    split
    · exact p
    · split
      · rw [goTo_o _ _ _ _ _ (by simp)]
        exact p
      · split <;> (rw [goTo_o _ _ _ _ _ (by simp)]; exact p)
  unfold FX12_instruct_102 FX12_instruct_144 FX12_instruct_148 FX12_instruct_149
  split
  · repeat' split
    all_goals rw [B, hs_self]
  · rw [hs_self]
theorem ins_25 {t i : Int32} {g : ph_H} (k : ¬ g 0 33 = 0) : ¬ FX12_instruct t i g 0 25 = 7 := by
  unfold FX12_instruct FX12_instruct_98
  split
  · split
    · rw [ins102_25, hs_self]
      exact why_n7 k
    · rw [ins102_25]
      decide
  · rw [ins102_25, hs_self]
    exact why_n7 k
theorem step_n7 {t : Int32} {g : ph_H} (k : ¬ g 0 33 = 0) (z : g 0 25 = 0) : ¬ FX12_step t g 0 25 = 7 := by
  have A : ∀ (i : Int32) (G : ph_H), ¬ G 0 33 = 0 → ¬ FX12_step_148 t i G 0 25 = 7 := fun i G e => by
    unfold FX12_step_148 FX12_step_154
    rw [hs_o (by simp), hs_o (by simp)]
    exact ins_25 e
  have G0 : ∀ (G : ph_H), G 0 33 = g 0 33 → ¬ G 0 33 = 0 := fun G e => by rw [e]; exact k
  unfold FX12_step
  by_cases c : g 15 t.toNatClampNeg < 0
  · rw [if_pos c]
    by_cases d : g 2 ((24 * t) + g 12 t.toNatClampNeg).toNatClampNeg = 16
    · rw [if_pos d, if_neg k]
      by_cases e : g 0 23 = g 0 34
      · rw [if_pos e, hs_o (by simp), hs_o (by simp), hs_o (by simp), hs_o (by simp), hs_o (by simp), hs_o (by simp), hs_o (by simp), z]
        decide
      · rw [if_neg e]
        exact A _ _ (by rw [hs_o (by simp), hs_o (by simp), hs_o (by simp), hs_o (by simp), hs_o (by simp), hs_o (by simp)]; exact k)
    · rw [if_neg d]
      exact A _ _ (by rw [hs_o (by simp), hs_o (by simp), hs_o (by simp), hs_o (by simp), hs_o (by simp), hs_o (by simp)]; exact k)
  · rw [if_neg c]
    unfold FX12_step_110 FX12_step_154
    rw [hs_o (by simp), hs_o (by simp), goTo_o _ _ _ _ _ (by simp)]
    simp [hs_get, z]
theorem free_no {g : ph_H} {a : Int32} (n : FX12_free a g < 0) (ha : iv 0 3 a) : FX12_free 0 g < 0 := by
  unfold FX12_free at *
  by_cases c : FX12_canGo a g = 0
  · rw [if_pos c] at n
    by_cases d : FX12_canGo 0 g = 0
    · rw [if_pos d]
      exact n
    · exfalso
      have : FX12_free_12 2000 0 g = 0 := by
        show FX12_free_12 (1999 + 1) 0 g = 0
        unfold FX12_free_12
        rw [if_neg (by decide), if_neg d]
      rw [this] at n
      exact absurd n (by decide)
  · rw [if_neg c] at n
    rw [Int32.lt_iff_toInt_lt] at n
    have k0 : (0 : Int32).toInt = 0 := by decide
    unfold iv at ha
    omega
end MG_48_x45D2
section MG_48_x46D3
/-! PLAY: step by step -/
def REC (n : Int32) (h g : ph_H) : Prop := (∀ i : Nat, (i : Int) < n.toInt → h 45 i = g 37 i ∧ h 46 i = g 38 i ∧ 0 ≤ (g 37 i).toInt ∧ iv 0 3 (g 38 i)) ∧ (∀ i j : Nat, i < j → (j : Int) < n.toInt → (g 37 i).toInt < (g 37 j).toInt)
def tdT (g : ph_H) (p : Nat) : Int32 := if p = 0 then 0 else g 38 (p - 1)
theorem td5 {g : ph_H} {n s1 : Int32} {p : Nat} (fn : iv 0 300 n) (Ca : ∀ i : Nat, i < p → (g 37 i).toInt < s1.toInt) (Cb : ∀ i : Nat, p ≤ i → (i : Int) < n.toInt → s1.toInt ≤ (g 37 i).toInt) (pn : (p : Int) ≤ n.toInt) : ∀ (q : Nat) (y x : Int32), 0 ≤ x.toInt → x.toInt ≤ n.toInt → n.toInt - x.toInt < (q : Int) → FX12_toldThread_5 q n s1 y x g = if (p : Int) ≤ x.toInt then y else g 38 (p - 1)
  | 0, y, x, x0, x1, m => by omega
  | q + 1, y, x, x0, x1, m => by
    have k1 : (1 : Int32).toInt = 1 := by decide
    unfold iv at fn
    unfold FX12_toldThread_5 FX12_toldThread_33
    by_cases c : n ≤ x
    · rw [if_pos c]
      rw [Int32.le_iff_toInt_le] at c
      rw [if_pos (by omega)]
    · rw [if_neg c]
      rw [Int32.le_iff_toInt_le] at c
      have xn : (x.toNatClampNeg : Int) = x.toInt := by
        rw [← Int32.toNat_toInt]
        omega
      have e1 : (x + 1).toInt = x.toInt + 1 := by rw [ti_add (by omega) (by omega), k1]
      rw [td5 fn Ca Cb pn q _ (x + 1) (by omega) (by omega) (by omega), td5 fn Ca Cb pn q _ (x + 1) (by omega) (by omega) (by omega), e1]
      by_cases d : (p : Int) ≤ x.toInt
      · rw [if_pos (by rw [Int32.le_iff_toInt_le]; exact Cb x.toNatClampNeg (by omega) (by omega)), if_pos d, if_pos (by omega)]
      · rw [if_neg (by rw [Int32.le_iff_toInt_le]; have := Ca x.toNatClampNeg (by omega); omega), if_neg d]
        by_cases e : (p : Int) ≤ x.toInt + 1
        · rw [if_pos e]
          have : x.toNatClampNeg = p - 1 := by omega
          rw [this]
        · rw [if_neg e]
theorem td_eq {g : ph_H} {n s1 : Int32} {p : Nat} (fn : iv 0 300 n) (Ca : ∀ i : Nat, i < p → (g 37 i).toInt < s1.toInt) (Cb : ∀ i : Nat, p ≤ i → (i : Int) < n.toInt → s1.toInt ≤ (g 37 i).toInt) (pn : (p : Int) ≤ n.toInt) : FX12_toldThread n s1 g = tdT g p := by
  have k0 : (0 : Int32).toInt = 0 := by decide
  unfold FX12_toldThread tdT
  have f := fn
  unfold iv at f
  rw [td5 fn Ca Cb pn 2000 0 0 (by rw [k0]; exact Int.le_refl _) (by rw [k0]; exact f.1) (by rw [k0]; omega), k0]
  by_cases c : p = 0
  · rw [if_pos c, if_pos (by omega)]
  · rw [if_neg c, if_neg (by omega)]
def SAMEo (c r : Int32 × ph_H) : Prop := c.1 = r.2 0 66 ∧ c.2 0 11 = r.1
def PS (z : zT) (n x4 th p : Int32) (h g : ph_H) : Prop := RP z g ∧ RCo1 h g ∧ g 0 25 = 0 ∧ g 0 35 = 0 ∧ ¬ g 0 33 = 0 ∧ g 0 66 = -1 ∧ h 0 11 = g 0 24 ∧ th = g 0 26 ∧ REC n h g ∧ (∀ i : Nat, (i : Int) < n.toInt → (g 37 i).toInt ≤ x4.toInt) ∧ (0 ≤ p.toInt ∧ p.toInt ≤ n.toInt) ∧ (∀ i : Nat, (i : Int) < p.toInt → (g 37 i).toInt < (g 0 24).toInt) ∧ (∀ i : Nat, p.toInt ≤ i → (i : Int) < n.toInt → (g 0 24).toInt ≤ (g 37 i).toInt) ∧ ((g 0 24).toInt ≤ x4.toInt → th = tdT g p.toNatClampNeg)
section
variable {z : zT} {n x4 x3 t p : Int32} {h g : ph_H} {L37 : Int32 → Int32 → Int32 → Int32 → ph_H → Int32 × ph_H} {L83 : Int32 → Int32 → ph_H → Int32 × ph_H}
theorem RP_IM (I : RP z g) : ∃ z', IM z' g := by
  obtain ⟨z', _, i, _⟩ := I
  exact ⟨z', i⟩
theorem pl_go (F : ∀ g', 0 ≤ g' 0 66 → L83 n x3 g' = (g' 0 24, hs g' 0 33 0)) (IH : ∀ h' g', PS z n x4 t p h' g' → (g' 0 24).toInt = (g 0 24).toInt + 1 → SAMEo (L37 n t p x4 h') (L83 n x3 g'))
  (I : RP z g) (R : RCo1 h g) (z25 : g 0 25 = 0) (z35 : g 0 35 = 0) (n33 : ¬ g 0 33 = 0) (e11 : h 0 11 = g 0 24) (rec : REC n h g) (X : ∀ i : Nat, (i : Int) < n.toInt → (g 37 i).toInt ≤ x4.toInt) (fp : 0 ≤ p.toInt ∧ p.toInt ≤ n.toInt) (Ca : ∀ i : Nat, (i : Int) < p.toInt → (g 37 i).toInt ≤ (g 0 24).toInt) (Cb : ∀ i : Nat, p.toInt ≤ i → (i : Int) < n.toInt → (g 0 24).toInt < (g 37 i).toInt) (Cd : (g 0 24).toInt ≤ x4.toInt → t = tdT g p.toNatClampNeg) (ht : iv 0 3 t) (c : ¬ FX12_canGo t g = 0) (ns : iv 0 299 (g 0 24)) : SAMEo (FX11_goByRecordc1_120 L37 n t p x4 (FX3_go_oc1 t h).1 (FX3_go_oc1 t h).2) (FX12_play_215 L83 n x3 (FX12_step t g)) := by
  have k0 : (0 : Int32).toInt = 0 := by decide
  have k1 : (1 : Int32).toInt = 1 := by decide
  obtain ⟨z', i⟩ := RP_IM I
  have fr := frP_FX3_go_oc1 (h0 := h) t h (EQ_r h)
  have f11 : (FX3_go_oc1 t h).2 0 11 = h 0 11 := frH_FX3_go_oc1 (h0 := h) t h (EQ_r h) 0 11 rfl
  have fs := frS_FX12_step (h0 := g) t g (EQ_r g)
  unfold FX11_goByRecordc1_120 FX12_play_215 FX12_play_239 FX12_play_242
  by_cases a : asksU t g
  · obtain ⟨q1, q2⟩ := go_askso1 R i ht c a
    rw [q1, if_neg (by decide), if_pos rfl, q2, hs_self, if_neg (by decide), F _ (by rw [hs_self]; decide)]
    refine ⟨?_, ?_⟩
    · dsimp only
      rw [hs_o (by simp), hs_self]
    · dsimp only
      rw [f11, e11]
      simp [hs_get]
  · obtain ⟨q1, q2, q3, q4⟩ := go_eqo1 R i ht c z25 a
    obtain ⟨s24, s26, -, -, s35⟩ := step_rec a
    rw [q1, s35, z35, if_pos rfl]
    have nn : 0 ≤ (FX12_step t g 0 25).toInt := q4.1
    have n7 := step_n7 (t := t) n33 z25
    have nm : ¬ FX12_step t g 0 25 = -1 := fun w => by
      rw [w] at nn
      exact absurd nn (by decide)
    rw [if_neg nm, if_neg n7, f11, e11]
    unfold iv at ns
    have es : (g 0 24 + 1).toInt = (g 0 24).toInt + 1 := by rw [ti_add (by omega) (by omega), k1]
    by_cases e : FX12_step t g 0 25 = 0
    · rw [if_pos e, if_pos (by rw [e]; decide)]
      have v24 : hs (FX12_step t g) 0 66 (-1) 0 24 = g 0 24 + 1 := by rw [hs_o (by simp), s24]
      refine IH _ _ ?_ (by rw [v24, es])
      obtain ⟨_, c12, _⟩ := cg_true c
      have fn : iv 0 23 (g 12 t.toNatClampNeg) := iv_nel (y := 24) (show iv 0 24 _ from IMv i 12 _) c12 rfl
      have ps := (P_step I ht fn ⟨ns.1, ns.2⟩).2.1
      have r37 : ∀ j, hs (FX12_step t g) 0 66 (-1) 37 j = g 37 j := fun j => by rw [hs_o (by simp), fs 37 j rfl]
      have r38 : ∀ j, hs (FX12_step t g) 0 66 (-1) 38 j = g 38 j := fun j => by rw [hs_o (by simp), fs 38 j rfl]
      refine ⟨RPa 0 66 ps rfl rfl, ?_, by rw [hs_o (by simp)]; exact e, by rw [hs_o (by simp), s35]; exact z35, by rw [hs_o (by simp), fs 0 33 rfl]; exact n33, hs_self _ _ _ _, by rw [hs_self, v24], by rw [hs_o (by simp), s26], ⟨fun j hj => ?_, fun j l hj hl => ?_⟩, fun j hj => by rw [r37]; exact X j hj, fp, fun j hj => ?_, fun j p1 p2 => ?_, fun w => ?_⟩
      · refine q2.congro1 (fun k j q => hs_o (fun w => ?_)) (fun k j q => hs_o (fun w => ?_)) (fun _ j => hs_o (by simp))
        · rw [w.1] at q
          exact absurd q (by simp [cMo1])
        · rw [w.1, w.2] at q
          exact absurd q (by decide)
      · rw [r37, r38, hs_o (by simp), hs_o (by simp), fr 45 j rfl, fr 46 j rfl]
        exact rec.1 j hj
      · rw [r37, r37]
        exact rec.2 j l hj hl
      · rw [r37, v24, es]
        have := Ca j hj
        omega
      · rw [r37, v24, es]
        have := Cb j p1 p2
        omega
      · rw [v24, es] at w
        have := Cd (by omega)
        unfold tdT at this ⊢
        rw [r38]
        exact this
    · have ne : ¬ FX12_step t g 0 25 ≤ 0 := fun w => e (tI (by rw [Int32.le_iff_toInt_le, k0] at w; omega))
      rw [if_neg e, if_neg ne, F _ (by rw [hs_self]; decide)]
      refine ⟨?_, ?_⟩
      · dsimp only
        rw [hs_o (by simp), hs_self]
      · dsimp only
        rw [hs_self, hs_o (by simp), s24]
end
theorem pl_loop {z : zT} {n x4 x3 : Int32} (fn : iv 0 300 n) (e3 : x3.toInt = x4.toInt + 1) (f4 : -1 ≤ x4.toInt ∧ x4.toInt ≤ 299) : ∀ (q : Nat) (th p : Int32) (h g : ph_H), PS z n x4 th p h g → 302 - (g 0 24).toInt < (q : Int) → SAMEo (FX11_goByRecordc1_37 q n th p x4 h) (FX12_play_83 q n x3 g)
  | 0, th, p, h, g, S, m => by
    have f : iv 0 300 (g 0 24) := RPv S.1 0 24
    unfold iv at f
    omega
  | q + 1, th, p, h, g, S, m => by
    have k0 : (0 : Int32).toInt = 0 := by decide
    have k1 : (1 : Int32).toInt = 1 := by decide
    have k300 : (300 : Int32).toInt = 300 := by decide
    obtain ⟨I, R, z25, z35, n33, e66, e11, eth, rec, X, fp, D1, D2, D3⟩ := S
    have f24 : iv 0 300 (g 0 24) := RPv I 0 24
    have f26 : iv 0 3 (g 0 26) := RPv I 0 26
    obtain ⟨z', i⟩ := RP_IM I
    unfold iv at f24 fn
    have F : ∀ g', 0 ≤ g' 0 66 → FX12_play_83 q n x3 g' = (g' 0 24, hs g' 0 33 0) := fun g' w => by
      obtain ⟨q1, rfl⟩ : ∃ q1, q = q1 + 1 := ⟨q - 1, by omega⟩
      unfold FX12_play_83
      rw [if_pos w]
    have FIN : ∀ (v : Int32) (hh : ph_H), 0 ≤ v → hh 0 11 = g 0 24 → SAMEo (v, hh) (FX12_play_83 q n x3 (hs g 0 66 v)) := fun v hh w e => by
      rw [F _ (by rw [hs_self]; exact w)]
      refine ⟨?_, ?_⟩
      · dsimp only
        rw [hs_o (by simp), hs_self]
      · dsimp only
        rw [hs_o (by simp)]
        exact e
    have who0 := who_eqo1 R i (a := 0) ⟨by decide, by decide⟩
    unfold FX11_goByRecordc1_37 FX12_play_83
    rw [if_neg (show ¬ 0 ≤ g 0 66 by rw [e66]; decide), e11]
    by_cases s3 : 300 ≤ g 0 24
    · rw [if_pos s3, who0]
      rw [Int32.le_iff_toInt_le, k300] at s3
      have e300 : g 0 24 = 300 := tI (by omega)
      rw [if_pos (show x3 ≤ g 0 24 by rw [Int32.le_iff_toInt_le]; omega)]
      unfold FX12_play_103 FX12_play_132 FX12_play_166 FX12_play_203 FX12_play_242
      rw [if_pos (show (0 : Int32) = 0 from rfl), if_pos (show (0 : Int32) = 0 from rfl)]
      by_cases c : FX12_free (g 0 26) g < 0
      · have c0 := free_no c f26
        rw [if_neg (show ¬ 0 ≤ FX12_free 0 g from fun w => by rw [Int32.le_iff_toInt_le] at w; rw [Int32.lt_iff_toInt_lt] at c0; omega), if_neg (show ¬ 0 ≤ FX12_free (g 0 26) g from fun w => by rw [Int32.le_iff_toInt_le] at w; rw [Int32.lt_iff_toInt_lt] at c; omega)]
        exact FIN 0 h (by decide) e11
      · rw [if_pos (show 0 ≤ FX12_free (g 0 26) g by rw [Int32.le_iff_toInt_le]; rw [Int32.lt_iff_toInt_lt] at c; omega), if_pos e300]
        by_cases d : FX12_free 0 g < 0
        · rw [if_pos d, if_neg (show ¬ 0 ≤ FX12_free 0 g from fun w => by rw [Int32.le_iff_toInt_le] at w; rw [Int32.lt_iff_toInt_lt] at d; omega)]
          exact FIN 0 h (by decide) e11
        · rw [if_neg d, if_pos (show 0 ≤ FX12_free 0 g by rw [Int32.le_iff_toInt_le]; rw [Int32.lt_iff_toInt_lt] at d; omega)]
          exact FIN 4 h (by decide) e11
    · rw [if_neg s3]
      rw [Int32.le_iff_toInt_le, k300] at s3
      have ns : iv 0 299 (g 0 24) := ⟨f24.1, by omega⟩
      have ne300 : ¬ g 0 24 = 300 := fun w => by rw [w, k300] at s3; omega
      have MID : ∀ (t p' : Int32), iv 0 3 t → (0 ≤ p'.toInt ∧ p'.toInt ≤ n.toInt) → (∀ i : Nat, (i : Int) < p'.toInt → (g 37 i).toInt ≤ (g 0 24).toInt) → (∀ i : Nat, p'.toInt ≤ i → (i : Int) < n.toInt → (g 0 24).toInt < (g 37 i).toInt) → ((g 0 24).toInt ≤ x4.toInt → t = tdT g p'.toNatClampNeg) → (x4.toInt < (g 0 24).toInt → t = g 0 26) → SAMEo (FX11_goByRecordc1_88 (FX11_goByRecordc1_37 q) n t p' x4 h) (if x3 ≤ g 0 24 then FX12_play_103 (FX12_play_83 q) n x3 0 g else FX12_play_103 (FX12_play_83 q) n x3 1 g) := fun t p' ft fp' Ca Cb Cd Ce => by
        have GO : ∀ u, iv 0 3 u → ¬ FX12_canGo u g = 0 → ((g 0 24).toInt ≤ x4.toInt → u = tdT g p'.toNatClampNeg) → SAMEo (FX11_goByRecordc1_120 (FX11_goByRecordc1_37 q) n u p' x4 (FX3_go_oc1 u h).1 (FX3_go_oc1 u h).2) (FX12_play_215 (FX12_play_83 q) n x3 (FX12_step u g)) := fun u fu cu du => pl_go F (fun h' g' S' e => pl_loop (show iv 0 300 n from fn) e3 f4 q u p' h' g' S' (by omega)) I R z25 z35 n33 e11 rec X fp' Ca Cb du fu cu ns
        unfold FX11_goByRecordc1_88 FX11_goByRecordc1_106
        rw [e11]
        by_cases told : g 0 24 ≤ x4
        · rw [if_pos told]
          rw [Int32.le_iff_toInt_le] at told
          have pn : (p'.toNatClampNeg : Int) = p'.toInt := by
            rw [← Int32.toNat_toInt]
            omega
          have es : (g 0 24 + 1).toInt = (g 0 24).toInt + 1 := by rw [ti_add (by omega) (by omega), k1]
          have td : FX12_toldThread n (g 0 24 + 1) g = t := by
            rw [td_eq (p := p'.toNatClampNeg) (show iv 0 300 n from fn) (fun i hi => by rw [es]; have := Ca i (by omega); omega) (fun i h1 h2 => by rw [es]; have := Cb i (by omega) h2; omega) (by omega)]
            exact (Cd told).symm
          rw [if_neg (show ¬ x3 ≤ g 0 24 by rw [Int32.le_iff_toInt_le]; omega)]
          unfold FX12_play_103 FX12_play_132 FX12_play_166 FX12_play_242
          have ft' := ft
          unfold iv at ft'
          have tp : 0 ≤ t := by rw [Int32.le_iff_toInt_le, k0]; exact ft'.1
          rw [if_neg (show ¬ (1 : Int32) = 0 by decide), if_neg (show ¬ (1 : Int32) = 0 by decide), td, if_neg (show ¬ 300 ≤ g 0 24 by rw [Int32.le_iff_toInt_le, k300]; omega), if_pos tp]
          by_cases c : FX12_canGo t g = 0
          · rw [if_pos c, go_noo1 R i ft c]
            unfold FX11_goByRecordc1_120
            rw [if_pos rfl]
            exact FIN 1 h (by decide) e11
          · rw [if_neg c, if_pos tp, if_neg ne300]
            exact GO t ft c Cd
        · rw [if_neg told]
          rw [Int32.le_iff_toInt_le] at told
          rw [if_pos (show x3 ≤ g 0 24 by rw [Int32.le_iff_toInt_le]; omega), Ce (by omega), who_eqo1 R i f26]
          unfold FX12_play_103 FX12_play_132 FX12_play_166 FX12_play_242
          rw [if_pos (show (0 : Int32) = 0 from rfl), if_pos (show (0 : Int32) = 0 from rfl)]
          by_cases c : FX12_free (g 0 26) g < 0
          · have nc : ¬ 0 ≤ FX12_free (g 0 26) g := fun w => by
              rw [Int32.le_iff_toInt_le] at w
              rw [Int32.lt_iff_toInt_lt] at c
              omega
            rw [if_neg nc, if_neg nc]
            exact FIN 0 h (by decide) e11
          · have nc : 0 ≤ FX12_free (g 0 26) g := by
              rw [Int32.le_iff_toInt_le]
              rw [Int32.lt_iff_toInt_lt] at c
              omega
            obtain ⟨c1, c2⟩ := free_in f26 c
            rw [if_pos nc, if_pos nc, if_neg ne300]
            exact GO _ c1 c2 (fun w => by omega)
      have fth : iv 0 3 th := by rw [eth]; exact f26
      by_cases a : n ≤ p
      · rw [if_pos a]
        rw [Int32.le_iff_toInt_le] at a
        exact MID th p fth fp (fun j hj => by have := D1 j hj; omega) (fun j h1 h2 => by omega) D3 (fun _ => eth)
      · rw [if_neg a]
        rw [Int32.le_iff_toInt_le] at a
        rw [if_neg (show ¬ 300 ≤ p by rw [Int32.le_iff_toInt_le, k300]; omega)]
        have pn : (p.toNatClampNeg : Int) = p.toInt := by
          rw [← Int32.toNat_toInt]
          omega
        obtain ⟨r1, r2, r3, r4⟩ := rec.1 p.toNatClampNeg (by omega)
        have D2p := D2 p.toNatClampNeg (by omega) (by omega)
        rw [r1, r2]
        by_cases b : g 37 p.toNatClampNeg = g 0 24
        · rw [if_pos b]
          have ep : (p + 1).toInt = p.toInt + 1 := by rw [ti_add (by omega) (by omega), k1]
          have epn : (p + 1).toNatClampNeg = p.toNatClampNeg + 1 := by
            have : ((p + 1).toNatClampNeg : Int) = p.toInt + 1 := by
              rw [← Int32.toNat_toInt]
              omega
            omega
          refine MID _ (p + 1) r4 (by omega) (fun j hj => ?_) (fun j h1 h2 => ?_) (fun _ => ?_) (fun w => ?_)
          · by_cases d : j = p.toNatClampNeg
            · rw [d, b]
              exact Int.le_refl _
            · have := D1 j (by omega)
              omega
          · have := rec.2 p.toNatClampNeg j (by omega) h2
            rw [b] at this
            exact this
          · unfold tdT
            rw [epn, if_neg (by omega), Nat.add_sub_cancel]
          · have := X p.toNatClampNeg (by omega)
            rw [b] at this
            omega
        · rw [if_neg b]
          have b' : ¬ (g 37 p.toNatClampNeg).toInt = (g 0 24).toInt := fun w => b (tI w)
          refine MID th p fth fp (fun j hj => by have := D1 j hj; omega) (fun j h1 h2 => ?_) D3 (fun _ => eth)
          by_cases d : j = p.toNatClampNeg
          · rw [d]
            omega
          · have := rec.2 p.toNatClampNeg j (by omega) h2
            omega
end MG_48_x46D3
section MG_48_x47D4
/-! what play and ended answer -/
theorem play_run {z : zT} {h g : ph_H} {a b : Int32} (P : LR h g) (J : IT z g) (n : ¬ g 0 36 = 0) (fa : 0 ≤ a.toInt ∧ a.toInt ≤ (g 0 60).toInt) (fb : 0 ≤ b.toInt ∧ b.toInt ≤ (g 0 41).toInt) : SAMEo (FX11_goByRecordc1 a (FX3_begin_on b h)) (FX12_play_59 a (FX12_begin (hs (hs (hs g 0 0 0) 0 33 1) 0 34 b))) := by
  have k0 : (0 : Int32).toInt = 0 := by decide
  have k1 : (1 : Int32).toInt = 1 := by decide
  have km : (-1 : Int32).toInt = -1 := by decide
  have k300 : (300 : Int32).toInt = 300 := by decide
  have g60 : iv 0 300 (g 0 60) := ITv J 0 60
  have g41 : iv 0 30 (g 0 41) := ITv J 0 41
  have g38 : iv 0 300 (g 0 38) := ITv J 0 38
  unfold iv at g60 g41 g38
  have f0 : iv 0 300 a := ⟨fa.1, by omega⟩
  have f1 : iv 0 30 b := ⟨fb.1, by omega⟩
  obtain ⟨PA, PB, PC, ⟨PD, PE, -⟩⟩ := P
  obtain ⟨⟨d1, d2, d3⟩, d4, d5⟩ := PD n
  obtain ⟨q1, q2, q3, q4, q5, q6, q7, q8, q9, q10⟩ := PB.2 n
  obtain ⟨w1, w2, w3, w4, w5, w6⟩ := PA
  have G0 : ∀ k i, ¬ k = 0 → (hs (hs (hs g 0 0 0) 0 33 1) 0 34 b) k i = g k i := fun k i q => by rw [hs_o (fun w => q w.1), hs_o (fun w => q w.1), hs_o (fun w => q w.1)]
  have g33 : (hs (hs (hs g 0 0 0) 0 33 1) 0 34 b) 0 33 = 1 := by rw [hs_o (by simp), hs_self]
  have n33 : ¬ (hs (hs (hs g 0 0 0) 0 33 1) 0 34 b) 0 33 = 0 := by rw [g33]; decide
  have kn0 : kn (hs (hs (hs g 0 0 0) 0 33 1) 0 34 b) = b := by
    unfold kn
    rw [if_neg n33, hs_self]
  have RB : RCo1 (FX3_begin_on b h) (FX12_begin (hs (hs (hs g 0 0 0) 0 33 1) 0 34 b)) := begin_RCo1 (h := h) (g := (hs (hs (hs g 0 0 0) 0 33 1) 0 34 b)) ⟨⟨fun t ht => by rw [G0 1 t (by decide)]; exact w1 t ht, fun i hi => by
      rw [G0 2 i (by decide), G0 3 i (by decide), G0 4 i (by decide), G0 5 i (by decide)]
      exact w2 i hi⟩, fun c hc => by rw [G0 6 c (by decide)]; exact w3 c hc, fun i => by rw [G0 2 i (by decide)]; exact w6 i⟩ kn0.symm (by rw [kn0]; exact fb.1) (fun k hk => by
      rw [kn0] at hk
      unfold vi
      rw [if_neg n33, G0 36 k (by decide), d3 k (by omega)]
      exact w4.2 k (by omega))
  obtain ⟨z1, m, i, e⟩ := J
  have i2 : IM (hs (hs z1 0 33 1) 0 34 b) (hs (hs (hs g 0 0 0) 0 33 1) 0 34 b) := IMg (k := 0) (i := 34) (IMg (k := 0) (i := 33) (IMa 0 0 i rfl rfl) (show iv 0 1 1 from iv_01) rfl) (show iv 0 30 b from f1) rfl
  have bb := SX12_begin _ i2
  have I2 : RP z (FX12_begin (hs (hs (hs g 0 0 0) 0 33 1) 0 34 b)) := ⟨_, zm_hs (zm_hs (zm_hs (zm_hs m rfl rfl) rfl rfl) rfl rfl) rfl rfl, bb.2, RMz_0 i2⟩
  obtain ⟨r1, r2, r3, r4⟩ := rbeg (hs (hs (hs g 0 0 0) 0 33 1) 0 34 b)
  obtain ⟨c1, c2, c3, c4, c5, c6, c7, c8⟩ := cbego1 b h
  have v37 : ∀ j, hs (FX12_begin (hs (hs (hs g 0 0 0) 0 33 1) 0 34 b)) 0 66 (-1) 37 j = g 37 j := fun j => by rw [hs_o (by simp), r3 37 j (by decide) (by decide), G0 37 j (by decide)]
  have v38 : ∀ j, hs (FX12_begin (hs (hs (hs g 0 0 0) 0 33 1) 0 34 b)) 0 66 (-1) 38 j = g 38 j := fun j => by rw [hs_o (by simp), r3 38 j (by decide) (by decide), G0 38 j (by decide)]
  have e24 : hs (FX12_begin (hs (hs (hs g 0 0 0) 0 33 1) 0 34 b)) 0 66 (-1) 0 24 = 0 := by rw [hs_o (by simp), r4]; simp
  have e26 : hs (FX12_begin (hs (hs (hs g 0 0 0) 0 33 1) 0 34 b)) 0 66 (-1) 0 26 = 0 := by rw [hs_o (by simp), r4]; simp
  have LOOP : ∀ x4 x3 : Int32, x3.toInt = x4.toInt + 1 → (-1 ≤ x4.toInt ∧ x4.toInt ≤ 299) → (∀ j : Nat, (j : Int) < a.toInt → (g 37 j).toInt ≤ x4.toInt) → SAMEo (FX11_goByRecordc1_37 2000 a 0 0 x4 (hs (FX3_begin_on b h) 0 11 0)) (FX12_play_83 2000 a x3 (hs (FX12_begin (hs (hs (hs g 0 0 0) 0 33 1) 0 34 b)) 0 66 (-1))) := fun x4 x3 e3 f4 X => by
    refine pl_loop (z := z) f0 e3 f4 2000 0 0 _ _ ?_ (by rw [e24, k0]; decide)
    refine ⟨RPa 0 66 I2 rfl rfl, ?_, by rw [hs_o (by simp), r4]; simp, by rw [hs_o (by simp), r4]; simp, by rw [hs_o (by simp), r4, if_neg (by decide), g33]; decide, hs_self _ _ _ _, by rw [hs_self, e24], e26.symm, ⟨fun j hj => ?_, fun j l hj hl => ?_⟩, fun j hj => by rw [v37]; exact X j hj, ⟨by rw [k0]; exact Int.le_refl _, by rw [k0]; exact fa.1⟩, fun j hj => by rw [k0] at hj; omega, fun j h1 h2 => ?_, fun _ => ?_⟩
    · refine RB.congro1 (fun k j q => hs_o (fun w => ?_)) (fun k j q => hs_o (fun w => ?_)) (fun _ j => hs_o (by simp))
      · rw [w.1] at q
        exact absurd q (by simp [cMo1])
      · rw [w.1, w.2] at q
        exact absurd q (by decide)
    · rw [v37, v38, hs_o (by simp), hs_o (by simp), c8 45 j (by decide), c8 46 j (by decide)]
      obtain ⟨u1, u2⟩ := q10 j (by omega)
      obtain ⟨u3, u4, u5⟩ := d4 j (by omega)
      exact ⟨u1, u2, u3, u5⟩
    · rw [v37, v37]
      exact d5 j l hj (by omega)
    · rw [v37, e24, k0]
      exact (d4 j (by omega)).1
    · have n0 : (0 : Int32).toNatClampNeg = 0 := by decide
      rw [n0]
      rfl
  unfold FX11_goByRecordc1 FX11_goByRecordc1_29 FX11_goByRecordc1_30 FX12_play_59 FX12_play_82
  by_cases c : a = 0
  · have f := LOOP (-1) 0 (by rw [km, k0]; omega) (by rw [km]; omega) (fun j hj => by rw [c, k0] at hj; omega)
    rw [if_pos (show a ≤ 0 by rw [c]; decide), if_pos c]
    exact f
  · have ap : 0 < a.toInt := by
      have : ¬ a.toInt = 0 := fun w => c (tI (w.trans k0.symm))
      omega
    have ea : (a - 1).toInt = a.toInt - 1 := by rw [Int32.toInt_sub, k1, bm_in (by omega) (by omega)]
    have na : ((a - 1).toNatClampNeg : Int) = a.toInt - 1 := by
      rw [← Int32.toNat_toInt]
      omega
    obtain ⟨u1, u2⟩ := q10 (a - 1).toNatClampNeg (by omega)
    obtain ⟨u3, u4, u5⟩ := d4 (a - 1).toNatClampNeg (by omega)
    rw [if_neg (show ¬ a ≤ 0 by rw [Int32.le_iff_toInt_le, k0]; omega), if_neg (show ¬ 300 < a by rw [Int32.lt_iff_toInt_lt, k300]; omega), if_neg c, c8 45 _ (by decide), u1]
    have v : (FX12_begin (hs (hs (hs g 0 0 0) 0 33 1) 0 34 b)) 37 (a - 1).toNatClampNeg = g 37 (a - 1).toNatClampNeg := by rw [r3 37 _ (by decide) (by decide), G0 37 _ (by decide)]
    rw [v]
    refine LOOP _ _ (by rw [ti_add (by omega) (by omega), k1]) ⟨by omega, by omega⟩ (fun j hj => ?_)
    by_cases d : j = (a - 1).toNatClampNeg
    · rw [d]
      exact Int.le_refl _
    · have := d5 j (a - 1).toNatClampNeg (by omega) (by omega)
      omega
theorem LR_frP {h h' g g' : ph_H} (P : LR h g) (e : EQ pP h h') (d : EQ pVP g g') (x : h' 0 12 = g' 0 66) : LR h' g' := ⟨PN_fr P.1 (EQ_sub pN0_pP e) (EQ_sub pVN0_pVP d), QR_fr P.2.1 (EQ_sub (fun k i q => pSR_pP k i (pQ_pSR k i q)) e) (EQ_sub pVR0_pVP d), SR_fr P.2.2.1 (EQ_sub pSR_pP e) (EQ_sub pVR0_pVP d), PLQ_fr P.2.2.2.1 (EQ_sub (fun k i q => pVR0_pVP k i (pX6_pVR0 k i q)) d) (EQ_sub pX7_pVP d), x, FO_fr P.2.2.2.2.2 (EQ_sub pFO_pP e) (EQ_sub pVFO_pVP d)⟩
theorem play_both {z : zT} {h g : ph_H} (P : LR h g) (J : IT z g) (a b : Int32) : (FX11_play a b h).1 = (FX12_play a b g).1 ∧ LR (FX11_play a b h).2 (FX12_play a b g).2 := by
  have k0 : (0 : Int32).toInt = 0 := by decide
  have Pz := LR_00 P
  have Q := P.2.1
  have fe := frP_FX11_play (h0 := h) a b h (EQ_r h)
  have fv := frVP_FX12_play (h0 := g) a b g (EQ_r g)
  suffices (FX11_play a b h).1 = (FX12_play a b g).1 ∧ (FX11_play a b h).2 0 12 = (FX12_play a b g).2 0 66 from ⟨this.1, LR_frP P fe fv this.2⟩
  have E := P.2.2.2.2.1
  have Z : h 0 12 = hs g 0 0 0 0 66 := by rw [hs_o (by simp)]; exact E
  unfold FX11_play FX12_play FX11_play_54
  rw [Q.1]
  by_cases c : g 0 36 = 0
  · rw [if_pos c, if_pos c]
    exact ⟨rfl, Z⟩
  · rw [if_neg c, if_neg c]
    obtain ⟨q1, q2, q3, q4, q5, q6, q7, q8, q9, q10⟩ := Q.2 c
    rw [q6, q7]
    by_cases fa : 0 ≤ a.toInt ∧ a.toInt ≤ (g 0 60).toInt
    · rw [if_neg (show ¬ a < 0 by rw [Int32.lt_iff_toInt_lt, k0]; omega), if_neg (show ¬ g 0 60 < a by rw [Int32.lt_iff_toInt_lt]; omega), if_neg (fun w => isIn_iff.mp w (by rw [l0, Int32.toInt_toInt64]; exact fa))]
      by_cases fb : 0 ≤ b.toInt ∧ b.toInt ≤ (g 0 41).toInt
      · rw [if_neg (show ¬ b < 0 by rw [Int32.lt_iff_toInt_lt, k0]; omega), if_pos (show b ≤ g 0 41 by rw [Int32.le_iff_toInt_le]; omega), if_neg (fun w => isIn_iff.mp w (by rw [l0, Int32.toInt_toInt64]; exact fb))]
        obtain ⟨s1, s2⟩ := play_run P J c fa fb
        refine ⟨s2, ?_⟩
        dsimp only
        rw [hs_self]
        exact s1
      · rw [if_pos (isIn_iff.mpr (by rw [l0, Int32.toInt_toInt64]; exact fb))]
        by_cases u : b < 0
        · rw [if_pos u]
          exact ⟨rfl, Z⟩
        · rw [Int32.lt_iff_toInt_lt, k0] at u
          rw [if_neg (show ¬ b < 0 by rw [Int32.lt_iff_toInt_lt, k0]; omega), if_neg (show ¬ b ≤ g 0 41 by rw [Int32.le_iff_toInt_le]; omega)]
          exact ⟨rfl, Z⟩
    · rw [if_pos (isIn_iff.mpr (by rw [l0, Int32.toInt_toInt64]; exact fa))]
      by_cases u : a < 0
      · rw [if_pos u]
        exact ⟨rfl, Z⟩
      · rw [Int32.lt_iff_toInt_lt, k0] at u
        rw [if_neg (show ¬ a < 0 by rw [Int32.lt_iff_toInt_lt, k0]; omega), if_pos (show g 0 60 < a by rw [Int32.lt_iff_toInt_lt]; omega)]
        exact ⟨rfl, Z⟩
theorem ended_ans {z : zT} {h g : ph_H} (P : LR h g) (J : IT z g) : FX11_ended h = (FX12_ended g).1 := P.2.2.2.2.1
end MG_48_x47D4
section MG_48_x48D5
/-! FIND: a run with CHANGES on both sides -/
abbrev frT' (g : ph_H) : Int32 := FX12_free (g 0 26) g
def chs (m : Nat) (K T : Nat → Int32) (s fr : Int32) : Int32 := if 0 < m ∧ K 0 = s then T 0 else if 1 < m ∧ K 1 = s then T 1 else fr
def CST (m : Nat) (K T : Nat → Int32) (h : ph_H) : Prop := h 52 6 = Int32.ofNat m ∧ ∀ i, i < m → h 54 i = K i ∧ h 55 i = T i
def RST (m : Nat) (K T : Nat → Int32) (g : ph_H) : Prop := g 0 74 = Int32.ofNat m ∧ ∀ i, i < m → g 42 i = K i ∧ g 43 i = T i
def KOK (m : Nat) (K : Nat → Int32) : Prop := m ≤ 2 ∧ (∀ i, i < m → 1 ≤ (K i).toInt) ∧ (m = 2 → (K 0).toInt < (K 1).toInt)
theorem chosen_eq {m : Nat} {K T : Nat → Int32} {h : ph_H} (hm : m ≤ 2) (S : CST m K T h) (fr : Int32) : FX6_chosen fr h = chs m K T (h 52 7) fr := by
  obtain ⟨e, c⟩ := S
  have n0 : (0 : Int32).toNatClampNeg = 0 := by decide
  have n1 : (0 + 1 : Int32).toNatClampNeg = 1 := by decide
  unfold FX6_chosen
  show FX6_chosen_2 (1997 + 1 + 1 + 1) fr 0 h = _
  unfold FX6_chosen_2
  rw [e, n0]
  unfold chs
  match m, hm with
  | 0, _ => simp (decide := true) only [↓reduceIte, false_and]
  | 1, _ =>
    have c0 := c 0 (by decide)
    by_cases d : K 0 = h 52 7
    · simp (decide := true) only [c0.1, c0.2, d, ↓reduceIte, true_and, and_self]
    · simp (decide := true) only [c0.1, c0.2, d, ↓reduceIte, true_and, and_false, false_and]
      unfold FX6_chosen_2
      rw [e]
      simp (decide := true) only [↓reduceIte]
  | 2, _ =>
    have c0 := c 0 (by decide)
    have c1 := c 1 (by decide)
    by_cases d : K 0 = h 52 7
    · simp (decide := true) only [c0.1, c0.2, d, ↓reduceIte, true_and, and_self]
    · simp (decide := true) only [c0.1, c0.2, d, ↓reduceIte, true_and, and_false, false_and]
      unfold FX6_chosen_2
      rw [e, n1]
      by_cases f : K 1 = h 52 7
      · simp (decide := true) only [c1.1, c1.2, f, ↓reduceIte, true_and, and_self]
      · simp (decide := true) only [c1.1, c1.2, f, ↓reduceIte, true_and, and_false, false_and]
        unfold FX6_chosen_2
        rw [e]
        simp (decide := true) only [↓reduceIte]
theorem chs_none {m : Nat} {K T : Nat → Int32} {s fr : Int32} (h : ∀ i, i < m → ¬ K i = s) : chs m K T s fr = fr := by
  unfold chs
  rw [if_neg (fun w => h 0 w.1 w.2), if_neg (fun w => h 1 w.1 w.2)]
theorem chs_at {m : Nat} {K T : Nat → Int32} {s fr : Int32} {j : Nat} (hm : m ≤ 2) (hj : j < m) (e : K j = s) (u : ∀ i, i < j → ¬ K i = s) : chs m K T s fr = T j := by
  unfold chs
  match j, hj with
  | 0, hj => rw [if_pos ⟨hj, e⟩]
  | 1, hj => rw [if_neg (fun w => u 0 (by decide) w.2), if_pos ⟨hj, e⟩]
  | j + 2, hj => omega
/-- a state of the run: the class's heap h, the reference's g -/
def ST (z : zT) (h g : ph_H) : Prop := RT z g ∧ RCo1 h g ∧ h 52 7 = g 0 24 ∧ h 52 8 = g 0 25 ∧ 0 ≤ (g 0 25).toInt
theorem RT_n33 {z : zT} {g : ph_H} (I : RT z g) : g 0 33 = 0 := by
  obtain ⟨z', _, i, e, _⟩ := I
  exact (IMz i 0 33 rfl).trans e
theorem RT_IM {z : zT} {g : ph_H} (I : RT z g) : ∃ z', IM z' g := by
  obtain ⟨z', _, i, _, _⟩ := I
  exact ⟨z', i⟩
theorem RTv {z : zT} {g : ph_H} (I : RT z g) (k i : Nat) : iv (tM k i).1 (tM k i).2 (g k i) := by
  obtain ⟨z', h⟩ := RT_IM I
  exact IMv h k i
theorem st_step {z : zT} {h h0 g : ph_H} {x : Int32} (S : ST z h g) (e0 : ∀ k i, k < 57 → h0 k i = h k i) (fx : iv 0 3 x) (c : ¬ FX12_canGo x g = 0) (f0 : g 0 25 = 0) (ns : ¬ 300 ≤ g 0 24) : ST z (hs (hs (FX3_go_oc1 x h0).2 52 8 (FX3_go_oc1 x h0).1) 52 7 ((FX3_go_oc1 x h0).2 52 7 + 1)) (FX12_step x g) ∧ FX12_step x g 0 24 = g 0 24 + 1 ∧ FX12_step x g 0 26 = x ∧ FX3_whoGoes_oc1 x (hs (FX3_go_oc1 x h0).2 52 8 (FX3_go_oc1 x h0).1) = frT' (FX12_step x g) ∧ (∀ k i, k = 54 ∨ k = 55 ∨ k = 57 ∨ k = 58 ∨ (1 ≤ k ∧ k ≤ 7) ∨ (k = 52 ∧ ¬ i = 7 ∧ ¬ i = 8) → (hs (hs (FX3_go_oc1 x h0).2 52 8 (FX3_go_oc1 x h0).1) 52 7 ((FX3_go_oc1 x h0).2 52 7 + 1)) k i = h0 k i) ∧ (∀ k i, 20 ≤ k ∨ (k = 0 ∧ i = 74) → FX12_step x g k i = g k i) := by
  obtain ⟨I, R, e7, e8, nn⟩ := S
  have k0 : (0 : Int32).toInt = 0 := by decide
  have k300 : (300 : Int32).toInt = 300 := by decide
  have n33 := RT_n33 I
  obtain ⟨z', i⟩ := RT_IM I
  have na : ¬ asksU x g := fun a => a.2.2.1 n33
  have R0 : RCo1 h0 g := R.congro1 (fun k j q => e0 k j (by
    unfold cMo1 at q
    split at q <;> first | omega | (exact absurd q (by decide)))) (fun _ _ _ => rfl) (fun _ _ => rfl)
  obtain ⟨q1, q2, q3, q4⟩ := go_eqo1 R0 i fx c f0 na
  obtain ⟨s24, s26, -, -, s35⟩ := step_rec na
  have fs := frS_FX12_step (h0 := g) x g (EQ_r g)
  have ff := frF_FX3_go_oc1 (h0 := h0) x h0 (EQ_r h0)
  have f24 : iv 0 300 (g 0 24) := RTv I 0 24
  obtain ⟨_, c12, _⟩ := cg_true c
  have fn : iv 0 23 (g 12 x.toNatClampNeg) := iv_nel (y := 24) (show iv 0 24 _ from IMv i 12 _) c12 rfl
  have ns' : iv 0 299 (g 0 24) := by
    rw [Int32.le_iff_toInt_le, k300] at ns
    unfold iv at *
    omega
  have ts := (T_step I fx fn ns').2.1
  have Rn : ∀ v w : Int32, RCo1 (hs (hs (FX3_go_oc1 x h0).2 52 8 v) 52 7 w) (FX12_step x g) := fun v w => q2.congro1 (fun k j q => by
    have : ¬ k = 52 := fun e => by
      rw [e] at q
      exact absurd q (by simp [cMo1])
    rw [hs_o (fun w => this w.1), hs_o (fun w => this w.1)]) (fun _ _ _ => rfl) (fun _ _ => rfl)
  have Rm : RCo1 (hs (FX3_go_oc1 x h0).2 52 8 (FX3_go_oc1 x h0).1) (FX12_step x g) := q2.congro1 (fun k j q => by
    have : ¬ k = 52 := fun e => by
      rw [e] at q
      exact absurd q (by simp [cMo1])
    rw [hs_o (fun w => this w.1)]) (fun _ _ _ => rfl) (fun _ _ => rfl)
  obtain ⟨z2, i2⟩ := RT_IM ts
  have g7 : (FX3_go_oc1 x h0).2 52 7 = g 0 24 := by rw [ff 52 7 rfl, e0 52 7 (by decide), e7]
  refine ⟨⟨ts, Rn _ _, ?_, ?_, q4.1⟩, s24, s26, ?_, fun k j q => ?_, fun k j q => ?_⟩
  · rw [hs_self, g7, s24]
  · rw [hs_o (by simp), hs_self, q1]
  · rw [who_eqo1 Rm i2 fx]
    unfold frT'
    rw [s26]
  · rw [hs_o (by omega), hs_o (by omega)]
    refine ff k j ?_
    have : k = 1 ∨ k = 2 ∨ k = 3 ∨ k = 4 ∨ k = 5 ∨ k = 6 ∨ k = 7 ∨ k = 52 ∨ k = 54 ∨ k = 55 ∨ k = 57 ∨ k = 58 := by omega
    rcases this with rfl | rfl | rfl | rfl | rfl | rfl | rfl | rfl | rfl | rfl | rfl | rfl <;> rfl
  · refine fs k j ?_
    unfold pS
    split
    · rcases q with q | q
      · omega
      · rw [q.2]
        rfl
    all_goals first | omega | rfl
end MG_48_x48D5
section MG_48_x49D6
/-! FIND: heads of a run, what comes behind a step -/
def ENDg (g : ph_H) : Prop := frT' g < 0 ∨ ¬ g 0 25 = 0 ∨ 300 ≤ g 0 24
def PASS (g : ph_H) (t : Int32) : Prop := g 0 25 = 0 ∧ ¬ g 0 24 = 300 ∧ ¬ frT' g < 0 ∧ ¬ t = frT' g ∧ ¬ FX12_canGo t g = 0
def HD (z : zT) (m : Nat) (K T : Nat → Int32) (j : Nat) (x : Int32) (h g : ph_H) : Prop := ST z h g ∧ RST m K T g ∧ j ≤ m ∧ (∀ i, i < j → (K i).toInt ≤ (g 0 24).toInt) ∧ (∀ i, j ≤ i → i < m → (g 0 24).toInt < (K i).toInt) ∧ x = chs m K T (g 0 24) (frT' g) ∧ (x = frT' g ∨ (g 0 25 = 0 ∧ ¬ 300 ≤ g 0 24 ∧ ¬ frT' g < 0 ∧ iv 0 3 x ∧ ¬ FX12_canGo x g = 0))
section
variable {z : zT} {m : Nat} {K T : Nat → Int32} {j : Nat} {x : Int32} {h g : ph_H} {q : Nat}
theorem hd_go (H : HD z m K T j x h g) (n : ¬ ENDg g) : iv 0 3 x ∧ ¬ FX12_canGo x g = 0 := by
  obtain ⟨S, _, _, _, _, _, d⟩ := H
  have f26 : iv 0 3 (g 0 26) := RTv S.1 0 26
  rcases d with d | d
  · rw [d]
    exact free_in f26 (fun w => n (Or.inl w))
  · exact d.2.2.2
theorem hd_x (H : HD z m K T j x h g) (e : ENDg g) : x = frT' g := by
  obtain ⟨S, _, _, _, _, _, d⟩ := H
  rcases d with d | d
  · exact d
  · rcases e with e | e | e
    · exact absurd e d.2.2.1
    · exact absurd d.1 e
    · exact absurd e d.2.1
theorem hd_end (H : HD z m K T j x h g) (e : ENDg g) : FX12_tryRun_12 (q + 1) (Int32.ofNat j) x g = FX12_tryRun_127 (Int32.ofNat j) g := by
  have ex := hd_x H e
  unfold FX12_tryRun_12
  rw [ex]
  rcases e with e | e | e
  · rw [if_pos e]
  · rw [if_neg e]
    split <;> rfl
  · rw [if_pos e]
    split
    · rfl
    · split <;> rfl
theorem hd_on (H : HD z m K T j x h g) (n : ¬ ENDg g) : FX12_tryRun_12 (q + 1) (Int32.ofNat j) x g = FX12_tryRun_38 (FX12_tryRun_12 q) (Int32.ofNat j) (FX12_step x g) := by
  have k0 : (0 : Int32).toInt = 0 := by decide
  obtain ⟨a, -⟩ := hd_go H n
  unfold iv at a
  rw [FX12_tryRun_12]
  have n25 : g 0 25 = 0 := Classical.byContradiction (fun w => n (Or.inr (Or.inl w)))
  rw [if_neg (show ¬ x < 0 by rw [Int32.lt_iff_toInt_lt, k0]; omega), if_pos n25, if_neg (fun w => n (Or.inr (Or.inr w)))]
theorem on_toInt {n : Nat} (h : n ≤ 3) : (Int32.ofNat n).toInt = n := by
  match n, h with
  | 0, _ => rfl
  | 1, _ => rfl
  | 2, _ => rfl
  | 3, _ => rfl
theorem on_nat {n : Nat} (h : n ≤ 3) : (Int32.ofNat n).toNatClampNeg = n := by
  match n, h with
  | 0, _ => rfl
  | 1, _ => rfl
  | 2, _ => rfl
  | 3, _ => rfl
theorem on_succ {n : Nat} (h : n ≤ 2) : Int32.ofNat n + 1 = Int32.ofNat (n + 1) := by
  match n, h with
  | 0, _ => rfl
  | 1, _ => rfl
  | 2, _ => rfl
/-- behind a step -/
theorem n38 (L : Int32 → Int32 → ph_H → Int32 × ph_H) (ok : KOK m K) (TK : ∀ i, i < m → iv 0 3 (T i)) (S : ST z h g) (R : RST m K T g) (hj : j ≤ m) (A : ∀ i, i < j → (K i).toInt < (g 0 24).toInt) (B : ∀ i, j ≤ i → i < m → (g 0 24).toInt ≤ (K i).toInt) : (j < m ∧ K j = g 0 24 ∧ ¬ PASS g (T j) ∧ FX12_tryRun_38 L (Int32.ofNat j) g = (0, g)) ∨ (j < m ∧ K j = g 0 24 ∧ PASS g (T j) ∧ FX12_tryRun_38 L (Int32.ofNat j) g = L (Int32.ofNat (j + 1)) (T j) g ∧ HD z m K T (j + 1) (T j) h g) ∨ (¬ (j < m ∧ K j = g 0 24) ∧ FX12_tryRun_38 L (Int32.ofNat j) g = L (Int32.ofNat j) (frT' g) g ∧ HD z m K T j (frT' g) h g) := by
  have k0 : (0 : Int32).toInt = 0 := by decide
  have k300 : (300 : Int32).toInt = 300 := by decide
  obtain ⟨m2, K1, K2⟩ := ok
  have f24 : iv 0 300 (g 0 24) := RTv S.1 0 24
  unfold iv at f24
  have nn := S.2.2.2.2
  obtain ⟨r1, r2⟩ := R
  have other : ¬ (j < m ∧ K j = g 0 24) → ∀ i, i < m → ¬ K i = g 0 24 := fun n i hi e => by
    by_cases c : i < j
    · have := A i c
      rw [e] at this
      omega
    · by_cases d : i = j
      · exact n ⟨by omega, by rw [← d]; exact e⟩
      · have b := B j (Nat.le_refl _) (by omega)
        have : m = 2 := by omega
        have u := K2 this
        have ej : j = 0 := by omega
        have ei : i = 1 := by omega
        subst ej
        subst ei
        rw [e] at u
        have : ¬ (K 0).toInt = (g 0 24).toInt := fun w => n ⟨by omega, tI w⟩
        omega
  unfold FX12_tryRun_38
  rw [r1]
  by_cases c : j < m
  · have le : ¬ Int32.ofNat m ≤ Int32.ofNat j := by rw [Int32.le_iff_toInt_le, on_toInt (by omega), on_toInt (by omega)]; omega
    rw [if_neg le, on_nat (by omega), (r2 j c).1, (r2 j c).2]
    by_cases d : K j = g 0 24
    · rw [if_pos d.symm]
      by_cases P : PASS g (T j)
      · right
        left
        obtain ⟨p1, p2, p3, p4, p5⟩ := P
        refine ⟨c, d, ⟨p1, p2, p3, p4, p5⟩, ?_, S, ⟨r1, r2⟩, by omega, fun i hi => ?_, fun i h1 h2 => ?_, ?_, Or.inr ⟨p1, fun w => p2 (tI (by rw [Int32.le_iff_toInt_le, k300] at w; omega)), p3, TK j c, p5⟩⟩
        · rw [if_neg (show ¬ 0 < g 0 25 by rw [p1]; decide), if_neg p2, if_neg p3, if_neg p4, if_neg p5, on_succ (by omega)]
        · by_cases e : i = j
          · rw [e, d]
            exact Int.le_refl _
          · have := A i (by omega)
            omega
        · have : m = 2 := by omega
          have u := K2 this
          have ej : j = 0 := by omega
          have ei : i = 1 := by omega
          subst ej
          subst ei
          rw [d] at u
          exact u
        · exact (chs_at m2 c d (fun i hi e => by have := A i hi; rw [e] at this; omega)).symm
      · left
        refine ⟨c, d, P, ?_⟩
        by_cases p1 : g 0 25 = 0
        · rw [if_neg (show ¬ 0 < g 0 25 by rw [p1]; decide)]
          by_cases p2 : g 0 24 = 300
          · rw [if_pos p2]
          · rw [if_neg p2]
            by_cases p3 : frT' g < 0
            · rw [if_pos p3]
            · rw [if_neg p3]
              by_cases p4 : T j = frT' g
              · rw [if_pos p4]
              · rw [if_neg p4, if_pos (Classical.byContradiction (fun p5 => P ⟨p1, p2, p3, p4, p5⟩))]
        · rw [if_pos (show 0 < g 0 25 by
            rw [Int32.lt_iff_toInt_lt, k0]
            have : ¬ (g 0 25).toInt = 0 := fun w => p1 (tI (w.trans k0.symm))
            omega)]
    · right
      right
      have nx : ¬ (j < m ∧ K j = g 0 24) := fun w => d w.2
      refine ⟨nx, by rw [if_neg (fun w => d w.symm)], S, ⟨r1, r2⟩, hj, fun i hi => by have := A i hi; omega, fun i h1 h2 => ?_, (chs_none (other nx)).symm, Or.inl rfl⟩
      have := B i h1 h2
      have w : ¬ (K i).toInt = (g 0 24).toInt := fun w => other nx i h2 (tI w)
      omega
  · right
    right
    have ej : j = m := by omega
    have nx : ¬ (j < m ∧ K j = g 0 24) := fun w => c w.1
    refine ⟨nx, ?_, S, ⟨r1, r2⟩, hj, fun i hi => by have := A i hi; omega, fun i h1 h2 => by omega, (chs_none (other nx)).symm, Or.inl rfl⟩
    rw [if_pos (by rw [Int32.le_iff_toInt_le, on_toInt (by omega), on_toInt (by omega)]; omega)]
end
/-- with all CHANGES made a run counts -/
theorem ends1 {m : Nat} (m2 : m ≤ 3) : ∀ (q : Nat) (x : Int32) (g : ph_H), g 0 33 = 0 → g 0 74 = Int32.ofNat m → 0 ≤ (g 0 24).toInt → (g 0 24).toInt ≤ 300 → 301 - (g 0 24).toInt < (q : Int) → (FX12_tryRun_12 q (Int32.ofNat m) x g).1 = 1
  | 0, x, g, e, f, l, u, b => by omega
  | q + 1, x, g, e, f, l, u, b => by
    have k1 : (1 : Int32).toInt = 1 := by decide
    have k300 : (300 : Int32).toInt = 300 := by decide
    have fin : (FX12_tryRun_127 (Int32.ofNat m) g).1 = 1 := by
      unfold FX12_tryRun_127
      rw [if_pos f.symm]
    unfold FX12_tryRun_12
    by_cases c : x < 0
    · rw [if_pos c]
      exact fin
    · rw [if_neg c]
      by_cases d : g 0 25 = 0
      · rw [if_pos d]
        by_cases s : 300 ≤ g 0 24
        · rw [if_pos s]
          exact fin
        · rw [if_neg s]
          rw [Int32.le_iff_toInt_le, k300] at s
          have na : ¬ asksU x g := fun a => a.2.2.1 e
          obtain ⟨s24, -⟩ := step_rec na
          have fs := frS_FX12_step (h0 := g) x g (EQ_r g)
          have es : (g 0 24 + 1).toInt = (g 0 24).toInt + 1 := by rw [ti_add (by omega) (by omega), k1]
          unfold FX12_tryRun_38
          rw [fs 0 74 rfl, f, if_pos (by rw [Int32.le_iff_toInt_le]; exact Int.le_refl _)]
          exact ends1 m2 q _ _ (by rw [fs 0 33 rfl]; exact e) (by rw [fs 0 74 rfl]; exact f) (by rw [s24]; omega) (by rw [s24]; omega) (by rw [s24]; omega)
      · rw [if_neg d]
        exact fin
end MG_48_x49D6
