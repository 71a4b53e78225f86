/-! SEEN BEHIND a step: the class's machine has that step's state again -/
theorem LR_00' {h g : ph_H} (P : LR h g) : LR h (hs g 0 0 0) := LR_00 P
def RD (h g : ph_H) (n : Nat) : Prop := ∀ s : Nat, 0 < s → s ≤ n → h 36 s = g 29 s
theorem rep_s {g : ph_H} {Gs : Nat → ph_H} {n : Nat} (S : SQ g Gs n) (n3 : n ≤ 300) : ∀ (q : Nat) (a x : Int32) (h : ph_H), RC h (Gs x.toNatClampNeg) → RD h g n → 0 ≤ x.toInt → x.toInt ≤ a.toInt → a.toInt ≤ n → a.toInt - x.toInt < (q : Int) → RC (FX11_replay_s_3 q a x h) (Gs a.toNatClampNeg)
  | 0, a, x, h, R, D, x0, xa, an, m => by omega
  | q + 1, a, x, h, R, D, x0, xa, an, m => by
    have k1 : (1 : Int32).toInt = 1 := by decide
    have k300 : (300 : Int32).toInt = 300 := by decide
    unfold FX11_replay_s_3 FX11_replay_s_33
    by_cases c : a ≤ x
    · rw [if_pos c]
      rw [Int32.le_iff_toInt_le] at c
      have : x = a := tI (by omega)
      rw [← this]
      exact R
    · rw [if_neg c]
      rw [Int32.le_iff_toInt_le] at c
      rw [if_neg (by rw [Int32.le_iff_toInt_le, k300]; omega)]
      have e1 : (x + 1).toInt = x.toInt + 1 := by rw [ti_add (by omega) (by omega), k1]
      have xn : (x.toNatClampNeg : Int) = x.toInt := by
        rw [← Int32.toNat_toInt]
        omega
      have en : (x + 1).toNatClampNeg = x.toNatClampNeg + 1 := by
        have : ((x + 1).toNatClampNeg : Int) = x.toInt + 1 := by
          rw [← Int32.toNat_toInt]
          omega
        omega
      obtain ⟨s1, s2, s3⟩ := S.2.1 x.toNatClampNeg (by omega)
      have ed : h 36 (x + 1).toNatClampNeg = g 29 (x.toNatClampNeg + 1) := by rw [en, D _ (by omega) (by omega)]
      rw [ed]
      have f := frD_FX3_go_s (h0 := h) (g 29 (x.toNatClampNeg + 1)) h (EQ_r h)
      refine rep_s S n3 q a (x + 1) _ ?_ ?_ (by omega) (by omega) an (by omega)
      · rw [en]
        exact s2.1 h R
      · intro s p r
        rw [f 36 s rfl]
        exact D s p r
theorem rep_o {g : ph_H} {Gs : Nat → ph_H} {n : Nat} (S : SQ g Gs n) (n3 : n ≤ 300) : ∀ (q : Nat) (a x : Int32) (h : ph_H), RCo2 h (Gs x.toNatClampNeg) → RD h g n → 0 ≤ x.toInt → x.toInt ≤ a.toInt → a.toInt ≤ n → a.toInt - x.toInt < (q : Int) → RCo2 (FX11_replay_oc2_3 q a x h) (Gs a.toNatClampNeg)
  | 0, a, x, h, R, D, x0, xa, an, m => by omega
  | q + 1, a, x, h, R, D, x0, xa, an, m => by
    have k1 : (1 : Int32).toInt = 1 := by decide
    have k300 : (300 : Int32).toInt = 300 := by decide
    unfold FX11_replay_oc2_3 FX11_replay_oc2_33
    by_cases c : a ≤ x
    · rw [if_pos c]
      rw [Int32.le_iff_toInt_le] at c
      have : x = a := tI (by omega)
      rw [← this]
      exact R
    · rw [if_neg c]
      rw [Int32.le_iff_toInt_le] at c
      rw [if_neg (by rw [Int32.le_iff_toInt_le, k300]; omega)]
      have e1 : (x + 1).toInt = x.toInt + 1 := by rw [ti_add (by omega) (by omega), k1]
      have xn : (x.toNatClampNeg : Int) = x.toInt := by
        rw [← Int32.toNat_toInt]
        omega
      have en : (x + 1).toNatClampNeg = x.toNatClampNeg + 1 := by
        have : ((x + 1).toNatClampNeg : Int) = x.toInt + 1 := by
          rw [← Int32.toNat_toInt]
          omega
        omega
      obtain ⟨s1, s2, s3⟩ := S.2.1 x.toNatClampNeg (by omega)
      have ed : h 36 (x + 1).toNatClampNeg = g 29 (x.toNatClampNeg + 1) := by rw [en, D _ (by omega) (by omega)]
      rw [ed]
      have f := frC_FX3_go_oc2 (h0 := h) (g 29 (x.toNatClampNeg + 1)) h (EQ_r h)
      refine rep_o S n3 q a (x + 1) _ ?_ ?_ (by omega) (by omega) an (by omega)
      · rw [en]
        exact s2.2 h R
      · intro s p r
        rw [f 36 s rfl]
        exact D s p r
theorem RC_9 {h g : ph_H} {v : Int32} (R : RC h g) : RC (hs h 0 9 v) g := R.congr (fun k i q => hs_o (fun w => by rw [w.1] at q; exact absurd q (by simp [cM]))) (fun _ _ _ => rfl) (fun _ _ => rfl)
theorem LR_RD {h g : ph_H} (P : LR h g) (n : ¬ g 0 36 = 0) : RD h g (g 0 38).toNatClampNeg := fun s p r => by
  obtain ⟨q1, q2, q3, q4, q5, q6, q7, q8, q9, q10⟩ := P.2.1.2 n
  by_cases c : 0 ≤ (g 0 38).toInt
  · have : ((g 0 38).toNatClampNeg : Int) = (g 0 38).toInt := by
      rw [← Int32.toNat_toInt]
      omega
    exact (q9 s p (by omega)).1
  · have : (g 0 38).toNatClampNeg = 0 := by
      rw [← Int32.toNat_toInt]
      omega
    omega
theorem sb_9 (s : Int32) (h : ph_H) : FX11_seenBehind s h 0 9 = s := by
  unfold FX11_seenBehind FX11_seenBehind_26 FX11_seenBehind_31 FX11_seenBehind_44
  split <;> rw [hs_self]
/-- seenBehind keeps what holds between two calls, and has the state of that step -/
theorem sb_sim {z : zT} {h g : ph_H} {s : Int32} (P : LR h g) (J : IT z g) (n : ¬ g 0 36 = 0) (s0 : 0 ≤ s.toInt) (s1 : s.toInt ≤ (g 0 38).toInt) : LR (FX11_seenBehind s h) g ∧ ∃ Gs, SQ g Gs (g 0 38).toNatClampNeg ∧ TP h (Gs 0) ∧ RC (FX11_seenBehind s h) (Gs s.toNatClampNeg) := by
  have D := LR_RD P n
  have f300 : iv 0 300 (g 0 38) := ITv J 0 38
  have n38 := iv_nat f300 rfl
  unfold iv at f300
  have fd := frD_FX11_seenBehind (h0 := h) s h (EQ_r h)
  obtain ⟨Pa, Pb, Pc, Px⟩ := P
  obtain ⟨v0, v1, Gs, q1, q2, q3, q4, q5⟩ := Pc n
  have R : RC (FX11_seenBehind s h) (Gs s.toNatClampNeg) := by
    unfold FX11_seenBehind FX11_seenBehind_26 FX11_seenBehind_31 FX11_seenBehind_44 FX11_replay_s
    by_cases c : h 0 9 ≤ s
    · rw [if_pos c]
      rw [Int32.le_iff_toInt_le] at c
      exact RC_9 (rep_s q1 (by omega) 2000 s (h 0 9) h q5 D q3 c (by omega) (by omega))
    · rw [if_neg c]
      have n0 : (0 : Int32).toNatClampNeg = 0 := by decide
      have k0 : (0 : Int32).toInt = 0 := by decide
      have b := (q1.2.2 h q2).1
      have fb := frD_FX3_begin_st (h0 := h) (h 8 6) h (EQ_r h)
      rw [hs_self]
      refine RC_9 (rep_s q1 (by omega) 2000 s 0 _ (by rw [n0]; exact RC_9 b) (fun u p r => ?_) (by rw [k0]; exact Int.le_refl _) (by rw [k0]; exact s0) (by omega) (by rw [k0]; omega))
      rw [hs_o (by simp), fb 36 u rfl]
      exact D u p r
  have TT : TP (FX11_seenBehind s h) (Gs 0) := TP_fr q2 (fun k i q => fd k i (by
    have : k = 8 ∨ k = 9 ∨ k = 10 ∨ k = 11 ∨ k = 12 ∨ k = 13 ∨ k = 14 := by omega
    rcases this with rfl | rfl | rfl | rfl | rfl | rfl | rfl <;> rfl))
  exact ⟨⟨PN_fr Pa (EQ_sub pN0_pD fd) (EQ_r g), QR_fr Pb (EQ_sub pQ_pD fd) (EQ_r g), fun _ => ⟨v0, v1, Gs, q1, TT, by rw [sb_9]; exact s0, by rw [sb_9]; exact s1, by rw [sb_9]; exact R⟩, Px.1, by rw [fd 0 12 rfl]; exact Px.2⟩, Gs, q1, q2, R⟩
theorem LR_sb {z : zT} {h g : ph_H} {s : Int32} (P : LR h g) (J : IT z g) (e : ¬ g 0 36 = 0 → 0 ≤ s.toInt ∧ s.toInt ≤ (g 0 38).toInt) : LR (FX11_seenBehind s h) g := by
  by_cases n : g 0 36 = 0
  · have fd := frD_FX11_seenBehind (h0 := h) s h (EQ_r h)
    exact ⟨PN_fr P.1 (EQ_sub pN0_pD fd) (EQ_r g), QR_fr P.2.1 (EQ_sub pQ_pD fd) (EQ_r g), fun w => absurd n w, P.2.2.2.1, by rw [fd 0 12 rfl]; exact P.2.2.2.2⟩
  · exact (sb_sim P J n (e n).1 (e n).2).1
def vH (h h' : ph_H) : Prop := h' = h ∨ h' = FX11_seenBehind (h 0 10) h
theorem LR_10 {h g : ph_H} (P : LR h g) (n : ¬ g 0 36 = 0) : h 0 10 = g 0 42 ∧ 0 ≤ (g 0 42).toInt ∧ (g 0 42).toInt ≤ (g 0 38).toInt := by
  obtain ⟨q1, q2, q3, q4, q5, q6, q7, q8, q9, q10⟩ := P.2.1.2 n
  obtain ⟨v0, v1, -⟩ := P.2.2.1 n
  exact ⟨q8, v0, v1⟩
theorem LR_vH {z : zT} {h h' g : ph_H} (P : LR h g) (J : IT z g) (q : vH h h') : LR h' g := by
  rcases q with rfl | rfl
  · exact P
  · exact LR_sb P J (fun n => by
      obtain ⟨a, b, c⟩ := LR_10 P n
      rw [a]
      exact ⟨b, c⟩)
theorem LR_sb35 {z : zT} {h g : ph_H} (P : LR h g) (J : IT z g) : LR (FX11_seenBehind (h 35 11) h) g := LR_sb P J (fun n => by
  obtain ⟨q1, q2, q3, q4, q5, q6, q7, q8, q9, q10⟩ := P.2.1.2 n
  have f300 : iv 0 300 (g 0 38) := ITv J 0 38
  rw [q2]
  exact ⟨f300.1, Int.le_refl _⟩)
theorem thing_vH (a b : Int32) (h : ph_H) : vH h (FX11_thing a b h).2 := by
  unfold FX11_thing FX11_thing_18
  repeat' split
  all_goals first | exact Or.inl rfl | exact Or.inr rfl
theorem thread_vH (a b : Int32) (h : ph_H) : vH h (FX11_thread a b h).2 := by
  unfold FX11_thread FX11_thread_36
  repeat' split
  all_goals first | exact Or.inl rfl | exact Or.inr rfl
theorem LR_thing {z : zT} {h g : ph_H} (P : LR h g) (J : IT z g) (a b : Int32) : LR (FX11_thing a b h).2 (FX12_thing a b g).2 := LR_fr (LR_vH P J (thing_vH a b h)) (EQ_r _) (frV_FX12_thing _ _ g (EQ_r g))
theorem LR_thread {z : zT} {h g : ph_H} (P : LR h g) (J : IT z g) (a b : Int32) : LR (FX11_thread a b h).2 (FX12_thread a b g).2 := LR_fr (LR_vH P J (thread_vH a b h)) (EQ_r _) (frV_FX12_thread _ _ g (EQ_r g))
theorem isM_in {h : ph_H} {x : Int32} (n : ¬ FX11_isMoment x h = 0) : 0 ≤ x.toInt ∧ x.toInt ≤ (h 35 11).toInt := Classical.byContradiction (fun w => n ((isM_iff x).mpr w))
theorem LR_differ {z : zT} {h g : ph_H} (P : LR h g) (J : IT z g) (a b : Int32) : LR (FX11_differ a b h).2 (FX12_differ a b g).2 := by
  refine LR_fr (g := g) ?_ (EQ_r _) (frV_FX12_differ _ _ g (EQ_r g))
  unfold FX11_differ FX11_differ_46 FX11_differ_56 FX11_differ_61
  by_cases c : h 0 8 = 0
  · rw [if_pos c]
    exact P
  · rw [if_neg c]
    by_cases d : FX11_isMoment a h = 0
    · rw [if_pos d]
      exact P
    · rw [if_neg d]
      by_cases e : FX11_isMoment b h = 0
      · rw [if_pos e]
        exact P
      · rw [if_neg e]
        dsimp only
        have f1 := frC_FX3_begin_ot (h0 := h) (h 8 6) h (EQ_r h)
        have f2 := frC_FX11_replay_oc2 (h0 := h) 0 a (FX3_begin_ot (h 8 6) h) f1
        refine LR_sb (LR_fr P f2 (EQ_r g)) J (fun n => ?_)
        obtain ⟨q1, q2, q3, q4, q5, q6, q7, q8, q9, q10⟩ := P.2.1.2 n
        have := isM_in e
        rw [q2] at this
        exact this
