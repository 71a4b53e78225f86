/-! what differ answers -/
def DF (h g : ph_H) (a b : Int32) : Prop := (∀ k, k < 28 → h 16 k = g 20 (28 * b.toNatClampNeg + k) ∧ h 17 k = g 21 (28 * b.toNatClampNeg + k) ∧ h 26 k = g 20 (28 * a.toNatClampNeg + k) ∧ h 27 k = g 21 (28 * a.toNatClampNeg + k)) ∧ (∀ t : Int32, iv 0 3 t → FX3_nextInstruction_s t h = g 22 (4 * b.toNatClampNeg + t.toNatClampNeg) ∧ FX3_nextInstruction_oc2 t h = g 22 (4 * a.toNatClampNeg + t.toNatClampNeg))
theorem df51 {h g : ph_H} {a b : Int32} (fa : iv 0 300 a) (fb : iv 0 300 b) (D : DF h g a b) : ∀ (q : Nat) (n x : Int32), iv 0 4 x → FX3_differences_soc2_51 q n x h = (FX12_differ_128 q a b n x g).1
  | 0, n, x, f => rfl
  | q + 1, n, x, f => by
    have k1 : (1 : Int32).toInt = 1 := by decide
    have k4 : (4 : Int32).toInt = 4 := by decide
    unfold FX3_differences_soc2_51 FX12_differ_128 FX3_differences_soc2_72 FX12_differ_165
    unfold iv at f
    by_cases c : 4 ≤ x
    · rw [if_pos c, if_pos c]
    · rw [if_neg c, if_neg c]
      rw [Int32.le_iff_toInt_le, k4] at c
      have fx : iv 0 3 x := ⟨f.1, by omega⟩
      have fx2 : iv 0 200 x := ⟨f.1, by omega⟩
      have e1 : (x + 1).toInt = x.toInt + 1 := by rw [ti_add (by omega) (by omega), k1]
      obtain ⟨d1, d2⟩ := D.2 x fx
      have ih := fun m => df51 fa fb D q m (x + 1) (by unfold iv; omega)
      have n0 : n + 0 = n := Int32.add_zero n
      rw [d1, d2, ixm (c := 4) (m := 4) fa fx2 rfl, ixm (c := 4) (m := 4) fb fx2 rfl, ih, ih, n0]
      by_cases e : g 22 (4 * a.toNatClampNeg + x.toNatClampNeg) = g 22 (4 * b.toNatClampNeg + x.toNatClampNeg)
      · rw [if_pos e, if_pos e.symm]
      · rw [if_neg e, if_neg (fun w => e w.symm)]
theorem df4 {h g : ph_H} {a b : Int32} (fa : iv 0 300 a) (fb : iv 0 300 b) (D : DF h g a b) : ∀ (q : Nat) (n x : Int32), iv 0 28 x → FX3_differences_soc2_4 q n x h = (FX12_differ_50 q a b n x g).1
  | 0, n, x, f => rfl
  | q + 1, n, x, f => by
    have k1 : (1 : Int32).toInt = 1 := by decide
    have k28 : (28 : Int32).toInt = 28 := by decide
    unfold FX3_differences_soc2_4 FX12_differ_50 FX3_differences_soc2_40 FX3_differences_soc2_43 FX12_differ_112 FX12_differ_117
    have xn := iv_nat f rfl
    unfold iv at f
    by_cases c : 28 ≤ x
    · rw [if_pos c, if_pos c]
      exact df51 fa fb D 2000 n 0 ⟨by decide, by decide⟩
    · rw [if_neg c, if_neg c]
      rw [Int32.le_iff_toInt_le, k28] at c
      have fx2 : iv 0 200 x := ⟨f.1, by omega⟩
      have e1 : (x + 1).toInt = x.toInt + 1 := by rw [ti_add (by omega) (by omega), k1]
      obtain ⟨d1, d2, d3, d4⟩ := D.1 x.toNatClampNeg (by omega)
      have ih := fun m => df4 fa fb D q m (x + 1) (by unfold iv; omega)
      have n0 : n + 0 = n := Int32.add_zero n
      rw [d1, d2, d3, d4, ixm (c := 28) (m := 28) fa fx2 rfl, ixm (c := 28) (m := 28) fb fx2 rfl, ih, ih, n0]
      by_cases e : g 20 (28 * a.toNatClampNeg + x.toNatClampNeg) = g 20 (28 * b.toNatClampNeg + x.toNatClampNeg)
      · rw [if_pos e, if_pos e.symm]
        by_cases o : g 21 (28 * a.toNatClampNeg + x.toNatClampNeg) = g 21 (28 * b.toNatClampNeg + x.toNatClampNeg)
        · rw [if_pos o, if_pos o.symm]
        · rw [if_neg o, if_neg (fun w => o w.symm)]
      · rw [if_neg e, if_neg (fun w => e w.symm)]
theorem differ_ans {z : zT} {h g : ph_H} (P : LR h g) (J : IT z g) (a b : Int32) : (FX11_differ a b h).1 = (FX12_differ a b g).1 := by
  have E := P.2.1.1
  unfold FX11_differ FX12_differ FX11_differ_46 FX11_differ_56 FX11_differ_61
  rw [E]
  by_cases c : g 0 36 = 0
  · rw [if_pos c, if_pos c]
  · have q := P.2.1.2 c
    have ei : ∀ s : Int32, FX11_isMoment s h = 0 ↔ FX12_isIn s.toInt64 0 ((g 0 38).toInt64) = 0 := fun s => by
      rw [isM_iff, isIn_iff, l0, Int32.toInt_toInt64, q.2.1]
    rw [if_neg c, if_neg c]
    by_cases da : FX12_isIn a.toInt64 0 ((g 0 38).toInt64) = 0
    · rw [if_pos da, if_pos ((ei a).mpr da)]
    · rw [if_neg da, if_neg (fun w => da ((ei a).mp w))]
      by_cases db : FX12_isIn b.toInt64 0 ((g 0 38).toInt64) = 0
      · rw [if_pos db, if_pos ((ei b).mpr db)]
      · rw [if_neg db, if_neg (fun w => db ((ei b).mp w))]
        have ma := isM_in (fun w => da ((ei a).mp w))
        have mb := isM_in (fun w => db ((ei b).mp w))
        rw [q.2.1] at ma mb
        have f300 : iv 0 300 (g 0 38) := ITv J 0 38
        have n38 := iv_nat f300 rfl
        unfold iv at f300
        have fa : iv 0 300 a := ⟨ma.1, by omega⟩
        have fb : iv 0 300 b := ⟨mb.1, by omega⟩
        have na := iv_nat fa rfl
        have nb := iv_nat fb rfl
        obtain ⟨v0, v1, Gs, q1, q2, q3, q4, q5⟩ := P.2.2.1 c
        have f1 := frC_FX3_begin_ot (h0 := h) (h 8 6) h (EQ_r h)
        have f2 := frC_FX11_replay_oc2 (h0 := h) 0 a (FX3_begin_ot (h 8 6) h) f1
        have D := LR_RD P c
        have R1 : RCo2 (FX11_replay_oc2 0 a (FX3_begin_ot (h 8 6) h)) (Gs a.toNatClampNeg) := by
          have n0 : (0 : Int32).toNatClampNeg = 0 := by decide
          have k0 : (0 : Int32).toInt = 0 := by decide
          exact rep_o q1 (by omega) 2000 a 0 _ (by rw [n0]; exact (q1.2.2 h q2).2) (fun u p r => by rw [f1 36 u rfl]; exact D u p r) (by rw [k0]; exact Int.le_refl _) (by rw [k0]; exact ma.1) (by omega) (by rw [k0]; omega)
        obtain ⟨⟨z1, I1⟩, K1, N1⟩ := q1.1 a.toNatClampNeg (by omega)
        have L2 : LR (FX11_replay_oc2 0 a (FX3_begin_ot (h 8 6) h)) g := LR_fr P f2 (EQ_r g)
        generalize FX11_replay_oc2 0 a (FX3_begin_ot (h 8 6) h) = h1 at *
        obtain ⟨-, Gt, t1, t2, t3⟩ := sb_sim L2 J c mb.1 mb.2
        obtain ⟨⟨z2, I2⟩, K2, N2⟩ := t1.1 b.toNatClampNeg (by omega)
        have fo := frO_FX11_seenBehind (h0 := h1) b h1 (EQ_r h1)
        have fd := frD_FX11_seenBehind (h0 := h1) b h1 (EQ_r h1)
        have R2 : RCo2 (FX11_seenBehind b h1) (Gs a.toNatClampNeg) := R1.congro2 (fun k i w => by
          unfold cMo2 at w
          split at w <;> first | exact fo _ _ rfl | exact fd _ _ rfl | (exact absurd w (by decide))) (fun _ _ _ => rfl) (fun _ _ => rfl)
        have DD : DF (FX11_seenBehind b h1) (hs g 0 0 0) a b := by
          refine ⟨fun k hk => ?_, fun t ht => ?_⟩
          · obtain ⟨u1, u2⟩ := t3.1 k hk
            obtain ⟨w1, w2⟩ := R2.1 k hk
            rw [u1, u2, w1, w2, hs_o (by simp), hs_o (by simp), hs_o (by simp), hs_o (by simp), (K2.1 k hk).1, (K2.1 k hk).2, (K1.1 k hk).1, (K1.1 k hk).2]
            exact ⟨rfl, rfl, rfl, rfl⟩
          · rw [nexI_eq t3 I2 ht, nexI_eqo2 R2 I1 ht, hs_o (by simp), hs_o (by simp), (K2.2.1 t ht).1, (K1.2.1 t ht).1]
            exact ⟨rfl, rfl⟩
        exact df4 fa fb DD 2000 0 0 ⟨by decide, by decide⟩
