/-! THE REFERENCE'S STEP: what is taken stays within what is known; steps are counted. -/
theorem IMa {z : zT} {h : ph_H} (k i : Nat) {v : Int32} (I : IM z h) (t : (decide ((tM k i).1 = -2147483648) && decide ((tM k i).2 = 2147483647)) = true) (q : okM k i = true) : IM z (hs h k i v) := by
  simp only [Bool.and_eq_true, decide_eq_true_eq] at t
  refine IMs I ?_ q
  rw [t.1, t.2]
  exact iv_any v
def RMz (z : zT) : Prop := (z 0 33 = 0 → (z 0 23).toInt ≤ (z 0 7).toInt) ∧ (¬ z 0 33 = 0 → (z 0 23).toInt ≤ (z 0 34).toInt)
def STR (z : zT) : Prop := (z 0 33 = 0 → (z 0 23).toInt < (z 0 7).toInt) ∧ (¬ z 0 33 = 0 → (z 0 23).toInt < (z 0 34).toInt)
def QI (z : zT) (o : ph_H) : Prop := ∃ z', IM z' o ∧ (z' = z ∨ z' = hs z 0 23 (z 0 23 + 1)) ∧ RMz z'
theorem zi {z : zT} {h : ph_H} (I : IM z h) (k i : Nat) (q : gz k i = true) : iv (tM k i).1 (tM k i).2 (z k i) := iv_r (IMz I k i q).symm (IMv I k i)
theorem ti_ne {x y : Int32} (h : ¬ x = y) : x.toInt ≠ y.toInt := fun e => h (Int32.toInt_inj.mp e)
theorem ti_1 : (1 : Int32).toInt = 1 := by decide
theorem ti_inc {a b : Int} {x : Int32} (f : iv a b x) (q : decide (b < 2147483647) = true) : (x + 1).toInt = x.toInt + 1 := by
  simp only [decide_eq_true_eq] at q
  unfold iv at f
  have h2 := Int32.le_toInt x
  rw [ti_add (by rw [ti_1]; omega) (by rw [ti_1]; omega), ti_1]
theorem str_of {z : zT} {H : ph_H} {o a b c : Int32} (I : IM z H) (RM : RMz z) (W : WOK o a b c H) (K : o = 16 → ¬ z 0 33 = 0 → ¬ z 0 23 = z 0 34) (e : o = 16) : STR z := by
  refine ⟨fun k => ?_, fun k => ?_⟩
  · have w := W.2.2.2.2.2.2.2.2 e ((IMz I 0 33 rfl).trans k)
    rw [IMz I 0 23 rfl, IMz I 0 7 rfl] at w
    have h1 := RM.1 k
    have h2 := ti_ne w
    omega
  · have h1 := RM.2 k
    have h2 := ti_ne (K e k)
    omega
theorem RMz_inc {z : zT} (f : iv 0 30 (z 0 23)) (S : STR z) : RMz (hs z 0 23 (z 0 23 + 1)) := by
  have e33 : hs z 0 23 (z 0 23 + 1) 0 33 = z 0 33 := hz_i rfl
  have e7 : hs z 0 23 (z 0 23 + 1) 0 7 = z 0 7 := hz_i rfl
  have e34 : hs z 0 23 (z 0 23 + 1) 0 34 = z 0 34 := hz_i rfl
  have e1 := ti_inc f rfl
  unfold RMz
  rw [e33, e7, e34, hz_e, e1]
  exact ⟨fun k => by have := S.1 k; omega, fun k => by have := S.2 k; omega⟩
theorem RMz_24 {z : zT} {v : Int32} (R : RMz z) : RMz (hs z 0 24 v) := by
  have e33 : hs z 0 24 v 0 33 = z 0 33 := hz_i rfl
  have e7 : hs z 0 24 v 0 7 = z 0 7 := hz_i rfl
  have e34 : hs z 0 24 v 0 34 = z 0 34 := hz_i rfl
  have e23 : hs z 0 24 v 0 23 = z 0 23 := hz_i rfl
  unfold RMz
  rw [e33, e7, e34, e23]
  exact R
set_option maxRecDepth 100000 in
theorem work_11 (t a b c : Int32) (H : ph_H) : FX12_work t 11 a b c H = H := by
  unfold FX12_work
  rfl
theorem W2_of {z : zT} {H : ph_H} {t o a b c : Int32} {i : Nat} (I : IM z H) (eo : H 2 i = o) (W : WOK o a b c H) (S : o = 16 → STR z) (Iw : IM z (FX12_work t o a b c H)) : (FX12_work t o a b c H 2 i = 11 → iv 0 11 (FX12_work t o a b c H 0 18)) ∧ (FX12_work t o a b c H 2 i = 16 → iv 0 29 (FX12_work t o a b c H 0 23)) := by
  have e1 : FX12_work t o a b c H 2 i = o := (IMz Iw 2 i rfl).trans ((IMz I 2 i rfl).symm.trans eo)
  rw [e1]
  refine ⟨fun e => ?_, fun e => ?_⟩
  · have w := W.2.2.2.1 e
    have e2 : FX12_work t o a b c H = H := by rw [e]; exact work_11 t a b c H
    rw [e2]
    exact w
  · have s := S e
    rw [IMz Iw 0 23 rfl]
    have f := zi I 0 23 rfl
    have f7 := zi I 0 7 rfl
    have f34 := zi I 0 34 rfl
    have g : iv 0 30 (z 0 23) := f
    have g7 : iv 0 30 (z 0 7) := f7
    have g34 : iv 0 30 (z 0 34) := f34
    unfold iv at *
    by_cases k : z 0 33 = 0
    · have := s.1 k
      omega
    · have := s.2 k
      omega
theorem QI_of {z : zT} {hw o : ph_H} {i : Nat} (Iw : IM z hw) (RM : RMz z) (S : hw 2 i = 16 → STR z) (I : IM (wz (hw 2 i) z (hw 0 23)) o) : QI z o := by
  by_cases e : hw 2 i = 16
  · unfold wz at I
    rw [if_pos e, IMz Iw 0 23 rfl] at I
    exact ⟨_, I, Or.inr rfl, RMz_inc (zi Iw 0 23 rfl) (S e)⟩
  · unfold wz at I
    rw [if_neg e] at I
    exact ⟨z, I, Or.inl rfl, RM⟩
theorem WOK_f {o a b c v : Int32} {h : ph_H} (W : WOK o a b c h) : WOK o a b c (hs h 0 25 v) := by
  have e : ∀ i, hs h 0 25 v 11 i = h 11 i := fun i => hz_k rfl
  have e18 : hs h 0 25 v 0 18 = h 0 18 := hz_i rfl
  have e33 : hs h 0 25 v 0 33 = h 0 33 := hz_i rfl
  have e23 : hs h 0 25 v 0 23 = h 0 23 := hz_i rfl
  have e7 : hs h 0 25 v 0 7 = h 0 7 := hz_i rfl
  unfold WOK at *
  simp only [e, e18, e33, e23, e7]
  exact W
theorem S_251 {z : zT} {h : ph_H} (I : IM z h) {x1 v : Int32} (f1 : iv 0 3 x1) : PX12_instruct_251 v x1 h ∧ IM z (FX12_instruct_251 v x1 h) := by
  have s := SX12_goTo (z := z) x1 v h I f1
  exact ⟨⟨s.1, trivial⟩, s.2⟩
theorem S_204 {z : zT} {h : ph_H} (I : IM z h) {x1 x2 x6 x7 : Int32} (f1 : iv 0 3 x1) (f2 : iv 0 95 x2) : PX12_instruct_204 x1 x2 x6 x7 h ∧ IM z (FX12_instruct_204 x1 x2 x6 x7 h) := by
  unfold PX12_instruct_204 FX12_instruct_204
  exact sf_n (iv_in f2 rfl) (sf_if (fun _ => ⟨trivial, I⟩) (fun _ => sf_n (iv_in f2 rfl) (sf_if (fun _ => S_251 I f1) (fun _ => sf_if (fun _ => sf_n (iv_in f1 rfl) (S_251 I f1)) (fun _ => S_251 I f1)))))
theorem S_177 {z : zT} {h : ph_H} (I : IM z h) (RM : RMz z) {x1 x2 x3 x4 x5 x6 s0 : Int32} (f1 : iv 0 3 x1) (f2 : iv 0 95 x2) (f3 : iv 0 27 x3) (f4 : iv 0 27 x4) (f5 : iv 0 27 x5) (W : WOK (h 2 (x2.toNatClampNeg)) x3 x4 x5 h) (S : h 2 (x2.toNatClampNeg) = 16 → STR z) : PX12_instruct_177 x1 x2 x3 x4 x5 x6 s0 h ∧ QI z (FX12_instruct_177 x1 x2 x3 x4 x5 x6 s0 h) := by
  unfold PX12_instruct_177 FX12_instruct_177
  refine sf_n (iv_in f2 rfl) ?_
  have s := SX12_work (z := z) x1 (h 2 (x2.toNatClampNeg)) x3 x4 x5 h I f1 f3 f4 f5 W
  refine sf_n s.1 ?_
  unfold PX12_instruct_195 FX12_instruct_195
  have w2 := W2_of (i := x2.toNatClampNeg) I rfl W S s.2
  have p := SX12_workPlain (z := z) x1 x2 x3 x4 _ s.2 f1 f2 f3 f4 w2
  refine sf_n p.1 ?_
  have g := S_204 p.2 (x1 := x1) (x2 := x2) (x6 := x6) (x7 := s0) f1 f2
  exact ⟨g.1, QI_of s.2 RM (fun e => S ((IMz I 2 _ rfl).trans ((IMz s.2 2 _ rfl).symm.trans e))) g.2⟩
theorem S_149 {z : zT} {h : ph_H} (I : IM z h) (RM : RMz z) {x1 x2 x3 x4 x5 s0 : Int32} (f1 : iv 0 3 x1) (f2 : iv 0 95 x2) (f3 : iv 0 27 x3) (f4 : iv 0 27 x4) (f5 : iv 0 27 x5) (W : WOK (h 2 (x2.toNatClampNeg)) x3 x4 x5 h) (S : h 2 (x2.toNatClampNeg) = 16 → STR z) : PX12_instruct_149 x1 x2 x3 x4 x5 s0 h ∧ QI z (FX12_instruct_149 x1 x2 x3 x4 x5 s0 h) := by
  unfold PX12_instruct_149 FX12_instruct_149
  exact sf_n (iv_in f2 rfl) (sf_if (fun _ => sf_n (iv_in f2 rfl) (S_177 I RM f1 f2 f3 f4 f5 W S)) (fun _ => sf_n (iv_in f2 rfl) (S_177 I RM f1 f2 f3 f4 f5 W S)))
theorem S_102 {z : zT} {h : ph_H} (I : IM z h) (RM : RMz z) {x1 x2 x3 x4 x5 s0 : Int32} (f1 : iv 0 3 x1) (f2 : iv 0 95 x2) (f3 : iv 0 27 x3) (f4 : iv 0 27 x4) (f5 : iv 0 27 x5) (fs : iv 0 19 s0) (W : s0 = 0 → WOK (h 2 (x2.toNatClampNeg)) x3 x4 x5 h) (K : h 2 (x2.toNatClampNeg) = 16 → ¬ z 0 33 = 0 → ¬ z 0 23 = z 0 34) : PX12_instruct_102 x1 x2 x3 x4 x5 s0 h ∧ QI z (FX12_instruct_102 x1 x2 x3 x4 x5 s0 h) := by
  unfold PX12_instruct_102 FX12_instruct_102
  have I2 : IM z (hs h 0 25 s0) := IMs I (iv_any s0) rfl
  refine sf_if (fun c => ?_) (fun _ => ⟨trivial, z, I2, Or.inl rfl, RM⟩)
  have e0 : s0 = 0 := by
    have h0 : (0 : Int32).toInt = 0 := by decide
    rw [Int32.le_iff_toInt_le] at c
    unfold iv at fs
    exact Int32.toInt_inj.mp (by omega)
  have w := W e0
  have eo : hs h 0 25 s0 2 (x2.toNatClampNeg) = h 2 (x2.toNatClampNeg) := hz_k rfl
  have w2 : WOK (hs h 0 25 s0 2 (x2.toNatClampNeg)) x3 x4 x5 (hs h 0 25 s0) := by
    rw [eo]
    exact WOK_f w
  have S : hs h 0 25 s0 2 (x2.toNatClampNeg) = 16 → STR z := by
    rw [eo]
    exact str_of I RM w K
  have T : ∀ b : Int32, PX12_instruct_149 x1 x2 x3 x4 x5 b (hs h 0 25 s0) ∧ QI z (FX12_instruct_149 x1 x2 x3 x4 x5 b (hs h 0 25 s0)) := fun b => S_149 I2 RM f1 f2 f3 f4 f5 w2 S
  have T1 : PX12_instruct_144 x1 x2 x3 x4 x5 (hs h 0 25 s0) ∧ QI z (FX12_instruct_144 x1 x2 x3 x4 x5 (hs h 0 25 s0)) := T 1
  have T0 : PX12_instruct_148 x1 x2 x3 x4 x5 (hs h 0 25 s0) ∧ QI z (FX12_instruct_148 x1 x2 x3 x4 x5 (hs h 0 25 s0)) := T 0
  exact sf_n (iv_in f2 rfl) (sf_if (fun _ => T1) (fun _ => sf_n (iv_in f2 rfl) (sf_if (fun _ => sf_n (iv_in f3 rfl) (sf_if (fun _ => T1) (fun _ => T0))) (fun _ => T0))))
theorem SX12_instruct {z : zT} (a0 a1 : Int32) (h : ph_H) (I : IM z h) (RM : RMz z) (f0 : iv 0 3 a0) (f1 : iv 0 95 a1) (K : z 2 (a1.toNatClampNeg) = 16 → ¬ z 0 33 = 0 → ¬ z 0 23 = z 0 34) : PX12_instruct a0 a1 h ∧ QI z (FX12_instruct a0 a1 h) := by
  unfold PX12_instruct FX12_instruct
  have l3 := SX12_local (z := z) a0 (h 3 (a1.toNatClampNeg)) h I f0
  have l4 := SX12_local (z := z) a0 (h 4 (a1.toNatClampNeg)) h I f0
  have l5 := SX12_local (z := z) a0 (h 5 (a1.toNatClampNeg)) h I f0
  have g3 := iv_w (c := 0) (d := 27) l3.2 rfl
  have g4 := iv_w (c := 0) (d := 27) l4.2 rfl
  have g5 := iv_w (c := 0) (d := 27) l5.2 rfl
  have w := SX12_why (z := z) a0 (h 2 (a1.toNatClampNeg)) _ _ _ (h 4 (a1.toNatClampNeg)) h I f0 g3 g4 g5
  have K2 : ∀ v : Int32, hs h 0 25 v 2 (a1.toNatClampNeg) = 16 → ¬ z 0 33 = 0 → ¬ z 0 23 = z 0 34 := fun v e => K ((IMz I 2 _ rfl).symm.trans ((hz_k rfl).symm.trans e))
  refine sf_n (iv_in f1 rfl) (sf_n l3.1 (sf_n (iv_in f1 rfl) (sf_n l4.1 (sf_n (iv_in f1 rfl) (sf_n l5.1 (sf_n (iv_in f1 rfl) (sf_n (iv_in f1 rfl) (sf_n w.1 (sf_n (iv_in f1 rfl) (sf_if (fun c => ?_) (fun c => ?_)))))))))))
  · have fm : iv 0 3 (FX12_modulo (h 3 (a1.toNatClampNeg)) 4) := modulo_iv (m := 4) rfl
    refine sf_n (iv_in f1 rfl) (sf_n (modulo_p (m := 4) (by decide) (by decide)) (sf_n (iv_in fm rfl) (sf_if (fun c2 => ?_) (fun c2 => ?_))))
    · unfold PX12_instruct_98 FX12_instruct_98
      refine S_102 (IMa 0 25 I rfl rfl) RM f0 f1 g3 g4 g5 (iv_r hz_e w.2.1) (fun e => ?_) (K2 _)
      rw [hz_k (k' := 2) (k := 0) rfl]
      exact WOK_f (w.2.2 ((hz_e).symm.trans e))
    · exact S_102 (IMa 0 25 I rfl rfl) RM f0 f1 g3 g4 g5 ⟨by decide, by decide⟩ (fun e => absurd e (by decide)) (K2 _)
  · unfold PX12_instruct_98 FX12_instruct_98
    refine S_102 (IMa 0 25 I rfl rfl) RM f0 f1 g3 g4 g5 (iv_r hz_e w.2.1) (fun e => ?_) (K2 _)
    rw [hz_k (k' := 2) (k := 0) rfl]
    exact WOK_f (w.2.2 ((hz_e).symm.trans e))
def zr (z z' : zT) : Prop := ∀ k i, gz k i = true → ¬ (k = 0 ∧ (i = 23 ∨ i = 24)) → z' k i = z k i
def QS (z : zT) (o : ph_H) : Prop := ∃ z', IM z' o ∧ RMz z' ∧ zr z z' ∧ ((z' 0 24).toInt = (z 0 24).toInt + 1 ∨ (¬ z 0 33 = 0 ∧ z' 0 24 = z 0 24 ∧ o 0 35 = 1))
theorem S_154 {z z6 : zT} {h6 : ph_H} {x1 : Int32} (I6 : IM z6 h6) (RM6 : RMz z6) (r6 : z6 = z ∨ z6 = hs z 0 23 (z 0 23 + 1)) (f1 : iv 0 3 x1) (f : iv 0 299 (z 0 24)) : PX12_step_154 x1 h6 ∧ QS z (FX12_step_154 x1 h6) := by
  have e24 : z6 0 24 = z 0 24 := by
    rcases r6 with r | r
    · rw [r]
    · rw [r]
      exact hz_i rfl
  have eh : h6 0 24 = z 0 24 := (IMz I6 0 24 rfl).trans e24
  have fh : iv 0 299 (h6 0 24) := iv_r eh f
  have f9 : iv 0 300 (h6 0 24 + 1) := iv_add fh (iv_lit (lo := 1) (hi := 1) (x := 1) rfl) rfl
  have I9 : IM (hs z6 0 24 (h6 0 24 + 1)) (hs h6 0 24 (h6 0 24 + 1)) := IMg I6 f9 rfl
  have I10 : IM (hs z6 0 24 (h6 0 24 + 1)) (hs (hs h6 0 24 (h6 0 24 + 1)) 0 26 x1) := IMs I9 f1 rfl
  refine ⟨trivial, _, I10, RMz_24 RM6, fun k i q n => ?_, Or.inl ?_⟩
  · rw [hs_o (fun e => n ⟨e.1, Or.inr e.2⟩)]
    rcases r6 with r | r
    · rw [r]
    · rw [r, hs_o (fun e => n ⟨e.1, Or.inl e.2⟩)]
  · rw [hz_e, eh]
    exact ti_inc f rfl
theorem S_148 {z : zT} {h : ph_H} {x1 x2 : Int32} (I : IM z h) (RM : RMz z) (f1 : iv 0 3 x1) (f2 : iv 0 95 x2) (K : z 2 (x2.toNatClampNeg) = 16 → ¬ z 0 33 = 0 → ¬ z 0 23 = z 0 34) (f : iv 0 299 (z 0 24)) : PX12_step_148 x1 x2 h ∧ QS z (FX12_step_148 x1 x2 h) := by
  have s := SX12_instruct (z := z) x1 x2 h I RM f1 f2 K
  obtain ⟨z6, I6, r6, RM6⟩ := s.2
  exact sf_n s.1 (S_154 I6 RM6 r6 f1 f)
set_option maxRecDepth 100000 in
set_option maxHeartbeats 4000000 in
theorem SX12_step {z : zT} (a0 : Int32) (h : ph_H) (I : IM z h) (RM : RMz z) (f0 : iv 0 3 a0) (fn : iv 0 23 (h 12 (a0.toNatClampNeg))) (fs : iv 0 299 (h 0 24)) : PX12_step a0 h ∧ QS z (FX12_step a0 h) := by
  unfold PX12_step FX12_step
  have f : iv 0 299 (z 0 24) := iv_r (IMz I 0 24 rfl).symm fs
  have fm : iv 0 72 (24 * a0) := iv_mul (c := 24) rfl f0 rfl
  have fi : iv 0 95 ((24 * a0) + (h 12 (a0.toNatClampNeg))) := iv_add fm fn rfl
  refine sf_n (iv_in f0 rfl) (sf_n (iv_in f0 rfl) (sf_n (iv_in fi rfl) (sf_n (iv_in f0 rfl) (sf_if (fun c => ?_) (fun c => ?_)))))
  · refine sf_n (iv_in fi rfl) (sf_if (fun c2 => sf_if (fun c3 => ?_) (fun c3 => sf_if (fun c4 => ?_) (fun c4 => ?_))) (fun c2 => ?_))
    · exact S_148 (IMa 0 32 (IMa 0 31 (IMa 0 30 (IMa 0 29 (IMa 0 28 (IMa 0 27 I rfl rfl) rfl rfl) rfl rfl) rfl rfl) rfl rfl) rfl rfl) RM f0 fi (fun _ k => absurd ((IMz I 0 33 rfl).symm.trans c3) k) f
    · refine ⟨trivial, z, IMs (k := 0) (i := 35) (v := 1) (IMa 0 32 (IMa 0 31 (IMa 0 30 (IMa 0 29 (IMa 0 28 (IMa 0 27 I rfl rfl) rfl rfl) rfl rfl) rfl rfl) rfl rfl) rfl rfl) (show iv 0 1 1 from ⟨by decide, by decide⟩) rfl, RM, fun _ _ _ _ => rfl, Or.inr ⟨fun k => c3 ((IMz I 0 33 rfl).trans k), rfl, hz_e⟩⟩
    · exact S_148 (IMa 0 32 (IMa 0 31 (IMa 0 30 (IMa 0 29 (IMa 0 28 (IMa 0 27 I rfl rfl) rfl rfl) rfl rfl) rfl rfl) rfl rfl) rfl rfl) RM f0 fi (fun _ _ e => c4 ((IMz I 0 23 rfl).trans (e.trans (IMz I 0 34 rfl).symm))) f
    · exact S_148 (IMa 0 32 (IMa 0 31 (IMa 0 30 (IMa 0 29 (IMa 0 28 (IMa 0 27 I rfl rfl) rfl rfl) rfl rfl) rfl rfl) rfl rfl) rfl rfl) RM f0 fi (fun e _ => absurd ((IMz I 2 _ rfl).trans e) c2) f
  · have f15 : iv 0 11 (h 15 (a0.toNatClampNeg)) := iv_ler (a := -1) (b := 11) (IMv I 15 _) (iv_lit (lo := 0) (hi := 0) (x := 0) rfl) (nlt c) rfl
    have I8 : IM z (hs (hs (hs (hs (hs (hs (hs (hs (hs (hs h 0 27 (h 12 (a0.toNatClampNeg))) 0 28 (h 2 (((24 * a0) + (h 12 (a0.toNatClampNeg))).toNatClampNeg))) 0 29 (-2)) 0 30 (-2)) 0 31 0) 0 32 (-1)) 17 (h 15 (a0.toNatClampNeg)).toNatClampNeg a0) 0 31 1) 0 32 (h 15 (a0.toNatClampNeg))) 15 a0.toNatClampNeg (-1)) := IMs (k := 15) (i := a0.toNatClampNeg) (v := -1) (IMa 0 32 (IMa 0 31 (IMa 17 _ (IMa 0 32 (IMa 0 31 (IMa 0 30 (IMa 0 29 (IMa 0 28 (IMa 0 27 I rfl rfl) rfl rfl) rfl rfl) rfl rfl) rfl rfl) rfl rfl) rfl rfl) rfl rfl) rfl rfl) (show iv (-1) 11 (-1) from ⟨by decide, by decide⟩) rfl
    have g := SX12_goTo (z := z) a0 ((h 12 (a0.toNatClampNeg)) + 1) _ I8 f0
    exact sf_n (iv_in f0 rfl) (sf_n (iv_in f15 rfl) (sf_n (iv_in f0 rfl) (sf_n (iv_in f0 rfl) (sf_n (iv_in f0 rfl) (sf_n g.1 (S_154 g.2 RM (Or.inl rfl) f0 f))))))
