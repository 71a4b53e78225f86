/-! play -/
def RP (z : zT) (h : ph_H) : Prop := ∃ z', zm z z' ∧ IM z' h ∧ RMz z'
theorem RPv {z : zT} {h : ph_H} (I : RP z h) (k i : Nat) : iv (tM k i).1 (tM k i).2 (h k i) := by
  obtain ⟨z', a, b, c⟩ := I
  exact IMv b k i
theorem RPa {z : zT} {h : ph_H} (k i : Nat) {v : Int32} (I : RP z h) (t : (decide ((tM k i).1 = -2147483648) && decide ((tM k i).2 = 2147483647)) = true) (q : okM k i = true) : RP z (hs h k i v) := by
  obtain ⟨z', a, b, c⟩ := I
  exact ⟨z', a, IMa k i b t q, c⟩
theorem P_free {z : zT} {h : ph_H} {t : Int32} (I : RP z h) (f0 : iv 0 3 t) : PX12_free t h ∧ Qf h (FX12_free t h) := by
  obtain ⟨z', m, i, e⟩ := I
  exact SX12_free (z := z') t h i f0
theorem P_canGo {z : zT} {h : ph_H} {t : Int32} (I : RP z h) (f0 : iv 0 3 t) : PX12_canGo t h ∧ Qc 0 1 (fun r => ¬ r = 0 → iv 0 23 (h 12 (t.toNatClampNeg))) (FX12_canGo t h) := by
  obtain ⟨z', m, i, e⟩ := I
  exact SX12_canGo (z := z') t h i f0
theorem P_told {z : zT} {h : ph_H} {t s : Int32} (I : RP z h) (f0 : iv 0 300 t) : PX12_toldThread t s h ∧ iv 0 3 (FX12_toldThread t s h) := by
  obtain ⟨z', m, i, e⟩ := I
  exact SX12_toldThread (z := z') t s h i f0
theorem P_step {z : zT} {h : ph_H} {t : Int32} (I : RP z h) (f0 : iv 0 3 t) (fn : iv 0 23 (h 12 (t.toNatClampNeg))) (fs : iv 0 299 (h 0 24)) : PX12_step t h ∧ (RP z (FX12_step t h) ∧ ((FX12_step t h 0 24).toInt = (h 0 24).toInt + 1 ∨ FX12_step t h 0 35 = 1)) := by
  obtain ⟨z', m, i, r⟩ := I
  have s := SX12_step (z := z') t h i r f0 fn fs
  obtain ⟨z2, i2, r2, q2, d⟩ := s.2
  refine ⟨s.1, ⟨z2, zm_zr m q2, i2, r2⟩, ?_⟩
  rcases d with d | d
  · refine Or.inl ?_
    rw [IMz i2 0 24 rfl, IMz i 0 24 rfl]
    exact d
  · exact Or.inr d.2.2
section PLAY
variable {z : zT} {L83 : Int32 → Int32 → ph_H → Int32 × ph_H} {LP83 : Int32 → Int32 → ph_H → Prop} {h : ph_H} {x1 x3 : Int32} {D : ph_H → Prop}
/-- what the loop's next turn needs -/
theorem S_p166 (C : ∀ h', RP z h' → (0 ≤ h' 0 66 ∨ (h' 0 24).toInt = (h 0 24).toInt + 1) → LP83 x1 x3 h' ∧ QiT z (-2147483648) 2147483647 (L83 x1 x3 h')) (I : RP z h) {x5 : Int32} (f5 : iv (-1) 3 x5) (E : ¬ h 0 24 = 300 → 0 ≤ x5 → iv 0 23 (h 12 (x5.toNatClampNeg))) : PX12_play_166 LP83 x1 x3 x5 h ∧ QiT z (-2147483648) 2147483647 (FX12_play_166 L83 x1 x3 x5 h) := by
  unfold PX12_play_166 FX12_play_166
  have g24 : iv 0 300 (h 0 24) := RPv I 0 24
  refine sf_if (fun c => sf_if (fun c2 => ?_) (fun c2 => ?_)) (fun c => ?_)
  · have fr := P_free I (t := 0) ⟨by decide, by decide⟩
    refine sf_n fr.1 (sf_if (fun _ => ?_) (fun _ => ?_))
    · exact C _ (RPa 0 66 I rfl rfl) (Or.inl (by rw [hz_e]; decide))
    · exact C _ (RPa 0 66 I rfl rfl) (Or.inl (by rw [hz_e]; decide))
  · have f6 : iv 0 3 x5 := iv_ler f5 (iv_lit (lo := 0) (hi := 0) (x := 0) rfl) c rfl
    have s := P_step I f6 (E c2 c) (iv_nel (y := 300) g24 c2 rfl)
    refine sf_n s.1 ?_
    obtain ⟨I2, d⟩ := s.2
    unfold PX12_play_215 FX12_play_215
    refine sf_if (fun a => sf_if (fun _ => ?_) (fun _ => ?_)) (fun _ => ?_)
    · refine C _ (RPa 0 66 I2 rfl rfl) (Or.inr ?_)
      rcases d with d | d
      · have e : hs (FX12_step x5 h) 0 66 (-1) 0 24 = FX12_step x5 h 0 24 := hz_i rfl
        rw [e]
        exact d
      · exact absurd (a.symm.trans d) (by decide)
    · exact C _ (RPa 0 66 I2 rfl rfl) (Or.inl (by rw [hz_e]; decide))
    · exact C _ (RPa 0 66 I2 rfl rfl) (Or.inl (by rw [hz_e]; decide))
  · exact C _ (RPa 0 66 I rfl rfl) (Or.inl (by rw [hz_e]; decide))
theorem S_p103 (C : ∀ h', RP z h' → (0 ≤ h' 0 66 ∨ (h' 0 24).toInt = (h 0 24).toInt + 1) → LP83 x1 x3 h' ∧ QiT z (-2147483648) 2147483647 (L83 x1 x3 h')) (I : RP z h) (f1 : iv 0 300 x1) {s0 : Int32} : PX12_play_103 LP83 x1 x3 s0 h ∧ QiT z (-2147483648) 2147483647 (FX12_play_103 L83 x1 x3 s0 h) := by
  unfold PX12_play_103 FX12_play_103
  have g24 : iv 0 300 (h 0 24) := RPv I 0 24
  refine sf_if (fun c => ?_) (fun c => ?_)
  · have fr := P_free I (t := h 0 26) (RPv I 0 26)
    refine sf_n fr.1 ?_
    unfold PX12_play_132 FX12_play_132
    refine sf_if (fun _ => ?_) (fun n => absurd c n)
    exact S_p166 C I fr.2.1 (fun _ a => fr.2.2 (nn_of a))
  · have t := P_told I (s := h 0 24 + 1) f1
    refine sf_n t.1 ?_
    unfold PX12_play_132 FX12_play_132
    have cg := P_canGo I t.2
    refine sf_if (fun n => absurd n c) (fun _ => sf_if (fun c3 => ?_) (fun c3 => sf_n cg.1 (sf_if (fun _ => ?_) (fun cc => ?_))))
    · refine S_p166 C I (iv_w t.2 rfl) (fun n _ => absurd ?_ n)
      have h3 : (300 : Int32).toInt = 300 := by decide
      rw [Int32.le_iff_toInt_le] at c3
      unfold iv at g24
      exact Int32.toInt_inj.mp (by omega)
    · exact C _ (RPa 0 66 I rfl rfl) (Or.inl (by rw [hz_e]; decide))
    · exact S_p166 C I (iv_w t.2 rfl) (fun _ _ => cg.2.2 cc)
end PLAY
theorem S_p83 {z : zT} : ∀ (q : Nat) (x1 x3 : Int32) (h : ph_H), RP z h → iv 0 300 x1 → ((0 ≤ h 0 66 ∧ 0 < q) ∨ 301 - (h 0 24).toInt < (q : Int)) → PX12_play_83 q x1 x3 h ∧ QiT z (-2147483648) 2147483647 (FX12_play_83 q x1 x3 h) := by
  intro q
  induction q with
  | zero =>
    intro x1 x3 h I f1 mq
    have g : iv 0 300 (h 0 24) := RPv I 0 24
    unfold iv at g
    exfalso
    omega
  | succ q ih =>
    intro x1 x3 h I f1 mq
    have g : iv 0 300 (h 0 24) := RPv I 0 24
    unfold PX12_play_83 FX12_play_83
    refine sf_if (fun _ => ?_) (fun c => ?_)
    · obtain ⟨z1, m, i, r⟩ := I
      exact ⟨trivial, iv_any _, _, zm_hs m rfl rfl, IMg (k := 0) (i := 33) i (show iv 0 1 0 from iv_00) rfl, hz_e⟩
    · have m2 : 301 - (h 0 24).toInt < ((q + 1 : Nat) : Int) := by
        rcases mq with w | w
        · exact absurd w.1 c
        · exact w
      have C : ∀ h', RP z h' → (0 ≤ h' 0 66 ∨ (h' 0 24).toInt = (h 0 24).toInt + 1) → PX12_play_83 q x1 x3 h' ∧ QiT z (-2147483648) 2147483647 (FX12_play_83 q x1 x3 h') := fun h' I' w => by
        refine ih x1 x3 h' I' f1 ?_
        unfold iv at g
        rcases w with w | w
        · exact Or.inl ⟨w, by omega⟩
        · exact Or.inr (by omega)
      exact sf_if (fun _ => S_p103 C I f1) (fun _ => S_p103 C I f1)
theorem SX12_play {z : zT} (a0 a1 : Int32) (h : ph_H) (I : IT z h) : PX12_play a0 a1 h ∧ QiT z (-2147483648) 2147483647 (FX12_play a0 a1 h) := by
  have I0 : IT z (hs h 0 0 0) := by
    obtain ⟨z1, m, i, e⟩ := I
    exact ⟨z1, m, IMa 0 0 i rfl rfl, e⟩
  have N : ∀ v : Int32, True ∧ QiT z (-2147483648) 2147483647 (v, hs h 0 0 0) := fun v => ⟨trivial, iv_any _, I0⟩
  have g60 : iv 0 300 (h 0 60) := ITv I 0 60
  have g41 : iv 0 30 (h 0 41) := ITv I 0 41
  unfold PX12_play FX12_play
  refine sf_if (fun _ => N _) (fun _ => sf_n isIn_p (sf_if (fun _ => N _) (fun c1 => sf_n isIn_p (sf_if (fun _ => N _) (fun c2 => ?_)))))
  have f0 : iv 0 300 a0 := isIn_iv (iv_any a0) (lw_lit (lo := 0) (hi := 0) (x := 0) rfl) (lw_of g60) c1 rfl
  have f1 : iv 0 30 a1 := isIn_iv (iv_any a1) (lw_lit (lo := 0) (hi := 0) (x := 0) rfl) (lw_of g41) c2 rfl
  obtain ⟨z1, m, i, e⟩ := I
  have i2 : IM (hs (hs z1 0 33 1) 0 34 a1) (hs (hs (hs h 0 0 0) 0 33 1) 0 34 a1) := IMg (k := 0) (i := 34) (IMg (k := 0) (i := 33) (IMa 0 0 i rfl rfl) (show iv 0 1 1 from iv_01) rfl) (show iv 0 30 a1 from f1) rfl
  have b := SX12_begin _ i2
  refine sf_n b.1 ?_
  have I2 : RP z (FX12_begin (hs (hs (hs h 0 0 0) 0 33 1) 0 34 a1)) := ⟨_, zm_hs (zm_hs (zm_hs (zm_hs m rfl rfl) rfl rfl) rfl rfl) rfl rfl, b.2, RMz_0 i2⟩
  have e24 : FX12_begin (hs (hs (hs h 0 0 0) 0 33 1) 0 34 a1) 0 24 = 0 := (IMz b.2 0 24 rfl).trans hz_e
  have T : ∀ v : Int32, PX12_play_82 a0 v (hs (FX12_begin (hs (hs (hs h 0 0 0) 0 33 1) 0 34 a1)) 0 66 (-1)) ∧ QiT z (-2147483648) 2147483647 (FX12_play_82 a0 v (hs (FX12_begin (hs (hs (hs h 0 0 0) 0 33 1) 0 34 a1)) 0 66 (-1))) := fun v => by
    refine S_p83 2000 a0 v _ (RPa 0 66 I2 rfl rfl) f0 (Or.inr ?_)
    have w : hs (FX12_begin (hs (hs (hs h 0 0 0) 0 33 1) 0 34 a1)) 0 66 (-1) 0 24 = 0 := (hz_i rfl).trans e24
    have h0 : (0 : Int32).toInt = 0 := by decide
    rw [w, h0]
    decide
  unfold PX12_play_59 FX12_play_59
  refine sf_if (fun _ => T _) (fun c => sf_n ?_ (T _))
  have f2 : iv 1 300 a0 := iv_nel (y := 0) f0 c rfl
  have f3 : iv 0 299 (a0 - 1) := iv_sub f2 (iv_lit (lo := 1) (hi := 1) (x := 1) rfl) rfl
  exact iv_in f3 rfl
