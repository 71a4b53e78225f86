/-! find: its runs one after another -/
theorem S_lk93 {Z : zT} {h : ph_H} (I : CT Z h) : PX6_look_93 h ∧ QCT Z (-2147483648) 2147483647 (FX6_look_93 h) := by
  obtain ⟨z1, m, i⟩ := I
  have T : ∀ s0 : Int32, iv 0 1 s0 → PX6_look_106 s0 h ∧ QCT Z (-2147483648) 2147483647 (FX6_look_106 s0 h) := fun s0 f => by
    unfold PX6_look_106 FX6_look_106
    have I2 : CT Z (hs h 52 10 s0) := ⟨z1, m, ICs (k := 52) (i := 10) i (show iv 0 1 s0 from f) rfl⟩
    exact sf_n (iv_bo f) (sf_if (fun _ => ⟨trivial, QCT_mk (iv_any _) I2⟩) (fun _ => ⟨trivial, QCT_mk (iv_any _) I2⟩))
  unfold PX6_look_93 FX6_look_93
  exact sf_if (fun _ => T 0 iv_00) (fun _ => T 1 iv_01)
theorem S_lk47 {Z : zT} {x1 x2 x3 : Int32} {L17 : Int32 → Int32 → Int32 → ph_H → Int32 × ph_H} {LP17 : Int32 → Int32 → Int32 → ph_H → Prop} (hL : ∀ h, CT Z h → LP17 x1 x2 (x3 + 1) h ∧ QCT Z (-2147483648) 2147483647 (L17 x1 x2 (x3 + 1) h)) (hc : x3 = 1 ∨ x3 = 2) (f2 : iv 1 100 x2) : ∀ (q : Nat) (h : ph_H), (∃ md, PU Z x3 md h) → 101 - (h 52 9).toInt < (q : Int) → PX6_look_47 LP17 q x1 x2 x3 h ∧ QCT Z (-2147483648) 2147483647 (FX6_look_47 L17 q x1 x2 x3 h) := by
  intro q
  induction q with
  | zero =>
    intro h I mq
    obtain ⟨md, z1, m, i, _⟩ := I
    have g : iv 0 100 (h 52 9) := ICv i 52 9
    unfold iv at g
    exfalso
    omega
  | succ q ih =>
    intro h I mq
    obtain ⟨md, I1⟩ := I
    have I0 := I1
    obtain ⟨z0, m0, i0, j0, c60, c90⟩ := I0
    have g : iv 0 100 (h 52 9) := ICv i0 52 9
    unfold PX6_look_47 FX6_look_47
    refine sf_if (fun _ => hL h ⟨z0, m0, i0⟩) (fun c => sf_if (fun _ => ?_) (fun _ => hL h ⟨z0, m0, i0⟩))
    have s := S_pc I1 hc
    refine sf_n s.1 ?_
    obtain ⟨fb, z1, m, i, j, c6, c9, G⟩ := s.2
    unfold PX6_look_66 FX6_look_66
    refine sf_if (fun _ => hL _ ⟨z1, m, i⟩) (fun n => ?_)
    have G1 := G n
    have e9 : (FX6_putChangesc1 h).2 52 9 = h 52 9 := (ICz i 52 9 rfl).trans (c9.trans (c90.symm.trans (ICz i0 52 9 rfl).symm))
    have g2 : iv 0 99 (h 52 9) := iv_ltl g f2 (nle c) rfl
    have g3 : iv 0 99 ((FX6_putChangesc1 h).2 52 9) := iv_r e9 g2
    have f9 : iv 0 100 ((FX6_putChangesc1 h).2 52 9 + 1) := iv_w (iv_add (lo := 1) (hi := 100) g3 (iv_lit (lo := 1) (hi := 1) (x := 1) rfl) rfl) rfl
    have i3 : IC (hs z1 52 9 ((FX6_putChangesc1 h).2 52 9 + 1)) (hs (FX6_putChangesc1 h).2 52 9 ((FX6_putChangesc1 h).2 52 9 + 1)) := ICg (k := 52) (i := 9) i (show iv 0 100 _ from f9) rfl
    have G3 : GT (hs z1 52 9 ((FX6_putChangesc1 h).2 52 9 + 1)) := fun w hw hl => by
      rw [hz_i rfl] at hl
      rw [hz_k rfl]
      exact G1 w hw hl
    have t := S_gtc1 (a0 := -1) ⟨_, fun _ _ _ _ _ => rfl, i3⟩ G3 ⟨by decide, by decide⟩
    refine sf_n t.1 ?_
    obtain ⟨z4, s4, i4⟩ := t.2
    have q9 : z4 52 9 = (FX6_putChangesc1 h).2 52 9 + 1 := (s4 52 9 rfl (fun e => absurd e.2 (by decide)) (by decide)).trans hz_e
    have q6 : z4 52 6 = x3 := (s4 52 6 rfl (fun e => absurd e.2 (by decide)) (by decide)).trans ((hz_i rfl).trans c6)
    have q5 : z4 55 0 = z1 55 0 := (s4 55 0 rfl (fun e => absurd e.1 (by decide)) (by decide)).trans (hz_k rfl)
    refine ih _ ⟨_, z4, zs_m (zmC_o m rfl rfl) s4, i4, Or.inl ?_, q6, rfl⟩ ?_
    · rw [q5]
      refine G1 0 (by decide) ?_
      rw [c6]
      rcases hc with e | e <;> (rw [e]; decide)
    · rw [ICz i4 52 9 rfl, q9, ti_inc g3 rfl, e9]
      omega
theorem S_lk17 {Z : zT} {x1 x2 : Int32} (f1 : iv 0 2 x1) (f2 : iv 1 100 x2) : ∀ (q : Nat) (x3 : Int32) (h : ph_H), CT Z h → iv 1 3 x3 → 3 - x3.toInt < (q : Int) → PX6_look_17 q x1 x2 x3 h ∧ QCT Z (-2147483648) 2147483647 (FX6_look_17 q x1 x2 x3 h) := by
  intro q
  induction q with
  | zero =>
    intro x3 h I f mq
    exact mu_zu f mq rfl
  | succ q ih =>
    intro x3 h I f mq
    unfold PX6_look_17 FX6_look_17
    refine sf_if (fun _ => S_lk93 I) (fun c => sf_if (fun _ => ?_) (fun _ => S_lk93 I))
    have f3 : iv 1 2 x3 := iv_lel f f1 (nlt c) rfl
    have hc : x3 = 1 ∨ x3 = 2 := by
      have o1 : (1 : Int32).toInt = 1 := by decide
      have o2 : (2 : Int32).toInt = 2 := by decide
      unfold iv at f3
      rcases (show x3.toInt = 1 ∨ x3.toInt = 2 by omega) with e | e
      · exact Or.inl (Int32.toInt_inj.mp (e.trans o1.symm))
      · exact Or.inr (Int32.toInt_inj.mp (e.trans o2.symm))
    obtain ⟨z1, m, i⟩ := I
    have i2 : IC (hs z1 52 6 x3) (hs h 52 6 x3) := ICg (k := 52) (i := 6) i (show iv 0 2 x3 from iv_w f3 rfl) rfl
    have p := S_pa (w := 0) (a0 := 0) (a1 := 1) (by decide) i2 ⟨by decide, by decide⟩ ⟨by decide, by decide⟩
    refine sf_n p.1 ?_
    unfold PX6_look_40 FX6_look_40
    have n1 : (1 : Int32).toNatClampNeg = 1 := by decide
    have i4 : IC (hs (hs (hs (hs z1 52 6 x3) 54 0 1) 55 0 (-1)) 53 1 0) (hs (FX6_putAhead 0 1 (hs h 52 6 x3)) 53 ((1 : Int32).toNatClampNeg) 0) := by
      rw [n1]
      exact ICg (k := 53) (i := 1) p.2 (show iv 0 300 0 from ⟨by decide, by decide⟩) rfl
    have g : iv 0 100 (hs (FX6_putAhead 0 1 (hs h 52 6 x3)) 53 ((1 : Int32).toNatClampNeg) 0 52 9) := ICv i4 52 9
    refine sf_n (iv_in (iv_lit (lo := 1) (hi := 1) (x := 1) rfl) rfl) (S_lk47 (fun h' I' => ih _ _ I' (iv_w (iv_add (lo := 2) (hi := 3) f3 (iv_lit (lo := 1) (hi := 1) (x := 1) rfl) rfl) rfl) (mu_up f3 mq rfl)) hc f2 2000 _ ⟨_, _, zmC_o (zmC_o (zmC_o (zmC_o m rfl rfl) rfl rfl) rfl rfl) rfl rfl, i4, Or.inr hz_e, ?_, rfl⟩ ?_)
    · rw [hz_k rfl, hz_k rfl, hz_k rfl, hz_e]
    · unfold iv at g
      omega
theorem S_look {Z : zT} {a0 a1 : Int32} {h : ph_H} (I : CT Z h) (f0 : iv 0 2 a0) (f1 : iv 1 100 a1) : PX6_look a0 a1 h ∧ QCT Z (-2147483648) 2147483647 (FX6_look a0 a1 h) := by
  obtain ⟨z1, m, i⟩ := I
  have i3 : IC (hs (hs z1 52 6 0) 52 9 1) (hs (hs h 52 6 0) 52 9 1) := ICg (k := 52) (i := 9) (ICg (k := 52) (i := 6) i (show iv 0 2 0 from ⟨by decide, by decide⟩) rfl) (show iv 0 100 1 from ⟨by decide, by decide⟩) rfl
  have e6 : hs (hs z1 52 6 0) 52 9 1 52 6 = 0 := (hz_i rfl).trans hz_e
  have G3 : GT (hs (hs z1 52 6 0) 52 9 1) := fun w hw hl => by
    rw [e6, ti_lit0] at hl
    omega
  have t := S_gt (a0 := 0) ⟨_, fun _ _ _ _ _ => rfl, i3⟩ G3 ⟨by decide, by decide⟩
  unfold PX6_look FX6_look
  refine sf_n t.1 ?_
  obtain ⟨z4, s4, i4⟩ := t.2
  unfold PX6_look_15 FX6_look_15
  exact S_lk17 f0 f1 2000 1 _ ⟨z4, zs_m (zmC_o (zmC_o m rfl rfl) rfl rfl) s4, i4⟩ ⟨by decide, by decide⟩ (by decide)
theorem SX11_find_T {z : zT} (a0 a1 : Int32) (h : ph_H) (I : CT z h) : PX11_find a0 a1 h ∧ QCT z (-2147483648) 2147483647 (FX11_find a0 a1 h) := by
  have N : ∀ v : Int32, True ∧ QCT z (-2147483648) 2147483647 (v, h) := fun v => ⟨trivial, QCT_mk (iv_any _) I⟩
  unfold PX11_find FX11_find
  refine sf_if (fun _ => N _) (fun c1 => sf_if (fun _ => N _) (fun c2 => sf_if (fun _ => N _) (fun c3 => sf_if (fun c4 => ?_) (fun _ => N _))))
  have o1 : (1 : Int32).toInt = 1 := by decide
  have o2 : (2 : Int32).toInt = 2 := by decide
  have o100 : (100 : Int32).toInt = 100 := by decide
  rw [Int32.lt_iff_toInt_lt] at c1 c2 c3
  rw [Int32.le_iff_toInt_le] at c4
  rw [ti_lit0] at c1
  rw [o2] at c2
  rw [o1] at c3
  rw [o100] at c4
  have s := S_look (a0 := a0) (a1 := a1) I ⟨by omega, by omega⟩ ⟨by omega, c4⟩
  exact sf_n s.1 ⟨trivial, QCT_mk s.2.1 s.2.2⟩
