/-! A run of the class: its CHANGES are no more than its steps. -/
def CH (z : zT) (h : ph_H) : Prop := ∃ z', zmC z z' ∧ IC z' h ∧ (z' 35 12).toInt ≤ (z' 35 11).toInt
def QH (z : zT) (o : Int32 × ph_H) : Prop := iv 0 1 o.1 ∧ CH z o.2
theorem QH_mk {z : zT} {x : Int32} {h : ph_H} (f : iv 0 1 x) (I : CH z h) : QH z (x, h) := ⟨f, I⟩
theorem CH.t {z : zT} {h : ph_H} (I : CH z h) : CT z h := by
  obtain ⟨z', m, i, _⟩ := I
  exact ⟨z', m, i⟩
theorem CHv {z : zT} {h : ph_H} (I : CH z h) (k i : Nat) : iv (tC k i).1 (tC k i).2 (h k i) := by
  obtain ⟨z', m, j, _⟩ := I
  exact ICv j k i
theorem zmC_o {z z' : zT} {k i : Nat} {v : Int32} (m : zmC z z') (n1 : Nat.beq 1 k = false) (n2 : Nat.beq 2 k = false) : zmC z (hs z' k i v) := ⟨fun j => (hz_k n2).trans (m.1 j), (hz_k n1).trans m.2.1, (hz_k n1).trans m.2.2⟩
theorem S_note {z : zT} {h : ph_H} {a0 : Int32} (I : IC z h) (f : iv 0 3 a0) (g : iv 0 299 (z 35 12)) : PX10_noteChange a0 h ∧ ∃ z2, IC z2 (FX10_noteChange a0 h) ∧ (z2 = z ∨ z2 = hs z 35 12 (z 35 12 + 1)) := by
  have s := SX10_latestThread (z := z) h I
  have e : h 35 12 = z 35 12 := ICz I 35 12 rfl
  have g2 : iv 0 299 (h 35 12) := iv_r e g
  unfold PX10_noteChange FX10_noteChange
  refine sf_n s.1 (sf_if (Q := fun o => ∃ z2, IC z2 o ∧ (z2 = z ∨ z2 = hs z 35 12 (z 35 12 + 1))) (fun _ => ⟨trivial, z, I, Or.inl rfl⟩) (fun _ => sf_n (iv_in g2 rfl) (sf_n (iv_in g2 rfl) ⟨trivial, hs z 35 12 (h 35 12 + 1), ?_, Or.inr (by rw [e])⟩)))
  have f9 : iv 0 300 (h 35 12 + 1) := iv_w (iv_add (lo := 1) (hi := 300) g2 (iv_lit (lo := 1) (hi := 1) (x := 1) rfl) rfl) rfl
  exact ICg (k := 35) (i := 12) (ICs (k := 46) (ICa 45 _ I rfl rfl) (show iv 0 3 a0 from f) rfl) (show iv 0 300 _ from f9) rfl
set_option maxRecDepth 100000 in
theorem S_adv51 {z z2 : zT} {h : ph_H} {x2 x3 : Int32} (I : IC z2 h) (f2 : iv 0 3 x2) (g : iv 0 299 (z2 35 11)) (cc : (z2 35 12).toInt ≤ (z2 35 11).toInt + 1) (m : zmC z z2) : PX10_advance_s_51 x2 x3 h ∧ QH z (FX10_advance_s_51 x2 x3 h) := by
  have e : h 35 11 = z2 35 11 := ICz I 35 11 rfl
  have g2 : iv 0 299 (h 35 11) := iv_r e g
  have f9 : iv 1 300 (h 35 11 + 1) := iv_add g2 (iv_lit (lo := 1) (hi := 1) (x := 1) rfl) rfl
  have I1 : IC (hs z2 35 11 (h 35 11 + 1)) (hs h 35 11 (h 35 11 + 1)) := ICg (k := 35) (i := 11) I (show iv 0 300 _ from iv_w f9 rfl) rfl
  have I2 : IC (hs z2 35 11 (h 35 11 + 1)) (hs (hs h 35 11 (h 35 11 + 1)) 36 (h 35 11 + 1).toNatClampNeg x2) := ICs (k := 36) I1 (show iv 0 3 x2 from f2) rfl
  have I3 : IC (hs z2 35 11 (h 35 11 + 1)) (hs (hs (hs h 35 11 (h 35 11 + 1)) 36 (h 35 11 + 1).toNatClampNeg x2) 37 (h 35 11 + 1).toNatClampNeg x3) := ICa 37 _ I2 rfl rfl
  have s := SX5_opOf_t (z := hs z2 35 11 (h 35 11 + 1)) x2 x3 _ I3 f2
  have I4 : IC (hs z2 35 11 (h 35 11 + 1)) (hs (hs (hs (hs h 35 11 (h 35 11 + 1)) 36 (h 35 11 + 1).toNatClampNeg x2) 37 (h 35 11 + 1).toNatClampNeg x3) 38 (h 35 11 + 1).toNatClampNeg (FX5_opOf_t x2 x3 (hs (hs (hs h 35 11 (h 35 11 + 1)) 36 (h 35 11 + 1).toNatClampNeg x2) 37 (h 35 11 + 1).toNatClampNeg x3))) := ICa 38 _ I3 rfl rfl
  have n := SX10_noteEffects_s (z := hs z2 35 11 (h 35 11 + 1)) _ I4
  unfold PX10_advance_s_51 FX10_advance_s_51
  refine sf_n (iv_in f9 rfl) (sf_n (iv_in f9 rfl) (sf_n s.1 (sf_n (iv_in f9 rfl) (sf_n n.1 ⟨trivial, QH_mk iv_01 ⟨_, zmC_o m rfl rfl, n.2, ?_⟩⟩))))
  have e12 : hs z2 35 11 (h 35 11 + 1) 35 12 = z2 35 12 := hz_i rfl
  rw [e12, hz_e, ti_inc g2 rfl, e]
  exact cc
theorem S_advance {z : zT} {h : ph_H} {a1 : Int32} (I : CH z h) (f : iv 0 3 a1) : PX10_advance_s a1 h ∧ QH z (FX10_advance_s a1 h) := by
  have N : True ∧ QH z ((0 : Int32), h) := ⟨trivial, QH_mk iv_00 I⟩
  obtain ⟨z1, m, i, c⟩ := I
  have e11 : h 35 11 = z1 35 11 := ICz i 35 11 rfl
  have g11 : iv 0 300 (h 35 11) := ICv i 35 11
  unfold PX10_advance_s FX10_advance_s
  refine sf_if (fun _ => sf_if (fun c1 => ?_) (fun _ => N)) (fun _ => N)
  have g2 : iv 0 299 (h 35 11) := iv_ltl g11 (iv_lit (lo := 300) (hi := 300) (x := 300) rfl) c1 rfl
  have g3 : iv 0 299 (z1 35 11) := iv_r e11.symm g2
  have n := SX3_nextInstruction_s (z := z1) a1 h i f
  have g := SX3_go_s (z := z1) a1 h i f
  refine sf_n n.1 (sf_n g.1 ?_)
  unfold PX10_advance_s_30 FX10_advance_s_30
  refine sf_if (fun _ => ⟨trivial, QH_mk iv_00 ⟨z1, m, g.2.2, c⟩⟩) (fun _ => ?_)
  have g12 : iv 0 300 (z1 35 12) := iv_r (ICz i 35 12 rfl).symm (ICv i 35 12)
  have t := S_note (a0 := a1) (ICa 35 14 (v := (FX3_go_s a1 h).1) g.2.2 rfl rfl) f (by
    unfold iv at *
    omega)
  refine sf_n t.1 ?_
  obtain ⟨z2, i2, r⟩ := t.2
  have w11 : z2 35 11 = z1 35 11 := by
    rcases r with r | r
    · rw [r]
    · rw [r]
      exact hz_i rfl
  have w12 : (z2 35 12).toInt ≤ (z1 35 12).toInt + 1 := by
    rcases r with r | r
    · rw [r]
      omega
    · rw [r, hz_e, ti_inc g12 rfl]
      omega
  have m2 : zmC z z2 := by
    rcases r with r | r
    · rw [r]
      exact m
    · rw [r]
      exact zmC_o m rfl rfl
  exact S_adv51 i2 f (iv_r w11 g3) (by rw [w11]; omega) m2
theorem S_tt30 {z : zT} (L2 : Int32 → ph_H → ph_H) (LP2 : Int32 → ph_H → Prop) (x3 : Int32) (hL : ∀ h, CH z h → LP2 (x3 + 1) h ∧ CH z (L2 (x3 + 1) h)) (f3 : iv 0 39 x3) {x4 : Int32} (f4 : iv 0 3 x4) : ∀ (q : Nat) (x5 x6 : Int32) (h : ph_H), CH z h → iv 0 100 x6 → 100 - x6.toInt < (q : Int) → PX10_takeTurns_st_30 LP2 q x3 x4 x5 x6 h ∧ CH z (FX10_takeTurns_st_30 L2 q x3 x4 x5 x6 h) := by
  intro q
  induction q with
  | zero =>
    intro x5 x6 h I f mq
    exact mu_zu f mq rfl
  | succ q ih =>
    intro x5 x6 h I f mq
    unfold PX10_takeTurns_st_30 FX10_takeTurns_st_30
    have g : iv 0 100 (h 14 (x3.toNatClampNeg)) := CHv I 14 _
    refine sf_n (iv_in f3 rfl) (sf_if (fun _ => hL h I) (fun c => sf_if (fun _ => hL h I) (fun _ => ?_)))
    have f2 : iv 0 99 x6 := iv_ltl f g (nle c) rfl
    have s := S_advance I f4
    exact sf_n s.1 (ih _ _ _ s.2.2 (iv_w (iv_add (lo := 1) (hi := 100) f2 (iv_lit (lo := 1) (hi := 1) (x := 1) rfl) rfl) rfl) (mu_up f2 mq rfl))
theorem S_tt2 {z : zT} : ∀ (q : Nat) (x3 : Int32) (h : ph_H), CH z h → iv 0 40 x3 → 40 - x3.toInt < (q : Int) → PX10_takeTurns_st_2 q x3 h ∧ CH z (FX10_takeTurns_st_2 q x3 h) := by
  intro q
  induction q with
  | zero =>
    intro x3 h I f mq
    exact mu_zu f mq rfl
  | succ q ih =>
    intro x3 h I f mq
    unfold PX10_takeTurns_st_2 FX10_takeTurns_st_2
    refine sf_if (fun _ => ⟨trivial, I⟩) (fun _ => sf_if (fun _ => ⟨trivial, I⟩) (fun c => ?_))
    have f2 : iv 0 39 x3 := iv_lt f c rfl
    exact sf_n (iv_in f2 rfl) (S_tt30 _ _ x3 (fun h' I' => ih _ _ I' (iv_w (iv_add (lo := 1) (hi := 40) f2 (iv_lit (lo := 1) (hi := 1) (x := 1) rfl) rfl) rfl) (mu_up f2 mq rfl)) f2 (show iv 0 3 _ from CHv I 13 _) 2000 1 0 h I ⟨by decide, by decide⟩ (by decide))
theorem S_go4 {z : zT} : ∀ (q : Nat) (x2 x3 : Int32) (h : ph_H), CH z h → iv 0 300 x3 → 300 - x3.toInt < (q : Int) → PX10_goOn_s_4 q x2 x3 h ∧ CH z (FX10_goOn_s_4 q x2 x3 h) := by
  intro q
  induction q with
  | zero =>
    intro x2 x3 h I f mq
    exact mu_zu f mq rfl
  | succ q ih =>
    intro x2 x3 h I f mq
    unfold PX10_goOn_s_4 FX10_goOn_s_4
    refine sf_if (fun _ => ⟨trivial, I⟩) (fun c => sf_if (fun _ => ⟨trivial, I⟩) (fun _ => ?_))
    have f2 : iv 0 299 x3 := iv_lt f c rfl
    have nx : ∀ (v : Int32) (h' : ph_H), CH z h' → PX10_goOn_s_4 q v (x3 + 1) h' ∧ CH z (FX10_goOn_s_4 q v (x3 + 1) h') := fun v h' I' => ih _ _ _ I' (iv_w (iv_add (lo := 1) (hi := 300) f2 (iv_lit (lo := 1) (hi := 1) (x := 1) rfl) rfl) rfl) (mu_up f2 mq rfl)
    have I0 := I
    obtain ⟨z1, m, i, cc⟩ := I0
    have l := SX10_latestThread (z := z1) h i
    have w := SX3_whoGoes_s (z := z1) (FX10_latestThread h) h i
    refine sf_n l.1 (sf_n w.1 (sf_if (fun _ => nx 0 h I) (fun c2 => ?_)))
    have f4 : iv 0 3 (FX3_whoGoes_s (FX10_latestThread h) h) := iv_ler w.2 (iv_lit (lo := 0) (hi := 0) (x := 0) rfl) (nlt c2) rfl
    have s := S_advance I f4
    refine sf_n s.1 ?_
    unfold PX10_goOn_s_37 FX10_goOn_s_37
    exact sf_if (fun _ => nx 0 _ s.2.2) (fun _ => nx 1 _ s.2.2)
theorem S_record {z : zT} {h : ph_H} (I : CT z h) : PX10_record_s h ∧ CT z (FX10_record_s h) := by
  obtain ⟨z1, m, i⟩ := I
  have z3 : iv 0 300 (0 : Int32) := ⟨by decide, by decide⟩
  have I1 : CH z (hs (hs (hs h 35 11 0) 35 12 0) 35 14 0) := by
    refine ⟨hs (hs z1 35 11 0) 35 12 0, zmC_o (zmC_o m rfl rfl) rfl rfl, ICa 35 14 (ICg (k := 35) (i := 12) (ICg (k := 35) (i := 11) i z3 rfl) z3 rfl) rfl rfl, ?_⟩
    have e : hs (hs z1 35 11 0) 35 12 0 35 11 = 0 := (hz_i rfl).trans hz_e
    rw [hz_e, e]
    exact Int.le_refl _
  have s := S_tt2 2000 0 _ I1 ⟨by decide, by decide⟩ (by decide)
  have g := S_go4 2000 1 0 _ s.2 ⟨by decide, by decide⟩ (by decide)
  obtain ⟨z2, m2, i2, _⟩ := g.2
  have o := SX10_howOver_s (z := z2) _ i2
  unfold PX10_record_s FX10_record_s
  refine sf_n (show PX10_takeTurns_st _ from s.1) ?_
  unfold PX10_record_s_24 FX10_record_s_24
  refine sf_n (show PX10_goOn_s _ from g.1) ?_
  unfold PX10_record_s_29 FX10_record_s_29
  exact sf_n o.1 ⟨trivial, z2, m2, ICs (k := 35) (i := 16) (ICs (k := 35) (i := 15) (ICa 35 13 i2 rfl rfl) (show iv 0 12 _ from ICv i2 15 10) rfl) (show iv 0 30 _ from ICv i2 15 12) rfl⟩
theorem SX11_run {z : zT} (h : ph_H) (I : CT z h) : PX11_run h ∧ QCT z (-2147483648) 2147483647 (FX11_run h) := by
  obtain ⟨z1, m, i⟩ := I
  have b := SX5_become_tn (z := z1) h i
  have c := SX3_begin_st (z := z1) (FX5_become_tn h 8 6) _ b.2
  have r := S_record ⟨z1, m, c.2⟩
  obtain ⟨z2, m2, i2⟩ := r.2
  have f := SX4_forget (z := z2) _ i2
  unfold PX11_run FX11_run
  refine sf_n b.1 ?_
  unfold PX11_run_11 FX11_run_11
  refine sf_n c.1 ?_
  unfold PX11_run_29 FX11_run_29
  refine sf_n r.1 ?_
  unfold PX11_run_40 FX11_run_40
  refine sf_n f.1 ?_
  unfold PX11_run_47 FX11_run_47
  have g : iv 0 300 (FX4_forget (FX10_record_s (FX3_begin_st (FX5_become_tn h 8 6) (FX5_become_tn h))) 35 11) := ICv f.2 35 11
  exact ⟨trivial, iv_any _, z2, m2, ICs (k := 0) (i := 10) (ICs (k := 0) (i := 9) (ICs (k := 0) (i := 8) f.2 (show iv 0 1 1 from iv_01) rfl) (show iv 0 300 _ from g) rfl) (show iv 0 300 _ from g) rfl⟩
