/-! find: where CHANGES are put -/
def Mo (z : zT) (w : Nat) (o : Int32 × ph_H) : Prop := (o.1 = 0 ∧ IC z o.2) ∨ (o.1 = 1 ∧ ∃ k t : Int32, iv 0 299 k ∧ iv 0 3 t ∧ k.toInt < (z 53 w).toInt ∧ IC (hs (hs z 54 w k) 55 w t) o.2)
theorem Mo_0 {z : zT} {w : Nat} {h : ph_H} (I : IC z h) : Mo z w ((0 : Int32), h) := Or.inl ⟨rfl, I⟩
theorem S_mo29 {z : zT} {w : Nat} {h : ph_H} {x1 x3 : Int32} {L16 : Int32 → Int32 → Int32 → ph_H → Int32 × ph_H} {LP16 : Int32 → Int32 → Int32 → ph_H → Prop} (hw : x1.toNatClampNeg = w) (I : IC z h) (f1 : iv 0 1 x1) (f3 : iv 0 299 x3) (lt : x3.toInt < (z 53 w).toInt) (hL : LP16 x1 0 (x3 + 1) h ∧ Mo z w (L16 x1 0 (x3 + 1) h)) : ∀ (q : Nat) (x4 : Int32), iv 0 4 x4 → 4 - x4.toInt < (q : Int) → PX6_moveOn_29 LP16 q x1 x3 x4 h ∧ Mo z w (FX6_moveOn_29 L16 q x1 x3 x4 h) := by
  intro q
  induction q with
  | zero =>
    intro x4 f mq
    exact mu_zu f mq rfl
  | succ q ih =>
    intro x4 f mq
    unfold PX6_moveOn_29 FX6_moveOn_29
    refine sf_if (fun _ => hL) (fun c => ?_)
    have f4 : iv 0 3 x4 := iv_lt f c rfl
    refine sf_n (iv_in f1 rfl) (sf_n (iv_in f3 rfl) (sf_if (fun _ => ih _ (iv_w (iv_add (lo := 1) (hi := 4) f4 (iv_lit (lo := 1) (hi := 1) (x := 1) rfl) rfl) rfl) (mu_up f4 mq rfl)) (fun _ => sf_n (iv_in f1 rfl) (sf_n (iv_in f1 rfl) ⟨trivial, Or.inr ⟨rfl, x3, x4, f3, f4, lt, ?_⟩⟩))))
    rw [← hw]
    exact ICg (k := 55) (ICg (k := 54) I (show iv 0 301 x3 from iv_w f3 rfl) rfl) (show iv (-1) 3 x4 from iv_w f4 rfl) rfl
theorem S_mo16 {z : zT} {w : Nat} {h : ph_H} {x1 : Int32} (hw : x1.toNatClampNeg = w) (I : IC z h) (f1 : iv 0 1 x1) : ∀ (q : Nat) (x2 x3 : Int32), iv 0 4 x2 → iv 0 301 x3 → 301 - x3.toInt < (q : Int) → PX6_moveOn_16 q x1 x2 x3 h ∧ Mo z w (FX6_moveOn_16 q x1 x2 x3 h) := by
  intro q
  induction q with
  | zero =>
    intro x2 x3 f2 f3 mq
    exact mu_zu f3 mq rfl
  | succ q ih =>
    intro x2 x3 f2 f3 mq
    unfold PX6_moveOn_16 FX6_moveOn_16
    have g : iv 0 300 (h 53 (x1.toNatClampNeg)) := ICv I 53 _
    refine sf_n (iv_in f1 rfl) (sf_if (fun _ => ⟨trivial, Mo_0 I⟩) (fun c => ?_))
    have f4 : iv 0 299 x3 := iv_ltl f3 g (nle c) rfl
    have e := ICz I 53 (x1.toNatClampNeg) rfl
    have lt := nle c
    rw [e, Int32.lt_iff_toInt_lt, hw] at lt
    exact S_mo29 hw I f1 f4 lt (ih 0 (x3 + 1) ⟨by decide, by decide⟩ (iv_w (iv_add (lo := 1) (hi := 300) f4 (iv_lit (lo := 1) (hi := 1) (x := 1) rfl) rfl) rfl) (mu_up f4 mq rfl)) 2000 x2 f2 (mu_0u f2 rfl)
theorem S_mo {z : zT} {w : Nat} {h : ph_H} {a0 : Int32} (hw : a0.toNatClampNeg = w) (I : IC z h) (f : iv 0 1 a0) : PX6_moveOn a0 h ∧ Mo z w (FX6_moveOn a0 h) := by
  have g5 : iv (-1) 3 (h 55 (a0.toNatClampNeg)) := ICv I 55 _
  have g4 : iv 0 301 (h 54 (a0.toNatClampNeg)) := ICv I 54 _
  unfold PX6_moveOn FX6_moveOn
  exact sf_n (iv_in f rfl) (sf_n (iv_in f rfl) (S_mo16 hw I f 2000 _ _ (iv_add g5 (iv_lit (lo := 1) (hi := 1) (x := 1) rfl) rfl) g4 (mu_0u g4 rfl)))
theorem S_pa {z : zT} {w : Nat} {h : ph_H} {a0 a1 : Int32} (hw : a0.toNatClampNeg = w) (I : IC z h) (f : iv 0 1 a0) (f1 : iv 0 301 a1) : PX6_putAhead a0 a1 h ∧ IC (hs (hs z 54 w a1) 55 w (-1)) (FX6_putAhead a0 a1 h) := by
  rw [← hw]
  exact ⟨⟨iv_in f rfl, iv_in f rfl, trivial⟩, ICg (k := 55) (ICg (k := 54) I (show iv 0 301 a1 from f1) rfl) (show iv (-1) 3 (-1) from ⟨by decide, by decide⟩) rfl⟩
def Jz (z : zT) : Prop := 0 ≤ (z 55 0).toInt ∨ z 53 1 = 0
def PU (Z : zT) (c md : Int32) (h : ph_H) : Prop := ∃ z1, zmC Z z1 ∧ IC z1 h ∧ Jz z1 ∧ z1 52 6 = c ∧ z1 52 9 = md
def PQ (Z : zT) (c md : Int32) (o : Int32 × ph_H) : Prop := iv 0 1 o.1 ∧ ∃ z1, zmC Z z1 ∧ IC z1 o.2 ∧ Jz z1 ∧ z1 52 6 = c ∧ z1 52 9 = md ∧ (¬ o.1 = 0 → GT z1)
theorem PQ_mk {Z : zT} {c md x : Int32} {h : ph_H} (f : iv 0 1 x) (q : ∃ z1, zmC Z z1 ∧ IC z1 h ∧ Jz z1 ∧ z1 52 6 = c ∧ z1 52 9 = md ∧ (¬ x = 0 → GT z1)) : PQ Z c md (x, h) := ⟨f, q⟩
theorem zs_m {Z z z' : zT} (m : zmC Z z) (s : zs z z') : zmC Z z' := ⟨fun i => (s 2 i rfl (fun e => absurd e.1 (by decide)) (by decide)).trans (m.1 i), (s 1 6 rfl (fun e => absurd e.1 (by decide)) (by decide)).trans m.2.1, (s 1 7 rfl (fun e => absurd e.1 (by decide)) (by decide)).trans m.2.2⟩
theorem ti_lit0 : (0 : Int32).toInt = 0 := by decide
/-- one CHANGE is put: what follows for the next run -/
theorem S_pc16 {Z : zT} {md : Int32} : ∀ (q : Nat) (x1 : Int32) (h : ph_H), PU Z 2 md h → iv 0 1200 x1 → 1200 - x1.toInt < (q : Int) → PX6_putChangesc1_16 q x1 h ∧ PQ Z 2 md (FX6_putChangesc1_16 q x1 h) := by
  intro q
  induction q with
  | zero =>
    intro x1 h I f mq
    exact mu_zu f mq rfl
  | succ q ih =>
    intro x1 h I f mq
    unfold PX6_putChangesc1_16 FX6_putChangesc1_16
    obtain ⟨z1, m, i, j, c6, c9⟩ := I
    refine sf_if (fun _ => ⟨trivial, PQ_mk iv_00 ⟨z1, m, i, j, c6, c9, fun n => absurd rfl n⟩⟩) (fun c => ?_)
    have f2 : iv 0 1199 x1 := iv_lt f c rfl
    have s1 := S_mo (w := 1) (a0 := 1) (by decide) i ⟨by decide, by decide⟩
    refine sf_n s1.1 ?_
    unfold PX6_putChangesc1_28 FX6_putChangesc1_28
    have t2 : (2 : Int32).toInt = 2 := by decide
    rcases s1.2 with ⟨r1, i1⟩ | ⟨r1, k, t, fk, ft, lt, i1⟩
    · refine sf_if (fun _ => ?_) (fun n => absurd r1 n)
      have s0 := S_mo (w := 0) (a0 := 0) (by decide) i1 ⟨by decide, by decide⟩
      refine sf_n s0.1 ?_
      unfold PX6_putChangesc1_38 FX6_putChangesc1_38
      rcases s0.2 with ⟨r0, i0⟩ | ⟨r0, k, t, fk, ft, lt, i0⟩
      · exact sf_if (fun _ => ⟨trivial, PQ_mk iv_00 ⟨z1, m, i0, j, c6, c9, fun n => absurd rfl n⟩⟩) (fun n => absurd r0 n)
      · refine sf_if (fun n => absurd (n.symm.trans r0) (by decide)) (fun _ => ?_)
        have i3 : IC (hs (hs (hs z1 54 0 k) 55 0 t) 52 6 1) (hs (FX6_moveOn 0 (FX6_moveOn 1 h).2).2 52 6 1) := ICg (k := 52) (i := 6) i0 (show iv 0 2 1 from ⟨by decide, by decide⟩) rfl
        have e55 : hs (hs (hs z1 54 0 k) 55 0 t) 52 6 1 55 0 = t := (hz_k rfl).trans hz_e
        have G3 : GT (hs (hs (hs z1 54 0 k) 55 0 t) 52 6 1) := fun w hw hc => by
          rw [hz_e] at hc
          have o1 : (1 : Int32).toInt = 1 := by decide
          have w0 : w = 0 := by omega
          subst w0
          rw [e55]
          exact ft.1
        have g := S_gtc1 (a0 := 1) ⟨_, fun _ _ _ _ _ => rfl, i3⟩ G3 ⟨by decide, by decide⟩
        refine sf_n g.1 ?_
        obtain ⟨z4, s4, i4⟩ := g.2
        have m4 : zmC Z z4 := zs_m (zmC_o (zmC_o (zmC_o m rfl rfl) rfl rfl) rfl rfl) s4
        have e54 : z4 54 0 = k := (s4 54 0 rfl (fun e => absurd e.1 (by decide)) (by decide)).trans ((hz_k rfl).trans ((hz_k rfl).trans hz_e))
        have e550 : z4 55 0 = t := (s4 55 0 rfl (fun e => absurd e.1 (by decide)) (by decide)).trans e55
        have e9 : z4 52 9 = md := (s4 52 9 rfl (fun e => absurd e.2 (by decide)) (by decide)).trans ((hz_i rfl).trans ((hz_k rfl).trans ((hz_k rfl).trans c9)))
        have n0 : (0 : Int32).toNatClampNeg = 0 := by decide
        have ek : FX6_goThroughc1 1 (hs (FX6_moveOn 0 (FX6_moveOn 1 h).2).2 52 6 1) 54 ((0 : Int32).toNatClampNeg) = k := by
          rw [n0]
          exact (ICz i4 54 0 rfl).trans e54
        have i5 : IC (hs z4 52 6 2) (hs (FX6_goThroughc1 1 (hs (FX6_moveOn 0 (FX6_moveOn 1 h).2).2 52 6 1)) 52 6 2) := ICg (k := 52) (i := 6) i4 (show iv 0 2 2 from ⟨by decide, by decide⟩) rfl
        have fa : iv 0 301 (FX6_goThroughc1 1 (hs (FX6_moveOn 0 (FX6_moveOn 1 h).2).2 52 6 1) 54 ((0 : Int32).toNatClampNeg) + 1) := by
          rw [ek]
          exact iv_w (iv_add (lo := 1) (hi := 300) fk (iv_lit (lo := 1) (hi := 1) (x := 1) rfl) rfl) rfl
        have p := S_pa (w := 1) (a0 := 1) (by decide) i5 ⟨by decide, by decide⟩ fa
        unfold PX6_putChangesc1_53 FX6_putChangesc1_53
        refine sf_n (iv_in (iv_lit (lo := 0) (hi := 0) (x := 0) rfl) rfl) (sf_n p.1 ?_)
        unfold PX6_putChangesc1_71 FX6_putChangesc1_71
        refine ih _ _ ⟨_, zmC_o (zmC_o (zmC_o m4 rfl rfl) rfl rfl) rfl rfl, p.2, Or.inl ?_, ?_, ?_⟩ (iv_w (iv_add (lo := 1) (hi := 1200) f2 (iv_lit (lo := 1) (hi := 1) (x := 1) rfl) rfl) rfl) (mu_up f2 mq rfl)
        · rw [hz_i rfl, hz_k rfl, hz_k rfl, e550]
          exact ft.1
        · rw [hz_k rfl, hz_k rfl, hz_e]
        · rw [hz_k rfl, hz_k rfl, hz_i rfl]
          exact e9
    · refine sf_if (fun n => absurd (n.symm.trans r1) (by decide)) (fun _ => ⟨trivial, PQ_mk iv_01 ⟨_, zmC_o (zmC_o m rfl rfl) rfl rfl, i1, ?_, ?_, ?_, fun _ => fun w hw hc => ?_⟩⟩)
      · unfold Jz
        rw [hz_i rfl, hz_k rfl, hz_k rfl, hz_k rfl]
        exact j
      · rw [hz_k rfl, hz_k rfl]
        exact c6
      · rw [hz_k rfl, hz_k rfl]
        exact c9
      · have cs : w = 0 ∨ w = 1 := by omega
        rcases cs with e | e
        · subst e
          rw [hz_i rfl, hz_k rfl]
          rcases j with j | j
          · exact j
          · rw [j, ti_lit0] at lt
            unfold iv at fk
            omega
        · subst e
          rw [hz_e]
          exact ft.1
theorem S_pc {Z : zT} {c md : Int32} {h : ph_H} (I : PU Z c md h) (hc : c = 1 ∨ c = 2) : PX6_putChangesc1 h ∧ PQ Z c md (FX6_putChangesc1 h) := by
  have I0 := I
  obtain ⟨z1, m, i, j, c6, c9⟩ := I0
  have e6 : h 52 6 = c := (ICz i 52 6 rfl).trans c6
  unfold PX6_putChangesc1 FX6_putChangesc1
  refine sf_if (fun e => ?_) (fun n => ?_)
  · have s0 := S_mo (w := 0) (a0 := 0) (by decide) i ⟨by decide, by decide⟩
    have o1 : (1 : Int32).toInt = 1 := by decide
    rcases s0.2 with ⟨r0, i0⟩ | ⟨r0, k, t, fk, ft, lt, i0⟩
    · have fb : iv 0 1 (FX6_moveOn 0 h).1 := iv_r r0 iv_00
      exact sf_n s0.1 (sf_n (iv_bo fb) ⟨trivial, PQ_mk fb ⟨z1, m, i0, j, c6, c9, fun n => absurd r0 n⟩⟩)
    · have fb : iv 0 1 (FX6_moveOn 0 h).1 := iv_r r0 iv_01
      refine sf_n s0.1 (sf_n (iv_bo fb) ⟨trivial, PQ_mk fb ⟨_, zmC_o (zmC_o m rfl rfl) rfl rfl, i0, Or.inl ?_, ?_, ?_, fun _ => fun w hw hl => ?_⟩⟩)
      · rw [hz_e]
        exact ft.1
      · rw [hz_k rfl, hz_k rfl]
        exact c6
      · rw [hz_k rfl, hz_k rfl]
        exact c9
      · rw [hz_k rfl, hz_k rfl, c6, ← e6, e, o1] at hl
        have w0 : w = 0 := by omega
        subst w0
        rw [hz_e]
        exact ft.1
  · have c2 : c = 2 := by
      rcases hc with q | q
      · exact absurd (e6.trans q) n
      · exact q
    subst c2
    exact S_pc16 2000 0 h I ⟨by decide, by decide⟩ (by decide)
