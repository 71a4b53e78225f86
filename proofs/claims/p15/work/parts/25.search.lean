/-! find: the runs -/
def GT (z : zT) : Prop := ∀ w : Nat, w < 2 → (w : Int) < (z 52 6).toInt → 0 ≤ (z 55 w).toInt
def zs (z z' : zT) : Prop := ∀ k i, gc k i = true → ¬ (k = 52 ∧ i = 7) → ¬ k = 53 → z' k i = z k i
def GS (z : zT) (h : ph_H) : Prop := ∃ z', zs z z' ∧ IC z' h
theorem zs_GT {z z' : zT} (m : zs z z') (G : GT z) : GT z' := fun w hw hc => by
  rw [m 52 6 rfl (fun e => absurd e.2 (by decide)) (by decide)] at hc
  rw [m 55 w rfl (fun e => absurd e.1 (by decide)) (by decide)]
  exact G w hw hc
theorem zs_7 {z z' : zT} {v : Int32} (m : zs z z') : zs z (hs z' 52 7 v) := fun k i q a b => by
  rw [hs_o a]
  exact m k i q a b
theorem zs_53 {z z' : zT} {j : Nat} {v : Int32} (m : zs z z') : zs z (hs z' 53 j v) := fun k i q a b => by
  rw [hs_o (fun e => b e.1)]
  exact m k i q a b
theorem GSv {z : zT} {h : ph_H} (I : GS z h) (k i : Nat) : iv (tC k i).1 (tC k i).2 (h k i) := by
  obtain ⟨z', m, j⟩ := I
  exact ICv j k i
theorem S_ch {z : zT} {h : ph_H} (I : IC z h) (G : GT z) {x1 : Int32} (f1 : iv 0 3 x1) : ∀ (q : Nat) (x2 : Int32), iv 0 2 x2 → 2 - x2.toInt < (q : Int) → PX6_chosen_2 q x1 x2 h ∧ iv 0 3 (FX6_chosen_2 q x1 x2 h) := by
  intro q
  induction q with
  | zero =>
    intro x2 f mq
    exact mu_zu f mq rfl
  | succ q ih =>
    intro x2 f mq
    unfold PX6_chosen_2 FX6_chosen_2
    refine sf_if (fun _ => ⟨trivial, f1⟩) (fun c1 => sf_if (fun _ => ⟨trivial, f1⟩) (fun c2 => ?_))
    have f2 : iv 0 1 x2 := iv_lt f c2 rfl
    refine sf_n (iv_in f2 rfl) (sf_if (fun _ => sf_n (iv_in f2 rfl) ⟨trivial, ?_⟩) (fun _ => ih (x2 + 1) (iv_w (iv_add (lo := 1) (hi := 2) f2 (iv_lit (lo := 1) (hi := 1) (x := 1) rfl) rfl) rfl) (mu_up f2 mq rfl)))
    have g : iv (-1) 3 (h 55 (x2.toNatClampNeg)) := ICv I 55 _
    have e := ICz I 55 (x2.toNatClampNeg) rfl
    have e6 := ICz I 52 6 rfl
    have lt := nle c1
    rw [e6, Int32.lt_iff_toInt_lt] at lt
    have t : x2.toNatClampNeg = x2.toInt.toNat := rfl
    unfold iv at f2
    have w := G (x2.toNatClampNeg) (by omega) (by omega)
    rw [e] at g ⊢
    unfold iv at *
    omega
theorem IC57 {z : zT} {h : ph_H} {x1 : Int32} {i : Nat} {v : Int32} (I : IC z h) (q : vp_in x1 2) : IC z (hs h (57 + x1.toNatClampNeg) i v) := by
  rcases op_in q with e | e
  · rw [e]
    exact ICa 57 i I rfl rfl
  · rw [e]
    exact ICa 58 i I rfl rfl
theorem S_122 {z : zT} {h : ph_H} {x1 : Int32} (I : GS z h) (f1 : iv (-1) 1 x1) : PX6_goThrough_122 x1 h ∧ GS z (FX6_goThrough_122 x1 h) := by
  unfold PX6_goThrough_122 FX6_goThrough_122
  refine sf_if (fun _ => ⟨trivial, I⟩) (fun c => ?_)
  have f2 : iv 0 1 x1 := iv_nel (y := -1) f1 c rfl
  obtain ⟨z1, m, i⟩ := I
  have g : iv 0 300 (h 52 7) := ICv i 52 7
  exact sf_n (iv_in f2 rfl) ⟨trivial, _, zs_53 m, ICg (k := 53) i (show iv 0 300 _ from g) rfl⟩
theorem S_82 {z : zT} {L37 : Int32 → Int32 → ph_H → ph_H} {LP37 : Int32 → Int32 → ph_H → Prop} {h : ph_H} {x1 x2 : Int32} (C : ∀ (x2 : Int32) (h' : ph_H), GS z h' → iv (-1) 3 x2 → (h' 52 7).toInt = (h 52 7).toInt + 1 → LP37 x1 x2 h' ∧ GS z (L37 x1 x2 h')) (I : GS z h) (G : GT z) (f2 : iv 0 3 x2) (g : iv 0 299 (h 52 7)) : PX6_goThrough_82 LP37 x1 x2 h ∧ GS z (FX6_goThrough_82 L37 x1 x2 h) := by
  obtain ⟨z1, m, i⟩ := I
  have c := S_ch i (zs_GT m G) f2 2000 0 ⟨by decide, by decide⟩ (by decide)
  have s := SX3_go_oc1 (z := z1) (FX6_chosen x2 h) h i c.2
  have e : (FX3_go_oc1 (FX6_chosen x2 h) h).2 52 7 = h 52 7 := (ICz s.2.2 52 7 rfl).trans (ICz i 52 7 rfl).symm
  have I2 : IC z1 (hs (FX3_go_oc1 (FX6_chosen x2 h) h).2 52 8 (FX3_go_oc1 (FX6_chosen x2 h) h).1) := ICa 52 8 s.2.2 rfl rfl
  have w := SX3_whoGoes_oc1 (z := z1) (FX6_chosen x2 h) _ I2
  have g2 : iv 0 299 ((FX3_go_oc1 (FX6_chosen x2 h) h).2 52 7) := iv_r e g
  have f9 : iv 0 300 ((FX3_go_oc1 (FX6_chosen x2 h) h).2 52 7 + 1) := iv_w (iv_add (lo := 1) (hi := 300) g2 (iv_lit (lo := 1) (hi := 1) (x := 1) rfl) rfl) rfl
  unfold PX6_goThrough_82 FX6_goThrough_82
  refine sf_n (show PX6_chosen x2 h from c.1) (sf_n s.1 ?_)
  unfold PX6_goThrough_97 FX6_goThrough_97
  refine sf_n w.1 (C _ _ ⟨_, zs_7 m, ICg (k := 52) (i := 7) I2 (show iv 0 300 _ from f9) rfl⟩ w.2 ?_)
  rw [hz_e, ti_inc g2 rfl, e]
theorem S_37 {z : zT} (G : GT z) : ∀ (q : Nat) (x1 x2 : Int32) (h : ph_H), GS z h → iv (-1) 1 x1 → iv (-1) 3 x2 → 300 - (h 52 7).toInt < (q : Int) → PX6_goThrough_37 q x1 x2 h ∧ GS z (FX6_goThrough_37 q x1 x2 h) := by
  intro q
  induction q with
  | zero =>
    intro x1 x2 h I f1 f2 mq
    have g : iv 0 300 (h 52 7) := GSv I 52 7
    unfold iv at g
    exfalso
    omega
  | succ q ih =>
    intro x1 x2 h I f1 f2 mq
    unfold PX6_goThrough_37 FX6_goThrough_37
    have g : iv 0 300 (h 52 7) := GSv I 52 7
    have E := S_122 I f1
    refine sf_if (fun _ => E) (fun c1 => sf_if (fun _ => E) (fun c2 => sf_if (fun _ => ?_) (fun _ => E)))
    have g2 : iv 0 299 (h 52 7) := iv_lt g c1 rfl
    have f3 : iv 0 3 x2 := iv_ler f2 (iv_lit (lo := 0) (hi := 0) (x := 0) rfl) (nlt c2) rfl
    refine sf_if (fun _ => S_82 (fun y h' I' f' e => ih _ _ _ I' f1 f' (by omega)) I G f3 g2) (fun c4 => ?_)
    have f4 : iv 0 1 x1 := iv_nel (y := -1) f1 c4 rfl
    obtain ⟨z1, m, i⟩ := I
    have r := SX3_rivalsOf_oc1 (z := z1) x2 h i
    have i3 : IC z1 (hs h (57 + x1.toNatClampNeg) (h 52 7).toNatClampNeg (FX3_rivalsOf_oc1 x2 h)) := IC57 i (iv_in f4 rfl)
    have e7 : hs h (57 + x1.toNatClampNeg) (h 52 7).toNatClampNeg (FX3_rivalsOf_oc1 x2 h) 52 7 = h 52 7 := (ICz i3 52 7 rfl).trans (ICz i 52 7 rfl).symm
    refine sf_n (iv_in f4 rfl) (sf_n r.1 (sf_n (iv_in g2 rfl) (S_82 (fun y h' I' f' e => ih _ _ _ I' f1 f' ?_) ⟨z1, m, i3⟩ G f3 (iv_r e7 g2))))
    rw [e7] at e
    omega
theorem S_gt {z : zT} {a0 : Int32} {h : ph_H} (I : GS z h) (G : GT z) (f : iv (-1) 1 a0) : PX6_goThrough a0 h ∧ GS z (FX6_goThrough a0 h) := by
  obtain ⟨z1, m, i⟩ := I
  have b := SX3_begin_on (z := z1) (h 1 6) h i
  have w := SX3_whoGoes_oc1 (z := z1) 0 _ b.2
  have h0 : (0 : Int32).toInt = 0 := by decide
  unfold PX6_goThrough FX6_goThrough
  refine sf_n b.1 ?_
  unfold PX6_goThrough_18 FX6_goThrough_18
  refine sf_n w.1 (S_37 G 2000 a0 _ _ ⟨_, zs_7 m, ICg (k := 52) (i := 7) (ICa 52 8 b.2 rfl rfl) (show iv 0 300 0 from ⟨by decide, by decide⟩) rfl⟩ f w.2 ?_)
  rw [hz_e, h0]
  decide
theorem S_122c1 {z : zT} {h : ph_H} {x1 : Int32} (I : GS z h) (f1 : iv (-1) 1 x1) : PX6_goThroughc1_122 x1 h ∧ GS z (FX6_goThroughc1_122 x1 h) := by
  unfold PX6_goThroughc1_122 FX6_goThroughc1_122
  refine sf_if (fun _ => ⟨trivial, I⟩) (fun c => ?_)
  have f2 : iv 0 1 x1 := iv_nel (y := -1) f1 c rfl
  obtain ⟨z1, m, i⟩ := I
  have g : iv 0 300 (h 52 7) := ICv i 52 7
  exact sf_n (iv_in f2 rfl) ⟨trivial, _, zs_53 m, ICg (k := 53) i (show iv 0 300 _ from g) rfl⟩
theorem S_82c1 {z : zT} {L37 : Int32 → Int32 → ph_H → ph_H} {LP37 : Int32 → Int32 → ph_H → Prop} {h : ph_H} {x1 x2 : Int32} (C : ∀ (x2 : Int32) (h' : ph_H), GS z h' → iv (-1) 3 x2 → (h' 52 7).toInt = (h 52 7).toInt + 1 → LP37 x1 x2 h' ∧ GS z (L37 x1 x2 h')) (I : GS z h) (G : GT z) (f2 : iv 0 3 x2) (g : iv 0 299 (h 52 7)) : PX6_goThroughc1_82 LP37 x1 x2 h ∧ GS z (FX6_goThroughc1_82 L37 x1 x2 h) := by
  obtain ⟨z1, m, i⟩ := I
  have c := S_ch i (zs_GT m G) f2 2000 0 ⟨by decide, by decide⟩ (by decide)
  have s := SX3_go_oc1 (z := z1) (FX6_chosen x2 h) h i c.2
  have e : (FX3_go_oc1 (FX6_chosen x2 h) h).2 52 7 = h 52 7 := (ICz s.2.2 52 7 rfl).trans (ICz i 52 7 rfl).symm
  have I2 : IC z1 (hs (FX3_go_oc1 (FX6_chosen x2 h) h).2 52 8 (FX3_go_oc1 (FX6_chosen x2 h) h).1) := ICa 52 8 s.2.2 rfl rfl
  have w := SX3_whoGoes_oc1 (z := z1) (FX6_chosen x2 h) _ I2
  have g2 : iv 0 299 ((FX3_go_oc1 (FX6_chosen x2 h) h).2 52 7) := iv_r e g
  have f9 : iv 0 300 ((FX3_go_oc1 (FX6_chosen x2 h) h).2 52 7 + 1) := iv_w (iv_add (lo := 1) (hi := 300) g2 (iv_lit (lo := 1) (hi := 1) (x := 1) rfl) rfl) rfl
  unfold PX6_goThroughc1_82 FX6_goThroughc1_82
  refine sf_n (show PX6_chosen x2 h from c.1) (sf_n s.1 ?_)
  unfold PX6_goThroughc1_97 FX6_goThroughc1_97
  refine sf_n w.1 (C _ _ ⟨_, zs_7 m, ICg (k := 52) (i := 7) I2 (show iv 0 300 _ from f9) rfl⟩ w.2 ?_)
  rw [hz_e, ti_inc g2 rfl, e]
theorem S_37c1 {z : zT} (G : GT z) : ∀ (q : Nat) (x1 x2 : Int32) (h : ph_H), GS z h → iv (-1) 1 x1 → iv (-1) 3 x2 → 300 - (h 52 7).toInt < (q : Int) → PX6_goThroughc1_37 q x1 x2 h ∧ GS z (FX6_goThroughc1_37 q x1 x2 h) := by
  intro q
  induction q with
  | zero =>
    intro x1 x2 h I f1 f2 mq
    have g : iv 0 300 (h 52 7) := GSv I 52 7
    unfold iv at g
    exfalso
    omega
  | succ q ih =>
    intro x1 x2 h I f1 f2 mq
    unfold PX6_goThroughc1_37 FX6_goThroughc1_37
    have g : iv 0 300 (h 52 7) := GSv I 52 7
    have E := S_122c1 I f1
    refine sf_if (fun _ => E) (fun c1 => sf_if (fun _ => E) (fun c2 => sf_if (fun _ => ?_) (fun _ => E)))
    have g2 : iv 0 299 (h 52 7) := iv_lt g c1 rfl
    have f3 : iv 0 3 x2 := iv_ler f2 (iv_lit (lo := 0) (hi := 0) (x := 0) rfl) (nlt c2) rfl
    refine sf_if (fun _ => S_82c1 (fun y h' I' f' e => ih _ _ _ I' f1 f' (by omega)) I G f3 g2) (fun c4 => ?_)
    have f4 : iv 0 1 x1 := iv_nel (y := -1) f1 c4 rfl
    obtain ⟨z1, m, i⟩ := I
    have r := SX3_rivalsOf_oc1 (z := z1) x2 h i
    have i3 : IC z1 (hs h (57 + x1.toNatClampNeg) (h 52 7).toNatClampNeg (FX3_rivalsOf_oc1 x2 h)) := IC57 i (iv_in f4 rfl)
    have e7 : hs h (57 + x1.toNatClampNeg) (h 52 7).toNatClampNeg (FX3_rivalsOf_oc1 x2 h) 52 7 = h 52 7 := (ICz i3 52 7 rfl).trans (ICz i 52 7 rfl).symm
    refine sf_n (iv_in f4 rfl) (sf_n r.1 (sf_n (iv_in g2 rfl) (S_82c1 (fun y h' I' f' e => ih _ _ _ I' f1 f' ?_) ⟨z1, m, i3⟩ G f3 (iv_r e7 g2))))
    rw [e7] at e
    omega
theorem S_gtc1 {z : zT} {a0 : Int32} {h : ph_H} (I : GS z h) (G : GT z) (f : iv (-1) 1 a0) : PX6_goThroughc1 a0 h ∧ GS z (FX6_goThroughc1 a0 h) := by
  obtain ⟨z1, m, i⟩ := I
  have b := SX3_begin_onc1 (z := z1) (h 1 6) h i
  have w := SX3_whoGoes_oc1 (z := z1) 0 _ b.2
  have h0 : (0 : Int32).toInt = 0 := by decide
  unfold PX6_goThroughc1 FX6_goThroughc1
  refine sf_n b.1 ?_
  unfold PX6_goThroughc1_18 FX6_goThroughc1_18
  refine sf_n w.1 (S_37c1 G 2000 a0 _ _ ⟨_, zs_7 m, ICg (k := 52) (i := 7) (ICa 52 8 b.2 rfl rfl) (show iv 0 300 0 from ⟨by decide, by decide⟩) rfl⟩ f w.2 ?_)
  rw [hz_e, h0]
  decide
