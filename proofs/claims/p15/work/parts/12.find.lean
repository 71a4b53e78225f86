/-! find -/
theorem QiT_mk {z : zT} {a b : Int} {x : Int32} {h : ph_H} (f : iv a b x) (I : IT z h) : QiT z a b (x, h) := ⟨f, I⟩
theorem ITk {z : zT} {h : ph_H} (I : IT z h) : IT z (hs h 0 33 0) := by
  obtain ⟨z1, m, i, e⟩ := I
  exact ⟨_, zm_hs m rfl rfl, IMg (k := 0) (i := 33) i (show iv 0 1 0 from iv_00) rfl, hz_e⟩
theorem SX12_isOver_T {z : zT} (h : ph_H) (I : IT z h) : PX12_isOver h ∧ QiT z 0 1 (FX12_isOver h) := toT I (fun z1 i => SX12_isOver (z := z1) h i)
set_option maxRecDepth 100000 in
set_option maxHeartbeats 4000000 in
theorem SX12_tryLast_12 {z : zT} (L3 : Int32 → Int32 → Int32 → ph_H → Int32 × ph_H) (LP3 : Int32 → Int32 → Int32 → ph_H → Prop) (q3 : Nat) (hL3 : ∀ (x1 : Int32) (x3 : Int32) (x4 : Int32) (h : ph_H), IT z h → iv 0 1 x1 → iv 0 300 x3 → iv 0 301 x4 → 301 - (x4).toInt < ((q3 : Nat) : Int) → LP3 x1 x3 x4 h ∧ QiT z 0 1 (L3 x1 x3 x4 h)) : ∀ (q : Nat) (x1 : Int32) (x3 : Int32) (x4 : Int32) (x5 : Int32) (h : ph_H), IT z h → iv 0 1 x1 → iv 1 300 x3 → iv 0 299 x4 → iv 0 4 x5 → 301 - (x4).toInt < ((q3 + 1 : Nat) : Int) → 4 - (x5).toInt < ((q : Nat) : Int) → PX12_tryLast_12 LP3 q x1 x3 x4 x5 h ∧ QiT z 0 1 (FX12_tryLast_12 L3 q x1 x3 x4 x5 h) := by
  intro q
  induction q with
  | zero =>
    intro x1 x3 x4 x5 h I f_x1 f_x3 f_x4 f_x5 m3 mq
    exact mu_zu f_x5 mq rfl
  | succ q ih =>
    intro x1 x3 x4 x5 h I f_x1 f_x3 f_x4 f_x5 m3 mq
    unfold PX12_tryLast_12 FX12_tryLast_12
    refine sf_if (fun c1 => ?_) (fun c1 => ?_)
    · have f2 : iv 4 4 x5 := iv_ler f_x5 (iv_lit (lo := 4) (hi := 4) (x := 4) rfl) c1 rfl
      have f3 : iv 1 300 (x4 + 1) := iv_add f_x4 (iv_lit (lo := 1) (hi := 1) (x := 1) rfl) rfl
      exact hL3 x1 x3 (x4 + 1) h I f_x1 (iv_w (c := 0) (d := 300) f_x3 rfl) (iv_w (c := 0) (d := 301) f3 rfl) (mu_up f_x4 m3 rfl)
    · have f4 : iv 0 3 x5 := iv_ltl f_x5 (iv_lit (lo := 4) (hi := 4) (x := 4) rfl) (nle c1) rfl
      have f5 : iv 1 2 (x1 + 1) := iv_add f_x1 (iv_lit (lo := 1) (hi := 1) (x := 1) rfl) rfl
      have I6 : IT z (hs h 0 74 (x1 + 1)) := ITs I (k := 0) (i := 74) (v := (x1 + 1)) (iv_w (c := 0) (d := 2) f5 rfl) rfl
      refine sf_n (iv_in f_x1 rfl) ?_
      have I7 : IT z (hs (hs h 0 74 (x1 + 1)) 42 x1.toNatClampNeg x4) := ITs I6 (k := 42) (i := x1.toNatClampNeg) (v := x4) (iv_any x4) rfl
      refine sf_n (iv_in f_x1 rfl) ?_
      have I8 : IT z (hs (hs (hs h 0 74 (x1 + 1)) 42 x1.toNatClampNeg x4) 43 x1.toNatClampNeg x5) := ITs I7 (k := 43) (i := x1.toNatClampNeg) (v := x5) f4 rfl
      have s9 := SX12_tryRun (z := z) (hs (hs (hs h 0 74 (x1 + 1)) 42 x1.toNatClampNeg x4) 43 x1.toNatClampNeg x5) I8
      refine sf_n s9.1 ?_
      unfold PX12_tryLast_45 FX12_tryLast_45
      refine sf_if (fun c10 => ?_) (fun c10 => ?_)
      · have f11 : iv 0 0 ((FX12_tryRun (hs (hs (hs h 0 74 (x1 + 1)) 42 x1.toNatClampNeg x4) 43 x1.toNatClampNeg x5)).1) := iv_eql s9.2.1 (iv_lit (lo := 0) (hi := 0) (x := 0) rfl) c10 rfl
        unfold PX12_tryLast_57 FX12_tryLast_57
        have f12 : iv 1 4 (x5 + 1) := iv_add f4 (iv_lit (lo := 1) (hi := 1) (x := 1) rfl) rfl
        exact ih x1 x3 x4 (x5 + 1) ((FX12_tryRun (hs (hs (hs h 0 74 (x1 + 1)) 42 x1.toNatClampNeg x4) 43 x1.toNatClampNeg x5)).2) s9.2.2 f_x1 f_x3 f_x4 (iv_w (c := 0) (d := 4) f12 rfl) m3 (mu_up f4 mq rfl)
      · have f13 : iv 1 1 ((FX12_tryRun (hs (hs (hs h 0 74 (x1 + 1)) 42 x1.toNatClampNeg x4) 43 x1.toNatClampNeg x5)).1) := iv_nel s9.2.1 c10 rfl
        have s14 := SX12_isOver_T (z := z) ((FX12_tryRun (hs (hs (hs h 0 74 (x1 + 1)) 42 x1.toNatClampNeg x4) 43 x1.toNatClampNeg x5)).2) s9.2.2
        refine sf_n s14.1 ?_
        unfold PX12_tryLast_52 FX12_tryLast_52
        refine sf_if (fun c15 => ?_) (fun c15 => ?_)
        · have f16 : iv 0 0 ((FX12_isOver ((FX12_tryRun (hs (hs (hs h 0 74 (x1 + 1)) 42 x1.toNatClampNeg x4) 43 x1.toNatClampNeg x5)).2)).1) := iv_eql s14.2.1 (iv_lit (lo := 0) (hi := 0) (x := 0) rfl) c15 rfl
          unfold PX12_tryLast_57 FX12_tryLast_57
          have f17 : iv 1 4 (x5 + 1) := iv_add f4 (iv_lit (lo := 1) (hi := 1) (x := 1) rfl) rfl
          exact ih x1 x3 x4 (x5 + 1) ((FX12_isOver ((FX12_tryRun (hs (hs (hs h 0 74 (x1 + 1)) 42 x1.toNatClampNeg x4) 43 x1.toNatClampNeg x5)).2)).2) s14.2.2 f_x1 f_x3 f_x4 (iv_w (c := 0) (d := 4) f17 rfl) m3 (mu_up f4 mq rfl)
        · have f18 : iv 1 1 ((FX12_isOver ((FX12_tryRun (hs (hs (hs h 0 74 (x1 + 1)) 42 x1.toNatClampNeg x4) 43 x1.toNatClampNeg x5)).2)).1) := iv_nel s14.2.1 c15 rfl
          exact ⟨trivial, QiT_mk (iv_w (c := 0) (d := 1) (iv_lit (lo := 1) (hi := 1) (x := 1) rfl) rfl) s14.2.2⟩
set_option maxRecDepth 100000 in
set_option maxHeartbeats 4000000 in
theorem SX12_tryLast_3 {z : zT} : ∀ (q : Nat) (x1 : Int32) (x3 : Int32) (x4 : Int32) (h : ph_H), IT z h → iv 0 1 x1 → iv 0 300 x3 → iv 0 301 x4 → 301 - (x4).toInt < ((q : Nat) : Int) → PX12_tryLast_3  q x1 x3 x4 h ∧ QiT z 0 1 (FX12_tryLast_3  q x1 x3 x4 h) := by
  intro q
  induction q with
  | zero =>
    intro x1 x3 x4 h I f_x1 f_x3 f_x4 mq
    exact mu_zu f_x4 mq rfl
  | succ q ih =>
    intro x1 x3 x4 h I f_x1 f_x3 f_x4 mq
    unfold PX12_tryLast_3 FX12_tryLast_3
    refine sf_if (fun c1 => ?_) (fun c1 => ?_)
    · exact ⟨trivial, QiT_mk (iv_w (c := 0) (d := 1) (iv_lit (lo := 0) (hi := 0) (x := 0) rfl) rfl) I⟩
    · have f2 : iv 0 299 x4 := iv_ltl f_x4 f_x3 (nle c1) rfl
      have f3 : iv 1 300 x3 := iv_ltr f_x3 f_x4 (nle c1) rfl
      exact SX12_tryLast_12 (FX12_tryLast_3  q) (PX12_tryLast_3  q) q (fun x1 x3 x4 h p0 p1 p2 p3 pm => ih x1 x3 x4 h p0 p1 p2 p3 pm) 2000 x1 x3 x4 0 h I f_x1 f3 f2 (iv_w (c := 0) (d := 4) (iv_lit (lo := 0) (hi := 0) (x := 0) rfl) rfl) mq (mu_0u (iv_lit (lo := 0) (hi := 0) (x := 0) rfl) rfl)
set_option maxRecDepth 100000 in
set_option maxHeartbeats 4000000 in
theorem SX12_tryLast {z : zT} (a0 : Int32) (a1 : Int32) (a2 : Int32) (h : ph_H) (I : IT z h) (f_a0 : iv 0 1 a0) (f_a1 : iv 0 301 a1) (f_a2 : iv 0 300 a2) : PX12_tryLast a0 a1 a2 h ∧ QiT z 0 1 (FX12_tryLast a0 a1 a2 h) := by
  unfold PX12_tryLast FX12_tryLast
  exact SX12_tryLast_3 2000 a0 a2 a1 h I f_a0 f_a2 f_a1 (mu_0u f_a1 rfl)

set_option maxRecDepth 100000 in
set_option maxHeartbeats 4000000 in
theorem SX12_tryBoth_9 {z : zT} (L2 : Int32 → Int32 → ph_H → Int32 × ph_H) (LP2 : Int32 → Int32 → ph_H → Prop) (q2 : Nat) (hL2 : ∀ (x1 : Int32) (x2 : Int32) (h : ph_H), IT z h → iv 0 300 x1 → iv 1 301 x2 → 301 - (x2).toInt < ((q2 : Nat) : Int) → LP2 x1 x2 h ∧ QiT z 0 1 (L2 x1 x2 h)) : ∀ (q : Nat) (x1 : Int32) (x2 : Int32) (x3 : Int32) (h : ph_H), IT z h → iv 2 300 x1 → iv 1 300 x2 → iv 0 4 x3 → 301 - (x2).toInt < ((q2 + 1 : Nat) : Int) → 4 - (x3).toInt < ((q : Nat) : Int) → PX12_tryBoth_9 LP2 q x1 x2 x3 h ∧ QiT z 0 1 (FX12_tryBoth_9 L2 q x1 x2 x3 h) := by
  intro q
  induction q with
  | zero =>
    intro x1 x2 x3 h I f_x1 f_x2 f_x3 m2 mq
    exact mu_zu f_x3 mq rfl
  | succ q ih =>
    intro x1 x2 x3 h I f_x1 f_x2 f_x3 m2 mq
    unfold PX12_tryBoth_9 FX12_tryBoth_9
    refine sf_if (fun c1 => ?_) (fun c1 => ?_)
    · have f2 : iv 4 4 x3 := iv_ler f_x3 (iv_lit (lo := 4) (hi := 4) (x := 4) rfl) c1 rfl
      have f3 : iv 2 301 (x2 + 1) := iv_add f_x2 (iv_lit (lo := 1) (hi := 1) (x := 1) rfl) rfl
      exact hL2 x1 (x2 + 1) h I (iv_w (c := 0) (d := 300) f_x1 rfl) (iv_w (c := 1) (d := 301) f3 rfl) (mu_up f_x2 m2 rfl)
    · have f4 : iv 0 3 x3 := iv_ltl f_x3 (iv_lit (lo := 4) (hi := 4) (x := 4) rfl) (nle c1) rfl
      have I5 : IT z (hs h 0 74 1) := ITs I (k := 0) (i := 74) (v := 1) (iv_w (c := 0) (d := 2) (iv_lit (lo := 1) (hi := 1) (x := 1) rfl) rfl) rfl
      refine sf_n (iv_in (iv_lit (lo := 0) (hi := 0) (x := 0) rfl) rfl) ?_
      have I6 : IT z (hs (hs h 0 74 1) 42 (0 : Int32).toNatClampNeg x2) := ITs I5 (k := 42) (i := (0 : Int32).toNatClampNeg) (v := x2) (iv_any x2) rfl
      refine sf_n (iv_in (iv_lit (lo := 0) (hi := 0) (x := 0) rfl) rfl) ?_
      have I7 : IT z (hs (hs (hs h 0 74 1) 42 (0 : Int32).toNatClampNeg x2) 43 (0 : Int32).toNatClampNeg x3) := ITs I6 (k := 43) (i := (0 : Int32).toNatClampNeg) (v := x3) f4 rfl
      have s8 := SX12_tryRun (z := z) (hs (hs (hs h 0 74 1) 42 (0 : Int32).toNatClampNeg x2) 43 (0 : Int32).toNatClampNeg x3) I7
      refine sf_n s8.1 ?_
      unfold PX12_tryBoth_37 FX12_tryBoth_37
      refine sf_if (fun c9 => ?_) (fun c9 => ?_)
      · have f10 : iv 0 0 ((FX12_tryRun (hs (hs (hs h 0 74 1) 42 (0 : Int32).toNatClampNeg x2) 43 (0 : Int32).toNatClampNeg x3)).1) := iv_eql s8.2.1 (iv_lit (lo := 0) (hi := 0) (x := 0) rfl) c9 rfl
        unfold PX12_tryBoth_61 FX12_tryBoth_61
        have f11 : iv 1 4 (x3 + 1) := iv_add f4 (iv_lit (lo := 1) (hi := 1) (x := 1) rfl) rfl
        exact ih x1 x2 (x3 + 1) ((FX12_tryRun (hs (hs (hs h 0 74 1) 42 (0 : Int32).toNatClampNeg x2) 43 (0 : Int32).toNatClampNeg x3)).2) s8.2.2 f_x1 f_x2 (iv_w (c := 0) (d := 4) f11 rfl) m2 (mu_up f4 mq rfl)
      · have f12 : iv 1 1 ((FX12_tryRun (hs (hs (hs h 0 74 1) 42 (0 : Int32).toNatClampNeg x2) 43 (0 : Int32).toNatClampNeg x3)).1) := iv_nel s8.2.1 c9 rfl
        have f13 : iv 0 300 ((FX12_tryRun (hs (hs (hs h 0 74 1) 42 (0 : Int32).toNatClampNeg x2) 43 (0 : Int32).toNatClampNeg x3)).2 0 24) := ITv s8.2.2 0 _
        have f14 : iv 2 301 (x2 + 1) := iv_add f_x2 (iv_lit (lo := 1) (hi := 1) (x := 1) rfl) rfl
        have s15 := SX12_tryLast (z := z) 1 (x2 + 1) ((FX12_tryRun (hs (hs (hs h 0 74 1) 42 (0 : Int32).toNatClampNeg x2) 43 (0 : Int32).toNatClampNeg x3)).2 0 24) ((FX12_tryRun (hs (hs (hs h 0 74 1) 42 (0 : Int32).toNatClampNeg x2) 43 (0 : Int32).toNatClampNeg x3)).2) s8.2.2 (iv_w (c := 0) (d := 1) (iv_lit (lo := 1) (hi := 1) (x := 1) rfl) rfl) (iv_w (c := 0) (d := 301) f14 rfl) f13
        refine sf_n s15.1 ?_
        unfold PX12_tryBoth_56 FX12_tryBoth_56
        refine sf_if (fun c16 => ?_) (fun c16 => ?_)
        · have f17 : iv 0 0 ((FX12_tryLast 1 (x2 + 1) ((FX12_tryRun (hs (hs (hs h 0 74 1) 42 (0 : Int32).toNatClampNeg x2) 43 (0 : Int32).toNatClampNeg x3)).2 0 24) ((FX12_tryRun (hs (hs (hs h 0 74 1) 42 (0 : Int32).toNatClampNeg x2) 43 (0 : Int32).toNatClampNeg x3)).2)).1) := iv_eql s15.2.1 (iv_lit (lo := 0) (hi := 0) (x := 0) rfl) c16 rfl
          unfold PX12_tryBoth_61 FX12_tryBoth_61
          have f18 : iv 1 4 (x3 + 1) := iv_add f4 (iv_lit (lo := 1) (hi := 1) (x := 1) rfl) rfl
          exact ih x1 x2 (x3 + 1) ((FX12_tryLast 1 (x2 + 1) ((FX12_tryRun (hs (hs (hs h 0 74 1) 42 (0 : Int32).toNatClampNeg x2) 43 (0 : Int32).toNatClampNeg x3)).2 0 24) ((FX12_tryRun (hs (hs (hs h 0 74 1) 42 (0 : Int32).toNatClampNeg x2) 43 (0 : Int32).toNatClampNeg x3)).2)).2) s15.2.2 f_x1 f_x2 (iv_w (c := 0) (d := 4) f18 rfl) m2 (mu_up f4 mq rfl)
        · have f19 : iv 1 1 ((FX12_tryLast 1 (x2 + 1) ((FX12_tryRun (hs (hs (hs h 0 74 1) 42 (0 : Int32).toNatClampNeg x2) 43 (0 : Int32).toNatClampNeg x3)).2 0 24) ((FX12_tryRun (hs (hs (hs h 0 74 1) 42 (0 : Int32).toNatClampNeg x2) 43 (0 : Int32).toNatClampNeg x3)).2)).1) := iv_nel s15.2.1 c16 rfl
          exact ⟨trivial, QiT_mk (iv_w (c := 0) (d := 1) (iv_lit (lo := 1) (hi := 1) (x := 1) rfl) rfl) s15.2.2⟩
set_option maxRecDepth 100000 in
set_option maxHeartbeats 4000000 in
theorem SX12_tryBoth_2 {z : zT} : ∀ (q : Nat) (x1 : Int32) (x2 : Int32) (h : ph_H), IT z h → iv 0 300 x1 → iv 1 301 x2 → 301 - (x2).toInt < ((q : Nat) : Int) → PX12_tryBoth_2  q x1 x2 h ∧ QiT z 0 1 (FX12_tryBoth_2  q x1 x2 h) := by
  intro q
  induction q with
  | zero =>
    intro x1 x2 h I f_x1 f_x2 mq
    exact mu_zu f_x2 mq rfl
  | succ q ih =>
    intro x1 x2 h I f_x1 f_x2 mq
    unfold PX12_tryBoth_2 FX12_tryBoth_2
    refine sf_if (fun c1 => ?_) (fun c1 => ?_)
    · exact ⟨trivial, QiT_mk (iv_w (c := 0) (d := 1) (iv_lit (lo := 0) (hi := 0) (x := 0) rfl) rfl) I⟩
    · have f2 : iv 1 299 x2 := iv_ltl f_x2 f_x1 (nle c1) rfl
      have f3 : iv 2 300 x1 := iv_ltr f_x1 f_x2 (nle c1) rfl
      exact SX12_tryBoth_9 (FX12_tryBoth_2  q) (PX12_tryBoth_2  q) q (fun x1 x2 h p0 p1 p2 pm => ih x1 x2 h p0 p1 p2 pm) 2000 x1 x2 0 h I f3 (iv_w (c := 1) (d := 300) f2 rfl) (iv_w (c := 0) (d := 4) (iv_lit (lo := 0) (hi := 0) (x := 0) rfl) rfl) mq (mu_0u (iv_lit (lo := 0) (hi := 0) (x := 0) rfl) rfl)
set_option maxRecDepth 100000 in
set_option maxHeartbeats 4000000 in
theorem SX12_tryBoth {z : zT} (a0 : Int32) (h : ph_H) (I : IT z h) (f_a0 : iv 0 300 a0) : PX12_tryBoth a0 h ∧ QiT z 0 1 (FX12_tryBoth a0 h) := by
  unfold PX12_tryBoth FX12_tryBoth
  exact SX12_tryBoth_2 2000 a0 1 h I f_a0 (iv_w (c := 1) (d := 301) (iv_lit (lo := 1) (hi := 1) (x := 1) rfl) rfl) (mu_0u (iv_lit (lo := 1) (hi := 1) (x := 1) rfl) rfl)

set_option maxRecDepth 100000 in
set_option maxHeartbeats 4000000 in
theorem SX12_find {z : zT} (a0 : Int32) (a1 : Int32) (h : ph_H) (I : IT z h) : PX12_find a0 a1 h ∧ QiT z (-2147483648) 2147483647 (FX12_find a0 a1 h) := by
  unfold PX12_find FX12_find
  have I1 : IT z (hs h 0 0 0) := ITs I (k := 0) (i := 0) (v := 0) (iv_any 0) rfl
  refine sf_n isIn_p ?_
  refine sf_if (fun c2 => ?_) (fun c2 => ?_)
  · have f3 : iv 0 0 (FX12_isIn a0.toInt64 0 2) := iv_eql (isIn_b (x := a0.toInt64) (l := 0) (u := 2)) (iv_lit (lo := 0) (hi := 0) (x := 0) rfl) c2 rfl
    exact ⟨trivial, QiT_mk (iv_any (-1)) I1⟩
  · have f4 : iv 0 2 a0 := isIn_iv (iv_any a0) (lw_lit (lo := 0) (hi := 0) (x := 0) rfl) (lw_lit (lo := 2) (hi := 2) (x := 2) rfl) c2 rfl
    have f5 : iv 1 1 (FX12_isIn a0.toInt64 0 2) := iv_nel (isIn_b (x := a0.toInt64) (l := 0) (u := 2)) c2 rfl
    refine sf_n isIn_p ?_
    refine sf_if (fun c6 => ?_) (fun c6 => ?_)
    · have f7 : iv 0 0 (FX12_isIn a1.toInt64 1 100) := iv_eql (isIn_b (x := a1.toInt64) (l := 1) (u := 100)) (iv_lit (lo := 0) (hi := 0) (x := 0) rfl) c6 rfl
      exact ⟨trivial, QiT_mk (iv_any (-1)) I1⟩
    · have f8 : iv 1 100 a1 := isIn_iv (iv_any a1) (lw_lit (lo := 1) (hi := 1) (x := 1) rfl) (lw_lit (lo := 100) (hi := 100) (x := 100) rfl) c6 rfl
      have f9 : iv 1 1 (FX12_isIn a1.toInt64 1 100) := iv_nel (isIn_b (x := a1.toInt64) (l := 1) (u := 100)) c6 rfl
      have I10 : IT z (hs (hs h 0 0 0) 0 33 0) := ITk I1
      have I11 : IT z (hs (hs (hs h 0 0 0) 0 33 0) 0 67 0) := ITs I10 (k := 0) (i := 67) (v := 0) (iv_any 0) rfl
      have I12 : IT z (hs (hs (hs (hs h 0 0 0) 0 33 0) 0 67 0) 0 68 a1) := ITs I11 (k := 0) (i := 68) (v := a1) (iv_any a1) rfl
      have I13 : IT z (hs (hs (hs (hs (hs h 0 0 0) 0 33 0) 0 67 0) 0 68 a1) 0 69 0) := ITs I12 (k := 0) (i := 69) (v := 0) (iv_any 0) rfl
      have I14 : IT z (hs (hs (hs (hs (hs (hs h 0 0 0) 0 33 0) 0 67 0) 0 68 a1) 0 69 0) 0 74 0) := ITs I13 (k := 0) (i := 74) (v := 0) (iv_w (c := 0) (d := 2) (iv_lit (lo := 0) (hi := 0) (x := 0) rfl) rfl) rfl
      have s15 := SX12_tryRun (z := z) (hs (hs (hs (hs (hs (hs h 0 0 0) 0 33 0) 0 67 0) 0 68 a1) 0 69 0) 0 74 0) I14
      refine sf_n s15.1 ?_
      unfold PX12_find_60 FX12_find_60
      have f16 : iv 0 300 ((FX12_tryRun (hs (hs (hs (hs (hs (hs h 0 0 0) 0 33 0) 0 67 0) 0 68 a1) 0 69 0) 0 74 0)).2 0 24) := ITv s15.2.2 0 _
      have s17 := SX12_isOver_T (z := z) ((FX12_tryRun (hs (hs (hs (hs (hs (hs h 0 0 0) 0 33 0) 0 67 0) 0 68 a1) 0 69 0) 0 74 0)).2) s15.2.2
      refine sf_n s17.1 ?_
      unfold PX12_find_71 FX12_find_71
      refine sf_if (fun c18 => ?_) (fun c18 => ?_)
      · have f19 : iv 0 0 ((FX12_isOver ((FX12_tryRun (hs (hs (hs (hs (hs (hs h 0 0 0) 0 33 0) 0 67 0) 0 68 a1) 0 69 0) 0 74 0)).2)).1) := iv_eql s17.2.1 (iv_lit (lo := 0) (hi := 0) (x := 0) rfl) c18 rfl
        refine sf_if (fun c20 => ?_) (fun c20 => ?_)
        · have f21 : iv 0 0 a0 := iv_eql f4 (iv_lit (lo := 0) (hi := 0) (x := 0) rfl) c20 rfl
          unfold PX12_find_93 FX12_find_93
          unfold PX12_find_98 FX12_find_98
          refine sf_if (fun c22 => ?_) (fun c22 => ?_)
          · have f23 : iv 1 0 1 := iv_eql (iv_lit (lo := 1) (hi := 1) (x := 1) rfl) (iv_lit (lo := 0) (hi := 0) (x := 0) rfl) c22 rfl
            exact iv_no f23 rfl
          · unfold PX12_find_119 FX12_find_119
            exact ⟨trivial, QiT_mk (iv_any ((FX12_isOver ((FX12_tryRun (hs (hs (hs (hs (hs (hs h 0 0 0) 0 33 0) 0 67 0) 0 68 a1) 0 69 0) 0 74 0)).2)).2 0 69)) s17.2.2⟩
        · have f24 : iv 1 2 a0 := iv_nel f4 c20 rfl
          have s25 := SX12_tryLast (z := z) 0 1 ((FX12_tryRun (hs (hs (hs (hs (hs (hs h 0 0 0) 0 33 0) 0 67 0) 0 68 a1) 0 69 0) 0 74 0)).2 0 24) ((FX12_isOver ((FX12_tryRun (hs (hs (hs (hs (hs (hs h 0 0 0) 0 33 0) 0 67 0) 0 68 a1) 0 69 0) 0 74 0)).2)).2) s17.2.2 (iv_w (c := 0) (d := 1) (iv_lit (lo := 0) (hi := 0) (x := 0) rfl) rfl) (iv_w (c := 0) (d := 301) (iv_lit (lo := 1) (hi := 1) (x := 1) rfl) rfl) f16
          refine sf_n s25.1 ?_
          unfold PX12_find_90 FX12_find_90
          refine sf_if (fun c26 => ?_) (fun c26 => ?_)
          · have f27 : iv 0 0 ((FX12_tryLast 0 1 ((FX12_tryRun (hs (hs (hs (hs (hs (hs h 0 0 0) 0 33 0) 0 67 0) 0 68 a1) 0 69 0) 0 74 0)).2 0 24) ((FX12_isOver ((FX12_tryRun (hs (hs (hs (hs (hs (hs h 0 0 0) 0 33 0) 0 67 0) 0 68 a1) 0 69 0) 0 74 0)).2)).2)).1) := iv_eql s25.2.1 (iv_lit (lo := 0) (hi := 0) (x := 0) rfl) c26 rfl
            unfold PX12_find_98 FX12_find_98
            refine sf_if (fun c28 => ?_) (fun c28 => ?_)
            · refine sf_if (fun c29 => ?_) (fun c29 => ?_)
              · have f30 : iv 1 1 a0 := iv_eql f24 (iv_lit (lo := 1) (hi := 1) (x := 1) rfl) c29 rfl
                unfold PX12_find_119 FX12_find_119
                exact ⟨trivial, QiT_mk (iv_any ((FX12_tryLast 0 1 ((FX12_tryRun (hs (hs (hs (hs (hs (hs h 0 0 0) 0 33 0) 0 67 0) 0 68 a1) 0 69 0) 0 74 0)).2 0 24) ((FX12_isOver ((FX12_tryRun (hs (hs (hs (hs (hs (hs h 0 0 0) 0 33 0) 0 67 0) 0 68 a1) 0 69 0) 0 74 0)).2)).2)).2 0 69)) s25.2.2⟩
              · have f31 : iv 2 2 a0 := iv_nel f24 c29 rfl
                have s32 := SX12_tryBoth (z := z) ((FX12_tryRun (hs (hs (hs (hs (hs (hs h 0 0 0) 0 33 0) 0 67 0) 0 68 a1) 0 69 0) 0 74 0)).2 0 24) ((FX12_tryLast 0 1 ((FX12_tryRun (hs (hs (hs (hs (hs (hs h 0 0 0) 0 33 0) 0 67 0) 0 68 a1) 0 69 0) 0 74 0)).2 0 24) ((FX12_isOver ((FX12_tryRun (hs (hs (hs (hs (hs (hs h 0 0 0) 0 33 0) 0 67 0) 0 68 a1) 0 69 0) 0 74 0)).2)).2)).2) s25.2.2 f16
                refine sf_n s32.1 ?_
                unfold PX12_find_116 FX12_find_116
                refine sf_if (fun c33 => ?_) (fun c33 => ?_)
                · have f34 : iv 0 0 ((FX12_tryBoth ((FX12_tryRun (hs (hs (hs (hs (hs (hs h 0 0 0) 0 33 0) 0 67 0) 0 68 a1) 0 69 0) 0 74 0)).2 0 24) ((FX12_tryLast 0 1 ((FX12_tryRun (hs (hs (hs (hs (hs (hs h 0 0 0) 0 33 0) 0 67 0) 0 68 a1) 0 69 0) 0 74 0)).2 0 24) ((FX12_isOver ((FX12_tryRun (hs (hs (hs (hs (hs (hs h 0 0 0) 0 33 0) 0 67 0) 0 68 a1) 0 69 0) 0 74 0)).2)).2)).2)).1) := iv_eql s32.2.1 (iv_lit (lo := 0) (hi := 0) (x := 0) rfl) c33 rfl
                  exact ⟨trivial, QiT_mk (iv_any ((FX12_tryBoth ((FX12_tryRun (hs (hs (hs (hs (hs (hs h 0 0 0) 0 33 0) 0 67 0) 0 68 a1) 0 69 0) 0 74 0)).2 0 24) ((FX12_tryLast 0 1 ((FX12_tryRun (hs (hs (hs (hs (hs (hs h 0 0 0) 0 33 0) 0 67 0) 0 68 a1) 0 69 0) 0 74 0)).2 0 24) ((FX12_isOver ((FX12_tryRun (hs (hs (hs (hs (hs (hs h 0 0 0) 0 33 0) 0 67 0) 0 68 a1) 0 69 0) 0 74 0)).2)).2)).2)).2 0 69)) s32.2.2⟩
                · have f35 : iv 1 1 ((FX12_tryBoth ((FX12_tryRun (hs (hs (hs (hs (hs (hs h 0 0 0) 0 33 0) 0 67 0) 0 68 a1) 0 69 0) 0 74 0)).2 0 24) ((FX12_tryLast 0 1 ((FX12_tryRun (hs (hs (hs (hs (hs (hs h 0 0 0) 0 33 0) 0 67 0) 0 68 a1) 0 69 0) 0 74 0)).2 0 24) ((FX12_isOver ((FX12_tryRun (hs (hs (hs (hs (hs (hs h 0 0 0) 0 33 0) 0 67 0) 0 68 a1) 0 69 0) 0 74 0)).2)).2)).2)).1) := iv_nel s32.2.1 c33 rfl
                  unfold PX12_find_119 FX12_find_119
                  exact ⟨trivial, QiT_mk (iv_any ((FX12_tryBoth ((FX12_tryRun (hs (hs (hs (hs (hs (hs h 0 0 0) 0 33 0) 0 67 0) 0 68 a1) 0 69 0) 0 74 0)).2 0 24) ((FX12_tryLast 0 1 ((FX12_tryRun (hs (hs (hs (hs (hs (hs h 0 0 0) 0 33 0) 0 67 0) 0 68 a1) 0 69 0) 0 74 0)).2 0 24) ((FX12_isOver ((FX12_tryRun (hs (hs (hs (hs (hs (hs h 0 0 0) 0 33 0) 0 67 0) 0 68 a1) 0 69 0) 0 74 0)).2)).2)).2)).2 0 69)) s32.2.2⟩
            · exact absurd rfl c28
          · have f36 : iv 1 1 ((FX12_tryLast 0 1 ((FX12_tryRun (hs (hs (hs (hs (hs (hs h 0 0 0) 0 33 0) 0 67 0) 0 68 a1) 0 69 0) 0 74 0)).2 0 24) ((FX12_isOver ((FX12_tryRun (hs (hs (hs (hs (hs (hs h 0 0 0) 0 33 0) 0 67 0) 0 68 a1) 0 69 0) 0 74 0)).2)).2)).1) := iv_nel s25.2.1 c26 rfl
            unfold PX12_find_93 FX12_find_93
            unfold PX12_find_98 FX12_find_98
            refine sf_if (fun c37 => ?_) (fun c37 => ?_)
            · have f38 : iv 1 0 1 := iv_eql (iv_lit (lo := 1) (hi := 1) (x := 1) rfl) (iv_lit (lo := 0) (hi := 0) (x := 0) rfl) c37 rfl
              exact iv_no f38 rfl
            · unfold PX12_find_119 FX12_find_119
              exact ⟨trivial, QiT_mk (iv_any ((FX12_tryLast 0 1 ((FX12_tryRun (hs (hs (hs (hs (hs (hs h 0 0 0) 0 33 0) 0 67 0) 0 68 a1) 0 69 0) 0 74 0)).2 0 24) ((FX12_isOver ((FX12_tryRun (hs (hs (hs (hs (hs (hs h 0 0 0) 0 33 0) 0 67 0) 0 68 a1) 0 69 0) 0 74 0)).2)).2)).2 0 69)) s25.2.2⟩
      · have f39 : iv 1 1 ((FX12_isOver ((FX12_tryRun (hs (hs (hs (hs (hs (hs h 0 0 0) 0 33 0) 0 67 0) 0 68 a1) 0 69 0) 0 74 0)).2)).1) := iv_nel s17.2.1 c18 rfl
        unfold PX12_find_93 FX12_find_93
        unfold PX12_find_98 FX12_find_98
        refine sf_if (fun c40 => ?_) (fun c40 => ?_)
        · have f41 : iv 1 0 1 := iv_eql (iv_lit (lo := 1) (hi := 1) (x := 1) rfl) (iv_lit (lo := 0) (hi := 0) (x := 0) rfl) c40 rfl
          exact iv_no f41 rfl
        · unfold PX12_find_119 FX12_find_119
          exact ⟨trivial, QiT_mk (iv_any ((FX12_isOver ((FX12_tryRun (hs (hs (hs (hs (hs (hs h 0 0 0) 0 33 0) 0 67 0) 0 68 a1) 0 69 0) 0 74 0)).2)).2 0 69)) s17.2.2⟩
