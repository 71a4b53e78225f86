-- X12_cell
set_option maxRecDepth 100000 in
set_option maxHeartbeats 4000000 in
theorem SX12_cell {z : zT} (a0 : Int32) (a1 : Int32) (h : ph_H) (I : IM z h) : PX12_cell a0 a1 h ∧ Qi z (-1) 0 (FX12_cell a0 a1 h) := by
  unfold PX12_cell FX12_cell
  have I1 : IM z (hs h 0 0 0) := IMs I (k := 0) (i := 0) (v := 0) (iv_any 0) rfl
  refine sf_n isIn_p ?_
  refine sf_if (fun c2 => ?_) (fun c2 => ?_)
  · have f3 : iv 0 0 (FX12_isIn a0.toInt64 0 11) := iv_eql (isIn_b (x := a0.toInt64) (l := 0) (u := 11)) (iv_lit (lo := 0) (hi := 0) (x := 0) rfl) c2 rfl
    exact ⟨trivial, Qi_mk (iv_w (c := (-1)) (d := 0) (iv_lit (lo := (-1)) (hi := (-1)) (x := (-1)) rfl) rfl) I1⟩
  · have f4 : iv 0 11 a0 := isIn_iv (iv_any a0) (lw_lit (lo := 0) (hi := 0) (x := 0) rfl) (lw_lit (lo := 11) (hi := 11) (x := 11) rfl) c2 rfl
    have f5 : iv 1 1 (FX12_isIn a0.toInt64 0 11) := iv_nel (isIn_b (x := a0.toInt64) (l := 0) (u := 11)) c2 rfl
    refine sf_n (iv_in f4 rfl) ?_
    have I6 : IM z (hs (hs h 0 0 0) 6 a0.toNatClampNeg a1) := IMs I1 (k := 6) (i := a0.toNatClampNeg) (v := a1) (iv_any a1) rfl
    exact ⟨trivial, Qi_mk (iv_w (c := (-1)) (d := 0) (iv_lit (lo := 0) (hi := 0) (x := 0) rfl) rfl) I6⟩

-- X12_begin
set_option maxRecDepth 100000 in
set_option maxHeartbeats 4000000 in
theorem SX12_begin_45 {z : zT} : ∀ (q : Nat) (x1 : Int32) (h : ph_H), IM z h → iv 0 4 x1 → 4 - (x1).toInt < ((q : Nat) : Int) → PX12_begin_45  q x1 h ∧ IM (hs (hs z 0 23 0) 0 24 0) (FX12_begin_45  q x1 h) := by
  intro q
  induction q with
  | zero =>
    intro x1 h I f_x1 mq
    exact mu_zu f_x1 mq rfl
  | succ q ih =>
    intro x1 h I f_x1 mq
    unfold PX12_begin_45 FX12_begin_45
    refine sf_if (fun c1 => ?_) (fun c1 => ?_)
    · have f2 : iv 4 4 x1 := iv_ler f_x1 (iv_lit (lo := 4) (hi := 4) (x := 4) rfl) c1 rfl
      have I3 : IM z (hs h 0 18 0) := IMs I (k := 0) (i := 18) (v := 0) (iv_w (c := 0) (d := 12) (iv_lit (lo := 0) (hi := 0) (x := 0) rfl) rfl) rfl
      have I4 : IM (hs z 0 23 0) (hs (hs h 0 18 0) 0 23 0) := IMg I3 (k := 0) (i := 23) (v := 0) (iv_w (c := 0) (d := 30) (iv_lit (lo := 0) (hi := 0) (x := 0) rfl) rfl) rfl
      have I5 : IM (hs (hs z 0 23 0) 0 24 0) (hs (hs (hs h 0 18 0) 0 23 0) 0 24 0) := IMg I4 (k := 0) (i := 24) (v := 0) (iv_w (c := 0) (d := 300) (iv_lit (lo := 0) (hi := 0) (x := 0) rfl) rfl) rfl
      have I6 : IM (hs (hs z 0 23 0) 0 24 0) (hs (hs (hs (hs h 0 18 0) 0 23 0) 0 24 0) 0 25 0) := IMs I5 (k := 0) (i := 25) (v := 0) (iv_any 0) rfl
      have I7 : IM (hs (hs z 0 23 0) 0 24 0) (hs (hs (hs (hs (hs h 0 18 0) 0 23 0) 0 24 0) 0 25 0) 0 26 0) := IMs I6 (k := 0) (i := 26) (v := 0) (iv_w (c := 0) (d := 3) (iv_lit (lo := 0) (hi := 0) (x := 0) rfl) rfl) rfl
      have I8 : IM (hs (hs z 0 23 0) 0 24 0) (hs (hs (hs (hs (hs (hs h 0 18 0) 0 23 0) 0 24 0) 0 25 0) 0 26 0) 0 35 0) := IMs I7 (k := 0) (i := 35) (v := 0) (iv_w (c := 0) (d := 1) (iv_lit (lo := 0) (hi := 0) (x := 0) rfl) rfl) rfl
      exact ⟨trivial, I8⟩
    · have f9 : iv 0 3 x1 := iv_ltl f_x1 (iv_lit (lo := 4) (hi := 4) (x := 4) rfl) (nle c1) rfl
      refine sf_n (iv_in f9 rfl) ?_
      have f10 : iv 0 24 (h 1 (x1.toNatClampNeg)) := IMv I 1 _
      refine sf_if (fun c11 => ?_) (fun c11 => ?_)
      · have f12 : iv 0 0 (h 1 (x1.toNatClampNeg)) := iv_lel f10 (iv_lit (lo := 0) (hi := 0) (x := 0) rfl) c11 rfl
        unfold PX12_begin_70 FX12_begin_70
        refine sf_n (iv_in f9 rfl) ?_
        have I13 : IM z (hs h 12 x1.toNatClampNeg 24) := IMs I (k := 12) (i := x1.toNatClampNeg) (v := 24) (iv_w (c := 0) (d := 24) (iv_lit (lo := 24) (hi := 24) (x := 24) rfl) rfl) rfl
        refine sf_if (fun c14 => ?_) (fun c14 => ?_)
        · have f15 : iv 0 0 x1 := iv_eql f9 (iv_lit (lo := 0) (hi := 0) (x := 0) rfl) c14 rfl
          unfold PX12_begin_85 FX12_begin_85
          refine sf_n (iv_in f15 rfl) ?_
          have I16 : IM z (hs (hs h 12 x1.toNatClampNeg 24) 13 x1.toNatClampNeg (vp_nar .boolean 1)) := IMs I13 (k := 13) (i := x1.toNatClampNeg) (v := (vp_nar .boolean 1)) (nar_z 1) rfl
          refine sf_n (iv_in f15 rfl) ?_
          have I17 : IM z (hs (hs (hs h 12 x1.toNatClampNeg 24) 13 x1.toNatClampNeg (vp_nar .boolean 1)) 14 x1.toNatClampNeg (-1)) := IMs I16 (k := 14) (i := x1.toNatClampNeg) (v := (-1)) (iv_w (c := (-1)) (d := 11) (iv_lit (lo := (-1)) (hi := (-1)) (x := (-1)) rfl) rfl) rfl
          refine sf_n (iv_in f15 rfl) ?_
          have I18 : IM z (hs (hs (hs (hs h 12 x1.toNatClampNeg 24) 13 x1.toNatClampNeg (vp_nar .boolean 1)) 14 x1.toNatClampNeg (-1)) 15 x1.toNatClampNeg (-1)) := IMs I17 (k := 15) (i := x1.toNatClampNeg) (v := (-1)) (iv_w (c := (-1)) (d := 11) (iv_lit (lo := (-1)) (hi := (-1)) (x := (-1)) rfl) rfl) rfl
          have f19 : iv 1 1 (x1 + 1) := iv_add f15 (iv_lit (lo := 1) (hi := 1) (x := 1) rfl) rfl
          exact ih (x1 + 1) (hs (hs (hs (hs h 12 x1.toNatClampNeg 24) 13 x1.toNatClampNeg (vp_nar .boolean 1)) 14 x1.toNatClampNeg (-1)) 15 x1.toNatClampNeg (-1)) I18 (iv_w (c := 0) (d := 4) f19 rfl) (mu_up f15 mq rfl)
        · have f20 : iv 1 3 x1 := iv_nel f9 c14 rfl
          unfold PX12_begin_85 FX12_begin_85
          refine sf_n (iv_in f20 rfl) ?_
          have I21 : IM z (hs (hs h 12 x1.toNatClampNeg 24) 13 x1.toNatClampNeg (vp_nar .boolean 0)) := IMs I13 (k := 13) (i := x1.toNatClampNeg) (v := (vp_nar .boolean 0)) (nar_z 0) rfl
          refine sf_n (iv_in f20 rfl) ?_
          have I22 : IM z (hs (hs (hs h 12 x1.toNatClampNeg 24) 13 x1.toNatClampNeg (vp_nar .boolean 0)) 14 x1.toNatClampNeg (-1)) := IMs I21 (k := 14) (i := x1.toNatClampNeg) (v := (-1)) (iv_w (c := (-1)) (d := 11) (iv_lit (lo := (-1)) (hi := (-1)) (x := (-1)) rfl) rfl) rfl
          refine sf_n (iv_in f20 rfl) ?_
          have I23 : IM z (hs (hs (hs (hs h 12 x1.toNatClampNeg 24) 13 x1.toNatClampNeg (vp_nar .boolean 0)) 14 x1.toNatClampNeg (-1)) 15 x1.toNatClampNeg (-1)) := IMs I22 (k := 15) (i := x1.toNatClampNeg) (v := (-1)) (iv_w (c := (-1)) (d := 11) (iv_lit (lo := (-1)) (hi := (-1)) (x := (-1)) rfl) rfl) rfl
          have f24 : iv 2 4 (x1 + 1) := iv_add f20 (iv_lit (lo := 1) (hi := 1) (x := 1) rfl) rfl
          exact ih (x1 + 1) (hs (hs (hs (hs h 12 x1.toNatClampNeg 24) 13 x1.toNatClampNeg (vp_nar .boolean 0)) 14 x1.toNatClampNeg (-1)) 15 x1.toNatClampNeg (-1)) I23 (iv_w (c := 0) (d := 4) f24 rfl) (mu_up f20 mq rfl)
      · have f25 : iv 1 24 (h 1 (x1.toNatClampNeg)) := iv_ltr f10 (iv_lit (lo := 0) (hi := 0) (x := 0) rfl) (nle c11) rfl
        unfold PX12_begin_70 FX12_begin_70
        refine sf_n (iv_in f9 rfl) ?_
        have I26 : IM z (hs h 12 x1.toNatClampNeg 0) := IMs I (k := 12) (i := x1.toNatClampNeg) (v := 0) (iv_w (c := 0) (d := 24) (iv_lit (lo := 0) (hi := 0) (x := 0) rfl) rfl) rfl
        refine sf_if (fun c27 => ?_) (fun c27 => ?_)
        · have f28 : iv 0 0 x1 := iv_eql f9 (iv_lit (lo := 0) (hi := 0) (x := 0) rfl) c27 rfl
          unfold PX12_begin_85 FX12_begin_85
          refine sf_n (iv_in f28 rfl) ?_
          have I29 : IM z (hs (hs h 12 x1.toNatClampNeg 0) 13 x1.toNatClampNeg (vp_nar .boolean 1)) := IMs I26 (k := 13) (i := x1.toNatClampNeg) (v := (vp_nar .boolean 1)) (nar_z 1) rfl
          refine sf_n (iv_in f28 rfl) ?_
          have I30 : IM z (hs (hs (hs h 12 x1.toNatClampNeg 0) 13 x1.toNatClampNeg (vp_nar .boolean 1)) 14 x1.toNatClampNeg (-1)) := IMs I29 (k := 14) (i := x1.toNatClampNeg) (v := (-1)) (iv_w (c := (-1)) (d := 11) (iv_lit (lo := (-1)) (hi := (-1)) (x := (-1)) rfl) rfl) rfl
          refine sf_n (iv_in f28 rfl) ?_
          have I31 : IM z (hs (hs (hs (hs h 12 x1.toNatClampNeg 0) 13 x1.toNatClampNeg (vp_nar .boolean 1)) 14 x1.toNatClampNeg (-1)) 15 x1.toNatClampNeg (-1)) := IMs I30 (k := 15) (i := x1.toNatClampNeg) (v := (-1)) (iv_w (c := (-1)) (d := 11) (iv_lit (lo := (-1)) (hi := (-1)) (x := (-1)) rfl) rfl) rfl
          have f32 : iv 1 1 (x1 + 1) := iv_add f28 (iv_lit (lo := 1) (hi := 1) (x := 1) rfl) rfl
          exact ih (x1 + 1) (hs (hs (hs (hs h 12 x1.toNatClampNeg 0) 13 x1.toNatClampNeg (vp_nar .boolean 1)) 14 x1.toNatClampNeg (-1)) 15 x1.toNatClampNeg (-1)) I31 (iv_w (c := 0) (d := 4) f32 rfl) (mu_up f28 mq rfl)
        · have f33 : iv 1 3 x1 := iv_nel f9 c27 rfl
          unfold PX12_begin_85 FX12_begin_85
          refine sf_n (iv_in f33 rfl) ?_
          have I34 : IM z (hs (hs h 12 x1.toNatClampNeg 0) 13 x1.toNatClampNeg (vp_nar .boolean 0)) := IMs I26 (k := 13) (i := x1.toNatClampNeg) (v := (vp_nar .boolean 0)) (nar_z 0) rfl
          refine sf_n (iv_in f33 rfl) ?_
          have I35 : IM z (hs (hs (hs h 12 x1.toNatClampNeg 0) 13 x1.toNatClampNeg (vp_nar .boolean 0)) 14 x1.toNatClampNeg (-1)) := IMs I34 (k := 14) (i := x1.toNatClampNeg) (v := (-1)) (iv_w (c := (-1)) (d := 11) (iv_lit (lo := (-1)) (hi := (-1)) (x := (-1)) rfl) rfl) rfl
          refine sf_n (iv_in f33 rfl) ?_
          have I36 : IM z (hs (hs (hs (hs h 12 x1.toNatClampNeg 0) 13 x1.toNatClampNeg (vp_nar .boolean 0)) 14 x1.toNatClampNeg (-1)) 15 x1.toNatClampNeg (-1)) := IMs I35 (k := 15) (i := x1.toNatClampNeg) (v := (-1)) (iv_w (c := (-1)) (d := 11) (iv_lit (lo := (-1)) (hi := (-1)) (x := (-1)) rfl) rfl) rfl
          have f37 : iv 2 4 (x1 + 1) := iv_add f33 (iv_lit (lo := 1) (hi := 1) (x := 1) rfl) rfl
          exact ih (x1 + 1) (hs (hs (hs (hs h 12 x1.toNatClampNeg 0) 13 x1.toNatClampNeg (vp_nar .boolean 0)) 14 x1.toNatClampNeg (-1)) 15 x1.toNatClampNeg (-1)) I36 (iv_w (c := 0) (d := 4) f37 rfl) (mu_up f33 mq rfl)
set_option maxRecDepth 100000 in
set_option maxHeartbeats 4000000 in
theorem SX12_begin_2 {z : zT} : ∀ (q : Nat) (x1 : Int32) (h : ph_H), IM z h → iv 0 28 x1 → 28 - (x1).toInt < ((q : Nat) : Int) → PX12_begin_2  q x1 h ∧ IM (hs (hs z 0 23 0) 0 24 0) (FX12_begin_2  q x1 h) := by
  intro q
  induction q with
  | zero =>
    intro x1 h I f_x1 mq
    exact mu_zu f_x1 mq rfl
  | succ q ih =>
    intro x1 h I f_x1 mq
    unfold PX12_begin_2 FX12_begin_2
    refine sf_if (fun c1 => ?_) (fun c1 => ?_)
    · have f2 : iv 28 28 x1 := iv_ler f_x1 (iv_lit (lo := 28) (hi := 28) (x := 28) rfl) c1 rfl
      exact SX12_begin_45 2000 0 h I (iv_w (c := 0) (d := 4) (iv_lit (lo := 0) (hi := 0) (x := 0) rfl) rfl) (mu_0u (iv_lit (lo := 0) (hi := 0) (x := 0) rfl) rfl)
    · have f3 : iv 0 27 x1 := iv_ltl f_x1 (iv_lit (lo := 28) (hi := 28) (x := 28) rfl) (nle c1) rfl
      refine sf_n (iv_in f3 rfl) ?_
      have I4 : IM z (hs h 10 x1.toNatClampNeg 0) := IMk0 I x1.toNatClampNeg
      refine sf_if (fun c5 => ?_) (fun c5 => ?_)
      · have f6 : iv 12 27 x1 := iv_ler f3 (iv_lit (lo := 12) (hi := 12) (x := 12) rfl) c5 rfl
        unfold PX12_begin_36 FX12_begin_36
        refine sf_n (iv_in f6 rfl) ?_
        have I7 : IM z (hs (hs h 10 x1.toNatClampNeg 0) 11 x1.toNatClampNeg 0) := IMv0 I4 hz_e
        have f8 : iv 13 28 (x1 + 1) := iv_add f6 (iv_lit (lo := 1) (hi := 1) (x := 1) rfl) rfl
        exact ih (x1 + 1) (hs (hs h 10 x1.toNatClampNeg 0) 11 x1.toNatClampNeg 0) I7 (iv_w (c := 0) (d := 28) f8 rfl) (mu_up f6 mq rfl)
      · have f9 : iv 0 11 x1 := iv_ltl f3 (iv_lit (lo := 12) (hi := 12) (x := 12) rfl) (nle c5) rfl
        refine sf_n (iv_in f9 rfl) ?_
        unfold PX12_begin_36 FX12_begin_36
        refine sf_n (iv_in f9 rfl) ?_
        have I10 : IM z (hs (hs h 10 x1.toNatClampNeg 0) 11 x1.toNatClampNeg (h 6 (x1.toNatClampNeg))) := IMv0 I4 hz_e
        have f11 : iv 1 12 (x1 + 1) := iv_add f9 (iv_lit (lo := 1) (hi := 1) (x := 1) rfl) rfl
        exact ih (x1 + 1) (hs (hs h 10 x1.toNatClampNeg 0) 11 x1.toNatClampNeg (h 6 (x1.toNatClampNeg))) I10 (iv_w (c := 0) (d := 28) f11 rfl) (mu_up f9 mq rfl)
set_option maxRecDepth 100000 in
set_option maxHeartbeats 4000000 in
theorem SX12_begin {z : zT} (h : ph_H) (I : IM z h) : PX12_begin h ∧ IM (hs (hs z 0 23 0) 0 24 0) (FX12_begin h) := by
  unfold PX12_begin FX12_begin
  exact SX12_begin_2 2000 0 h I (iv_w (c := 0) (d := 28) (iv_lit (lo := 0) (hi := 0) (x := 0) rfl) rfl) (mu_0u (iv_lit (lo := 0) (hi := 0) (x := 0) rfl) rfl)

-- X12_local
set_option maxRecDepth 100000 in
set_option maxHeartbeats 4000000 in
theorem SX12_local {z : zT} (a0 : Int32) (a1 : Int32) (h : ph_H) (I : IM z h) (f_a0 : iv 0 3 a0) : PX12_local a0 a1 h ∧ iv 12 27 (FX12_local a0 a1 h) := by
  unfold PX12_local FX12_local
  have f1 : iv 0 12 (4 * a0) := iv_mul (c := 4) rfl f_a0 rfl
  have f2 : iv 12 24 (12 + (4 * a0)) := iv_add (iv_lit (lo := 12) (hi := 12) (x := 12) rfl) f1 rfl
  refine sf_n (modulo_p (m := 4) (by decide) (by decide)) ?_
  have f3 : iv 0 3 (FX12_modulo a1 4) := modulo_iv (m := 4) rfl
  have f4 : iv 12 27 ((12 + (4 * a0)) + (FX12_modulo a1 4)) := iv_add f2 f3 rfl
  exact ⟨trivial, f4⟩

-- X12_isLock
set_option maxRecDepth 100000 in
set_option maxHeartbeats 4000000 in
theorem SX12_isLock {z : zT} (a0 : Int32) (h : ph_H) (I : IM z h) (f_a0 : iv 0 27 a0) : PX12_isLock a0 h ∧ Qc 0 1 (fun r => ¬ r = 0 → iv 2 3 (h 10 (a0.toNatClampNeg))) (FX12_isLock a0 h) := by
  unfold PX12_isLock FX12_isLock
  refine sf_n (iv_in f_a0 rfl) ?_
  have f1 : iv 0 3 (h 10 (a0.toNatClampNeg)) := IMv I 10 _
  refine sf_if (fun c2 => ?_) (fun c2 => ?_)
  · have f3 : iv 2 2 (h 10 (a0.toNatClampNeg)) := iv_eql f1 (iv_lit (lo := 2) (hi := 2) (x := 2) rfl) c2 rfl
    have f4 : iv 0 11 (h 11 (a0.toNatClampNeg)) := KVn I f3 rfl
    unfold PX12_isLock_20 FX12_isLock_20
    exact ⟨trivial, (iv_w (c := 0) (d := 1) (iv_lit (lo := 1) (hi := 1) (x := 1) rfl) rfl), fun _ => (iv_w (c := 2) (d := 3) f3 rfl)⟩
  · refine sf_n (iv_in f_a0 rfl) ?_
    refine sf_if (fun c5 => ?_) (fun c5 => ?_)
    · have f6 : iv 3 3 (h 10 (a0.toNatClampNeg)) := iv_eql f1 (iv_lit (lo := 3) (hi := 3) (x := 3) rfl) c5 rfl
      have f7 : iv 0 11 (h 11 (a0.toNatClampNeg)) := KVn I f6 rfl
      unfold PX12_isLock_20 FX12_isLock_20
      exact ⟨trivial, (iv_w (c := 0) (d := 1) (iv_lit (lo := 1) (hi := 1) (x := 1) rfl) rfl), fun _ => (iv_w (c := 2) (d := 3) f6 rfl)⟩
    · have f8 : iv 0 2 (h 10 (a0.toNatClampNeg)) := iv_nel f1 c5 rfl
      exact ⟨trivial, (iv_w (c := 0) (d := 1) (iv_lit (lo := 0) (hi := 0) (x := 0) rfl) rfl), fun z => absurd rfl z⟩

-- X12_canGo
set_option maxRecDepth 100000 in
set_option maxHeartbeats 4000000 in
theorem SX12_canGo {z : zT} (a0 : Int32) (h : ph_H) (I : IM z h) (f_a0 : iv 0 3 a0) : PX12_canGo a0 h ∧ Qc 0 1 (fun r => ¬ r = 0 → iv 0 23 (h 12 (a0.toNatClampNeg))) (FX12_canGo a0 h) := by
  unfold PX12_canGo FX12_canGo
  refine sf_n (iv_in f_a0 rfl) ?_
  have f1 : iv 0 1 (h 13 (a0.toNatClampNeg)) := IMv I 13 _
  refine sf_if (fun c2 => ?_) (fun c2 => ?_)
  · have f3 : iv 0 0 (h 13 (a0.toNatClampNeg)) := iv_eql f1 (iv_lit (lo := 0) (hi := 0) (x := 0) rfl) c2 rfl
    exact ⟨trivial, (iv_w (c := 0) (d := 1) (iv_lit (lo := 0) (hi := 0) (x := 0) rfl) rfl), fun z => absurd rfl z⟩
  · have f4 : iv 1 1 (h 13 (a0.toNatClampNeg)) := iv_nel f1 c2 rfl
    refine sf_n (iv_in f_a0 rfl) ?_
    have f5 : iv 0 24 (h 12 (a0.toNatClampNeg)) := IMv I 12 _
    refine sf_if (fun c6 => ?_) (fun c6 => ?_)
    · have f7 : iv 24 24 (h 12 (a0.toNatClampNeg)) := iv_eql f5 (iv_lit (lo := 24) (hi := 24) (x := 24) rfl) c6 rfl
      exact ⟨trivial, (iv_w (c := 0) (d := 1) (iv_lit (lo := 0) (hi := 0) (x := 0) rfl) rfl), fun z => absurd rfl z⟩
    · have f8 : iv 0 23 (h 12 (a0.toNatClampNeg)) := iv_nel f5 c6 rfl
      refine sf_n (iv_in f_a0 rfl) ?_
      have f9 : iv (-1) 11 (h 14 (a0.toNatClampNeg)) := IMv I 14 _
      refine sf_if (fun c10 => ?_) (fun c10 => ?_)
      · have f11 : iv (-1) (-1) (h 14 (a0.toNatClampNeg)) := iv_ltl f9 (iv_lit (lo := 0) (hi := 0) (x := 0) rfl) c10 rfl
        refine sf_n (iv_in f_a0 rfl) ?_
        have f12 : iv (-1) 11 (h 15 (a0.toNatClampNeg)) := IMv I 15 _
        refine sf_if (fun c13 => ?_) (fun c13 => ?_)
        · have f14 : iv (-1) (-1) (h 15 (a0.toNatClampNeg)) := iv_ltl f12 (iv_lit (lo := 0) (hi := 0) (x := 0) rfl) c13 rfl
          have f15 : iv 0 72 (24 * a0) := iv_mul (c := 24) rfl f_a0 rfl
          refine sf_n (iv_in f_a0 rfl) ?_
          have f16 : iv 0 95 ((24 * a0) + (h 12 (a0.toNatClampNeg))) := iv_add f15 f8 rfl
          refine sf_n (iv_in f16 rfl) ?_
          have s17 := SX12_local (z := z) a0 (h 3 (((24 * a0) + (h 12 (a0.toNatClampNeg))).toNatClampNeg)) h I f_a0
          refine sf_n s17.1 ?_
          refine sf_n (iv_in f16 rfl) ?_
          refine sf_if (fun c18 => ?_) (fun c18 => ?_)
          · have f19 : iv 12 12 (h 2 (((24 * a0) + (h 12 (a0.toNatClampNeg))).toNatClampNeg)) := iv_eql (iv_any (h 2 (((24 * a0) + (h 12 (a0.toNatClampNeg))).toNatClampNeg))) (iv_lit (lo := 12) (hi := 12) (x := 12) rfl) c18 rfl
            have s20 := SX12_isLock (z := z) (FX12_local a0 (h 3 (((24 * a0) + (h 12 (a0.toNatClampNeg))).toNatClampNeg)) h) h I (iv_w (c := 0) (d := 27) s17.2 rfl)
            refine sf_n s20.1 ?_
            refine sf_if (fun c21 => ?_) (fun c21 => ?_)
            · have f22 : iv 0 0 (FX12_isLock (FX12_local a0 (h 3 (((24 * a0) + (h 12 (a0.toNatClampNeg))).toNatClampNeg)) h) h) := iv_eql s20.2.1 (iv_lit (lo := 0) (hi := 0) (x := 0) rfl) c21 rfl
              unfold PX12_canGo_107 FX12_canGo_107
              unfold PX12_canGo_108 FX12_canGo_108
              refine sf_if (fun c23 => ?_) (fun c23 => ?_)
              · unfold PX12_canGo_144 FX12_canGo_144
                exact ⟨trivial, (iv_w (c := 0) (d := 1) (iv_lit (lo := 1) (hi := 1) (x := 1) rfl) rfl), fun _ => f8⟩
              · exact absurd rfl c23
            · have f24 : iv 2 3 (h 10 ((FX12_local a0 (h 3 (((24 * a0) + (h 12 (a0.toNatClampNeg))).toNatClampNeg)) h).toNatClampNeg)) := iv_and (iv_any _) (s20.2.2 c21) rfl
              have f25 : iv 0 11 (h 11 ((FX12_local a0 (h 3 (((24 * a0) + (h 12 (a0.toNatClampNeg))).toNatClampNeg)) h).toNatClampNeg)) := KVn I f24 rfl
              have f26 : iv 1 1 (FX12_isLock (FX12_local a0 (h 3 (((24 * a0) + (h 12 (a0.toNatClampNeg))).toNatClampNeg)) h) h) := iv_nel s20.2.1 c21 rfl
              unfold PX12_canGo_108 FX12_canGo_108
              refine sf_if (fun c27 => ?_) (fun c27 => ?_)
              · have f28 : iv 1 0 1 := iv_eql (iv_lit (lo := 1) (hi := 1) (x := 1) rfl) (iv_lit (lo := 0) (hi := 0) (x := 0) rfl) c27 rfl
                exact iv_no f28 rfl
              · refine sf_n (iv_in s17.2 rfl) ?_
                refine sf_n (iv_in f25 rfl) ?_
                refine sf_if (fun c29 => ?_) (fun c29 => ?_)
                · have f30 : iv (-2147483648) (-1) (h 17 ((h 11 ((FX12_local a0 (h 3 (((24 * a0) + (h 12 (a0.toNatClampNeg))).toNatClampNeg)) h).toNatClampNeg)).toNatClampNeg)) := iv_ltl (iv_any (h 17 ((h 11 ((FX12_local a0 (h 3 (((24 * a0) + (h 12 (a0.toNatClampNeg))).toNatClampNeg)) h).toNatClampNeg)).toNatClampNeg))) (iv_lit (lo := 0) (hi := 0) (x := 0) rfl) c29 rfl
                  unfold PX12_canGo_144 FX12_canGo_144
                  exact ⟨trivial, (iv_w (c := 0) (d := 1) (iv_lit (lo := 1) (hi := 1) (x := 1) rfl) rfl), fun _ => f8⟩
                · have f31 : iv 0 2147483647 (h 17 ((h 11 ((FX12_local a0 (h 3 (((24 * a0) + (h 12 (a0.toNatClampNeg))).toNatClampNeg)) h).toNatClampNeg)).toNatClampNeg)) := iv_ler (iv_any (h 17 ((h 11 ((FX12_local a0 (h 3 (((24 * a0) + (h 12 (a0.toNatClampNeg))).toNatClampNeg)) h).toNatClampNeg)).toNatClampNeg))) (iv_lit (lo := 0) (hi := 0) (x := 0) rfl) (nlt c29) rfl
                  refine sf_n (iv_in s17.2 rfl) ?_
                  refine sf_n (iv_in f25 rfl) ?_
                  refine sf_if (fun c32 => ?_) (fun c32 => ?_)
                  · have f33 : iv 0 3 (h 17 ((h 11 ((FX12_local a0 (h 3 (((24 * a0) + (h 12 (a0.toNatClampNeg))).toNatClampNeg)) h).toNatClampNeg)).toNatClampNeg)) := iv_eql f31 f_a0 c32 rfl
                    unfold PX12_canGo_144 FX12_canGo_144
                    exact ⟨trivial, (iv_w (c := 0) (d := 1) (iv_lit (lo := 1) (hi := 1) (x := 1) rfl) rfl), fun _ => f8⟩
                  · exact ⟨trivial, (iv_w (c := 0) (d := 1) (iv_lit (lo := 0) (hi := 0) (x := 0) rfl) rfl), fun z => absurd rfl z⟩
          · unfold PX12_canGo_107 FX12_canGo_107
            unfold PX12_canGo_108 FX12_canGo_108
            refine sf_if (fun c34 => ?_) (fun c34 => ?_)
            · unfold PX12_canGo_144 FX12_canGo_144
              exact ⟨trivial, (iv_w (c := 0) (d := 1) (iv_lit (lo := 1) (hi := 1) (x := 1) rfl) rfl), fun _ => f8⟩
            · exact absurd rfl c34
        · have f35 : iv 0 11 (h 15 (a0.toNatClampNeg)) := iv_ler f12 (iv_lit (lo := 0) (hi := 0) (x := 0) rfl) (nlt c13) rfl
          refine sf_n (iv_in f_a0 rfl) ?_
          refine sf_n (iv_in f35 rfl) ?_
          refine sf_if (fun c36 => ?_) (fun c36 => ?_)
          · have f37 : iv 0 2147483647 (h 17 ((h 15 (a0.toNatClampNeg)).toNatClampNeg)) := iv_ler (iv_any (h 17 ((h 15 (a0.toNatClampNeg)).toNatClampNeg))) (iv_lit (lo := 0) (hi := 0) (x := 0) rfl) c36 rfl
            exact ⟨trivial, (iv_w (c := 0) (d := 1) (iv_lit (lo := 0) (hi := 0) (x := 0) rfl) rfl), fun z => absurd rfl z⟩
          · have f38 : iv (-2147483648) (-1) (h 17 ((h 15 (a0.toNatClampNeg)).toNatClampNeg)) := iv_ltl (iv_any (h 17 ((h 15 (a0.toNatClampNeg)).toNatClampNeg))) (iv_lit (lo := 0) (hi := 0) (x := 0) rfl) (nle c36) rfl
            exact ⟨trivial, (iv_w (c := 0) (d := 1) (iv_lit (lo := 1) (hi := 1) (x := 1) rfl) rfl), fun _ => f8⟩
      · have f39 : iv 0 11 (h 14 (a0.toNatClampNeg)) := iv_ler f9 (iv_lit (lo := 0) (hi := 0) (x := 0) rfl) (nlt c10) rfl
        exact ⟨trivial, (iv_w (c := 0) (d := 1) (iv_lit (lo := 0) (hi := 0) (x := 0) rfl) rfl), fun z => absurd rfl z⟩

-- X12_state
set_option maxRecDepth 100000 in
set_option maxHeartbeats 4000000 in
theorem SX12_state {z : zT} (a0 : Int32) (h : ph_H) (I : IM z h) (f_a0 : iv 0 3 a0) : PX12_state a0 h ∧ iv 0 4 (FX12_state a0 h) := by
  unfold PX12_state FX12_state
  refine sf_n (iv_in f_a0 rfl) ?_
  have f1 : iv 0 1 (h 13 (a0.toNatClampNeg)) := IMv I 13 _
  refine sf_if (fun c2 => ?_) (fun c2 => ?_)
  · have f3 : iv 0 0 (h 13 (a0.toNatClampNeg)) := iv_eql f1 (iv_lit (lo := 0) (hi := 0) (x := 0) rfl) c2 rfl
    exact ⟨trivial, (iv_w (c := 0) (d := 4) (iv_lit (lo := 0) (hi := 0) (x := 0) rfl) rfl)⟩
  · have f4 : iv 1 1 (h 13 (a0.toNatClampNeg)) := iv_nel f1 c2 rfl
    refine sf_n (iv_in f_a0 rfl) ?_
    have f5 : iv 0 24 (h 12 (a0.toNatClampNeg)) := IMv I 12 _
    refine sf_if (fun c6 => ?_) (fun c6 => ?_)
    · have f7 : iv 24 24 (h 12 (a0.toNatClampNeg)) := iv_eql f5 (iv_lit (lo := 24) (hi := 24) (x := 24) rfl) c6 rfl
      exact ⟨trivial, (iv_w (c := 0) (d := 4) (iv_lit (lo := 4) (hi := 4) (x := 4) rfl) rfl)⟩
    · have f8 : iv 0 23 (h 12 (a0.toNatClampNeg)) := iv_nel f5 c6 rfl
      refine sf_n (iv_in f_a0 rfl) ?_
      have f9 : iv (-1) 11 (h 14 (a0.toNatClampNeg)) := IMv I 14 _
      refine sf_if (fun c10 => ?_) (fun c10 => ?_)
      · have f11 : iv (-1) (-1) (h 14 (a0.toNatClampNeg)) := iv_ltl f9 (iv_lit (lo := 0) (hi := 0) (x := 0) rfl) c10 rfl
        have s12 := SX12_canGo (z := z) a0 h I f_a0
        refine sf_n s12.1 ?_
        refine sf_if (fun c13 => ?_) (fun c13 => ?_)
        · have f14 : iv 0 0 (FX12_canGo a0 h) := iv_eql s12.2.1 (iv_lit (lo := 0) (hi := 0) (x := 0) rfl) c13 rfl
          exact ⟨trivial, (iv_w (c := 0) (d := 4) (iv_lit (lo := 2) (hi := 2) (x := 2) rfl) rfl)⟩
        · have f15 : iv 1 1 (FX12_canGo a0 h) := iv_nel s12.2.1 c13 rfl
          exact ⟨trivial, (iv_w (c := 0) (d := 4) (iv_lit (lo := 1) (hi := 1) (x := 1) rfl) rfl)⟩
      · have f16 : iv 0 11 (h 14 (a0.toNatClampNeg)) := iv_ler f9 (iv_lit (lo := 0) (hi := 0) (x := 0) rfl) (nlt c10) rfl
        exact ⟨trivial, (iv_w (c := 0) (d := 4) (iv_lit (lo := 3) (hi := 3) (x := 3) rfl) rfl)⟩

-- X12_goTo
set_option maxRecDepth 100000 in
set_option maxHeartbeats 4000000 in
theorem SX12_goTo {z : zT} (a0 : Int32) (a1 : Int32) (h : ph_H) (I : IM z h) (f_a0 : iv 0 3 a0) : PX12_goTo a0 a1 h ∧ IM z (FX12_goTo a0 a1 h) := by
  unfold PX12_goTo FX12_goTo
  refine sf_if (fun c1 => ?_) (fun c1 => ?_)
  · have f2 : iv (-2147483648) (-1) a1 := iv_ltl (iv_any a1) (iv_lit (lo := 0) (hi := 0) (x := 0) rfl) c1 rfl
    unfold PX12_goTo_19 FX12_goTo_19
    refine sf_n (iv_in f_a0 rfl) ?_
    have I3 : IM z (hs h 12 a0.toNatClampNeg 24) := IMs I (k := 12) (i := a0.toNatClampNeg) (v := 24) (iv_w (c := 0) (d := 24) (iv_lit (lo := 24) (hi := 24) (x := 24) rfl) rfl) rfl
    exact ⟨trivial, I3⟩
  · have f4 : iv 0 2147483647 a1 := iv_ler (iv_any a1) (iv_lit (lo := 0) (hi := 0) (x := 0) rfl) (nlt c1) rfl
    refine sf_n (iv_in f_a0 rfl) ?_
    have f5 : iv 0 24 (h 1 (a0.toNatClampNeg)) := IMv I 1 _
    refine sf_if (fun c6 => ?_) (fun c6 => ?_)
    · have f7 : iv 0 23 a1 := iv_ltl f4 f5 c6 rfl
      have f8 : iv 1 24 (h 1 (a0.toNatClampNeg)) := iv_ltr f5 f4 c6 rfl
      refine sf_n (iv_in f_a0 rfl) ?_
      have I9 : IM z (hs h 12 a0.toNatClampNeg a1) := IMs I (k := 12) (i := a0.toNatClampNeg) (v := a1) (iv_w (c := 0) (d := 24) f7 rfl) rfl
      exact ⟨trivial, I9⟩
    · unfold PX12_goTo_19 FX12_goTo_19
      refine sf_n (iv_in f_a0 rfl) ?_
      have I10 : IM z (hs h 12 a0.toNatClampNeg 24) := IMs I (k := 12) (i := a0.toNatClampNeg) (v := 24) (iv_w (c := 0) (d := 24) (iv_lit (lo := 24) (hi := 24) (x := 24) rfl) rfl) rfl
      exact ⟨trivial, I10⟩

-- X12_newThing
set_option maxRecDepth 100000 in
set_option maxHeartbeats 4000000 in
theorem SX12_newThing_29 {z : zT} : ∀ (q : Nat) (x3 : Int32) (x4 : Int32) (h : ph_H), IM z h → iv 0 11 x3 → iv 0 16 x4 → iv 0 11 (h 0 18) → 16 - (x4).toInt < ((q : Nat) : Int) → PX12_newThing_29  q x3 x4 h ∧ Qi z 0 11 (FX12_newThing_29  q x3 x4 h) := by
  intro q
  induction q with
  | zero =>
    intro x3 x4 h I f_x3 f_x4 g_0_18 mq
    exact mu_zu f_x4 mq rfl
  | succ q ih =>
    intro x3 x4 h I f_x3 f_x4 g_0_18 mq
    unfold PX12_newThing_29 FX12_newThing_29
    refine sf_if (fun c1 => ?_) (fun c1 => ?_)
    · have f2 : iv 16 16 x4 := iv_ler f_x4 (iv_lit (lo := 16) (hi := 16) (x := 16) rfl) c1 rfl
      have f3 : iv 1 12 ((h 0 18) + 1) := iv_add g_0_18 (iv_lit (lo := 1) (hi := 1) (x := 1) rfl) rfl
      have I4 : IM z (hs h 0 18 ((h 0 18) + 1)) := IMs I (k := 0) (i := 18) (v := ((h 0 18) + 1)) (iv_w (c := 0) (d := 12) f3 rfl) rfl
      exact ⟨trivial, Qi_mk f_x3 I4⟩
    · have f5 : iv 0 15 x4 := iv_ltl f_x4 (iv_lit (lo := 16) (hi := 16) (x := 16) rfl) (nle c1) rfl
      have f6 : iv 0 176 (16 * x3) := iv_mul (c := 16) rfl f_x3 rfl
      have f7 : iv 0 191 ((16 * x3) + x4) := iv_add f6 f5 rfl
      refine sf_n (iv_in f7 rfl) ?_
      have I8 : IM z (hs h 19 ((16 * x3) + x4).toNatClampNeg 0) := IMs I (k := 19) (i := ((16 * x3) + x4).toNatClampNeg) (v := 0) (iv_any 0) rfl
      have f9 : iv 1 16 (x4 + 1) := iv_add f5 (iv_lit (lo := 1) (hi := 1) (x := 1) rfl) rfl
      exact ih x3 (x4 + 1) (hs h 19 ((16 * x3) + x4).toNatClampNeg 0) I8 f_x3 (iv_w (c := 0) (d := 16) f9 rfl) (iv_r (hz_k (by decide)) g_0_18) (mu_up f5 mq rfl)
set_option maxRecDepth 100000 in
set_option maxHeartbeats 4000000 in
theorem SX12_newThing {z : zT} (a0 : Int32) (a1 : Int32) (h : ph_H) (I : IM z h) (f_a1 : iv 0 16 a1) (g_0_18 : iv 0 11 (h 0 18)) : PX12_newThing a0 a1 h ∧ Qi z 0 11 (FX12_newThing a0 a1 h) := by
  unfold PX12_newThing FX12_newThing
  refine sf_n (iv_in g_0_18 rfl) ?_
  have I1 : IM z (hs h 16 (h 0 18).toNatClampNeg a0) := IMs I (k := 16) (i := (h 0 18).toNatClampNeg) (v := a0) (iv_any a0) rfl
  refine sf_n (iv_in g_0_18 rfl) ?_
  have I2 : IM z (hs (hs h 16 (h 0 18).toNatClampNeg a0) 17 (h 0 18).toNatClampNeg (-1)) := IMs I1 (k := 17) (i := (h 0 18).toNatClampNeg) (v := (-1)) (iv_any (-1)) rfl
  refine sf_n (iv_in g_0_18 rfl) ?_
  have I3 : IM z (hs (hs (hs h 16 (h 0 18).toNatClampNeg a0) 17 (h 0 18).toNatClampNeg (-1)) 18 (h 0 18).toNatClampNeg a1) := IMs I2 (k := 18) (i := (h 0 18).toNatClampNeg) (v := a1) f_a1 rfl
  exact SX12_newThing_29 2000 (h 0 18) 0 (hs (hs (hs h 16 (h 0 18).toNatClampNeg a0) 17 (h 0 18).toNatClampNeg (-1)) 18 (h 0 18).toNatClampNeg a1) I3 g_0_18 (iv_w (c := 0) (d := 16) (iv_lit (lo := 0) (hi := 0) (x := 0) rfl) rfl) (iv_r ((hz_k (by decide)).trans ((hz_k (by decide)).trans (hz_k (by decide)))) g_0_18) (mu_0u (iv_lit (lo := 0) (hi := 0) (x := 0) rfl) rfl)

-- X12_why
set_option maxRecDepth 100000 in
set_option maxHeartbeats 4000000 in
theorem SX12_why {z : zT} (a0 : Int32) (a1 : Int32) (a2 : Int32) (a3 : Int32) (a4 : Int32) (a5 : Int32) (h : ph_H) (I : IM z h) (f_a0 : iv 0 3 a0) (f_a2 : iv 0 27 a2) (f_a3 : iv 0 27 a3) (f_a4 : iv 0 27 a4) : PX12_why a0 a1 a2 a3 a4 a5 h ∧ Qw a1 a2 a3 a4 h (FX12_why a0 a1 a2 a3 a4 a5 h) := by
  unfold PX12_why FX12_why
  refine sf_if (fun c1 => ?_) (fun c1 => ?_)
  · have f2 : iv 3 3 a1 := iv_eql (iv_any a1) (iv_lit (lo := 3) (hi := 3) (x := 3) rfl) c1 rfl
    refine sf_n (iv_in f_a2 rfl) ?_
    have f3 : iv 0 3 (h 10 (a2.toNatClampNeg)) := IMv I 10 _
    refine sf_if (fun c4 => ?_) (fun c4 => ?_)
    · have f5 : iv 0 0 (h 10 (a2.toNatClampNeg)) := iv_eql f3 (iv_lit (lo := 0) (hi := 0) (x := 0) rfl) c4 rfl
      refine sf_n (iv_in f_a3 rfl) ?_
      have f6 : iv 0 3 (h 10 (a3.toNatClampNeg)) := IMv I 10 _
      refine sf_if (fun c7 => ?_) (fun c7 => ?_)
      · have f8 : iv 0 0 (h 10 (a3.toNatClampNeg)) := iv_eql f6 (iv_lit (lo := 0) (hi := 0) (x := 0) rfl) c7 rfl
        exact ⟨trivial, (iv_w (c := 0) (d := 19) (iv_lit (lo := 0) (hi := 0) (x := 0) rfl) rfl), fun _ => ⟨fun e => absurd (c1.symm.trans e) (by decide), fun e => absurd (c1.symm.trans e) (by decide), fun e => absurd (c1.symm.trans e) (by decide), fun e => absurd (c1.symm.trans e) (by decide), fun e => absurd (c1.symm.trans e) (by decide), fun e => absurd (c1.symm.trans e) (by decide), fun e => absurd (c1.symm.trans e) (by decide), fun e => absurd (c1.symm.trans e) (by decide), fun e => absurd (c1.symm.trans e) (by decide)⟩⟩
      · have f9 : iv 1 3 (h 10 (a3.toNatClampNeg)) := iv_nel f6 c7 rfl
        have f10 : iv 0 11 (h 11 (a3.toNatClampNeg)) := KVn I f9 rfl
        unfold PX12_why_99 FX12_why_99
        exact ⟨trivial, (iv_w (c := 0) (d := 19) (iv_lit (lo := 1) (hi := 1) (x := 1) rfl) rfl), fun z => absurd z (iv_ne0 (iv_lit (lo := 1) (hi := 1) (x := 1) rfl) rfl)⟩
    · have f11 : iv 1 3 (h 10 (a2.toNatClampNeg)) := iv_nel f3 c4 rfl
      have f12 : iv 0 11 (h 11 (a2.toNatClampNeg)) := KVn I f11 rfl
      unfold PX12_why_99 FX12_why_99
      exact ⟨trivial, (iv_w (c := 0) (d := 19) (iv_lit (lo := 1) (hi := 1) (x := 1) rfl) rfl), fun z => absurd z (iv_ne0 (iv_lit (lo := 1) (hi := 1) (x := 1) rfl) rfl)⟩
  refine sf_if (fun c13 => ?_) (fun c13 => ?_)
  · have f14 : iv 4 4 a1 := iv_eql (iv_any a1) (iv_lit (lo := 4) (hi := 4) (x := 4) rfl) c13 rfl
    refine sf_n (iv_in f_a2 rfl) ?_
    have f15 : iv 0 3 (h 10 (a2.toNatClampNeg)) := IMv I 10 _
    refine sf_if (fun c16 => ?_) (fun c16 => ?_)
    · have f17 : iv 0 0 (h 10 (a2.toNatClampNeg)) := iv_eql f15 (iv_lit (lo := 0) (hi := 0) (x := 0) rfl) c16 rfl
      refine sf_n (iv_in f_a3 rfl) ?_
      have f18 : iv 0 3 (h 10 (a3.toNatClampNeg)) := IMv I 10 _
      refine sf_if (fun c19 => ?_) (fun c19 => ?_)
      · have f20 : iv 0 0 (h 10 (a3.toNatClampNeg)) := iv_eql f18 (iv_lit (lo := 0) (hi := 0) (x := 0) rfl) c19 rfl
        exact ⟨trivial, (iv_w (c := 0) (d := 19) (iv_lit (lo := 0) (hi := 0) (x := 0) rfl) rfl), fun _ => ⟨fun e => absurd (c13.symm.trans e) (by decide), fun e => absurd (c13.symm.trans e) (by decide), fun e => absurd (c13.symm.trans e) (by decide), fun e => absurd (c13.symm.trans e) (by decide), fun e => absurd (c13.symm.trans e) (by decide), fun e => absurd (c13.symm.trans e) (by decide), fun e => absurd (c13.symm.trans e) (by decide), fun e => absurd (c13.symm.trans e) (by decide), fun e => absurd (c13.symm.trans e) (by decide)⟩⟩
      · have f21 : iv 1 3 (h 10 (a3.toNatClampNeg)) := iv_nel f18 c19 rfl
        have f22 : iv 0 11 (h 11 (a3.toNatClampNeg)) := KVn I f21 rfl
        unfold PX12_why_99 FX12_why_99
        exact ⟨trivial, (iv_w (c := 0) (d := 19) (iv_lit (lo := 1) (hi := 1) (x := 1) rfl) rfl), fun z => absurd z (iv_ne0 (iv_lit (lo := 1) (hi := 1) (x := 1) rfl) rfl)⟩
    · have f23 : iv 1 3 (h 10 (a2.toNatClampNeg)) := iv_nel f15 c16 rfl
      have f24 : iv 0 11 (h 11 (a2.toNatClampNeg)) := KVn I f23 rfl
      unfold PX12_why_99 FX12_why_99
      exact ⟨trivial, (iv_w (c := 0) (d := 19) (iv_lit (lo := 1) (hi := 1) (x := 1) rfl) rfl), fun z => absurd z (iv_ne0 (iv_lit (lo := 1) (hi := 1) (x := 1) rfl) rfl)⟩
  refine sf_if (fun c25 => ?_) (fun c25 => ?_)
  · have f26 : iv 5 5 a1 := iv_eql (iv_any a1) (iv_lit (lo := 5) (hi := 5) (x := 5) rfl) c25 rfl
    refine sf_n (iv_in f_a2 rfl) ?_
    have f27 : iv 0 3 (h 10 (a2.toNatClampNeg)) := IMv I 10 _
    refine sf_if (fun c28 => ?_) (fun c28 => ?_)
    · have f29 : iv 0 0 (h 10 (a2.toNatClampNeg)) := iv_eql f27 (iv_lit (lo := 0) (hi := 0) (x := 0) rfl) c28 rfl
      refine sf_n (iv_in f_a3 rfl) ?_
      have f30 : iv 0 3 (h 10 (a3.toNatClampNeg)) := IMv I 10 _
      refine sf_if (fun c31 => ?_) (fun c31 => ?_)
      · have f32 : iv 0 0 (h 10 (a3.toNatClampNeg)) := iv_eql f30 (iv_lit (lo := 0) (hi := 0) (x := 0) rfl) c31 rfl
        exact ⟨trivial, (iv_w (c := 0) (d := 19) (iv_lit (lo := 0) (hi := 0) (x := 0) rfl) rfl), fun _ => ⟨fun e => absurd (c25.symm.trans e) (by decide), fun e => absurd (c25.symm.trans e) (by decide), fun e => absurd (c25.symm.trans e) (by decide), fun e => absurd (c25.symm.trans e) (by decide), fun e => absurd (c25.symm.trans e) (by decide), fun e => absurd (c25.symm.trans e) (by decide), fun e => absurd (c25.symm.trans e) (by decide), fun e => absurd (c25.symm.trans e) (by decide), fun e => absurd (c25.symm.trans e) (by decide)⟩⟩
      · have f33 : iv 1 3 (h 10 (a3.toNatClampNeg)) := iv_nel f30 c31 rfl
        have f34 : iv 0 11 (h 11 (a3.toNatClampNeg)) := KVn I f33 rfl
        unfold PX12_why_99 FX12_why_99
        exact ⟨trivial, (iv_w (c := 0) (d := 19) (iv_lit (lo := 1) (hi := 1) (x := 1) rfl) rfl), fun z => absurd z (iv_ne0 (iv_lit (lo := 1) (hi := 1) (x := 1) rfl) rfl)⟩
    · have f35 : iv 1 3 (h 10 (a2.toNatClampNeg)) := iv_nel f27 c28 rfl
      have f36 : iv 0 11 (h 11 (a2.toNatClampNeg)) := KVn I f35 rfl
      unfold PX12_why_99 FX12_why_99
      exact ⟨trivial, (iv_w (c := 0) (d := 19) (iv_lit (lo := 1) (hi := 1) (x := 1) rfl) rfl), fun z => absurd z (iv_ne0 (iv_lit (lo := 1) (hi := 1) (x := 1) rfl) rfl)⟩
  refine sf_if (fun c37 => ?_) (fun c37 => ?_)
  · have f38 : iv 6 6 a1 := iv_eql (iv_any a1) (iv_lit (lo := 6) (hi := 6) (x := 6) rfl) c37 rfl
    exact ⟨trivial, (iv_w (c := 0) (d := 19) (iv_lit (lo := 0) (hi := 0) (x := 0) rfl) rfl), fun _ => ⟨fun e => absurd (c37.symm.trans e) (by decide), fun e => absurd (c37.symm.trans e) (by decide), fun e => absurd (c37.symm.trans e) (by decide), fun e => absurd (c37.symm.trans e) (by decide), fun e => absurd (c37.symm.trans e) (by decide), fun e => absurd (c37.symm.trans e) (by decide), fun e => absurd (c37.symm.trans e) (by decide), fun e => absurd (c37.symm.trans e) (by decide), fun e => absurd (c37.symm.trans e) (by decide)⟩⟩
  refine sf_if (fun c39 => ?_) (fun c39 => ?_)
  · have f40 : iv 7 7 a1 := iv_eql (iv_any a1) (iv_lit (lo := 7) (hi := 7) (x := 7) rfl) c39 rfl
    refine sf_n (iv_in f_a2 rfl) ?_
    have f41 : iv 0 3 (h 10 (a2.toNatClampNeg)) := IMv I 10 _
    refine sf_if (fun c42 => ?_) (fun c42 => ?_)
    · have f43 : iv 0 0 (h 10 (a2.toNatClampNeg)) := iv_eql f41 (iv_lit (lo := 0) (hi := 0) (x := 0) rfl) c42 rfl
      exact ⟨trivial, (iv_w (c := 0) (d := 19) (iv_lit (lo := 0) (hi := 0) (x := 0) rfl) rfl), fun _ => ⟨fun e => absurd (c39.symm.trans e) (by decide), fun e => absurd (c39.symm.trans e) (by decide), fun e => absurd (c39.symm.trans e) (by decide), fun e => absurd (c39.symm.trans e) (by decide), fun e => absurd (c39.symm.trans e) (by decide), fun e => absurd (c39.symm.trans e) (by decide), fun e => absurd (c39.symm.trans e) (by decide), fun e => absurd (c39.symm.trans e) (by decide), fun e => absurd (c39.symm.trans e) (by decide)⟩⟩
    · have f44 : iv 1 3 (h 10 (a2.toNatClampNeg)) := iv_nel f41 c42 rfl
      have f45 : iv 0 11 (h 11 (a2.toNatClampNeg)) := KVn I f44 rfl
      exact ⟨trivial, (iv_w (c := 0) (d := 19) (iv_lit (lo := 1) (hi := 1) (x := 1) rfl) rfl), fun z => absurd z (iv_ne0 (iv_lit (lo := 1) (hi := 1) (x := 1) rfl) rfl)⟩
  refine sf_if (fun c46 => ?_) (fun c46 => ?_)
  · have f47 : iv 8 8 a1 := iv_eql (iv_any a1) (iv_lit (lo := 8) (hi := 8) (x := 8) rfl) c46 rfl
    refine sf_n (iv_in f_a3 rfl) ?_
    have f48 : iv 0 3 (h 10 (a3.toNatClampNeg)) := IMv I 10 _
    refine sf_if (fun c49 => ?_) (fun c49 => ?_)
    · have f50 : iv 0 0 (h 10 (a3.toNatClampNeg)) := iv_eql f48 (iv_lit (lo := 0) (hi := 0) (x := 0) rfl) c49 rfl
      refine sf_n (iv_in f_a3 rfl) ?_
      refine sf_if (fun c51 => ?_) (fun c51 => ?_)
      · have f52 : iv 0 2147483647 (h 11 (a3.toNatClampNeg)) := iv_ler (iv_any (h 11 (a3.toNatClampNeg))) (iv_lit (lo := 0) (hi := 0) (x := 0) rfl) c51 rfl
        refine sf_n (iv_in f_a3 rfl) ?_
        refine sf_if (fun c53 => ?_) (fun c53 => ?_)
        · have f54 : iv 17 2147483647 (h 11 (a3.toNatClampNeg)) := iv_ltr f52 (iv_lit (lo := 16) (hi := 16) (x := 16) rfl) c53 rfl
          unfold PX12_why_169 FX12_why_169
          exact ⟨trivial, (iv_w (c := 0) (d := 19) (iv_lit (lo := 3) (hi := 3) (x := 3) rfl) rfl), fun z => absurd z (iv_ne0 (iv_lit (lo := 3) (hi := 3) (x := 3) rfl) rfl)⟩
        · have f55 : iv 0 16 (h 11 (a3.toNatClampNeg)) := iv_lel f52 (iv_lit (lo := 16) (hi := 16) (x := 16) rfl) (nlt c53) rfl
          have f56 : iv 0 12 (h 0 18) := IMv I 0 _
          refine sf_if (fun c57 => ?_) (fun c57 => ?_)
          · have f58 : iv 12 12 (h 0 18) := iv_eql f56 (iv_lit (lo := 12) (hi := 12) (x := 12) rfl) c57 rfl
            unfold PX12_why_169 FX12_why_169
            exact ⟨trivial, (iv_w (c := 0) (d := 19) (iv_lit (lo := 3) (hi := 3) (x := 3) rfl) rfl), fun z => absurd z (iv_ne0 (iv_lit (lo := 3) (hi := 3) (x := 3) rfl) rfl)⟩
          · have f59 : iv 0 11 (h 0 18) := iv_nel f56 c57 rfl
            exact ⟨trivial, (iv_w (c := 0) (d := 19) (iv_lit (lo := 0) (hi := 0) (x := 0) rfl) rfl), fun _ => ⟨fun _ => ⟨f55, f59⟩, fun e => absurd (c46.symm.trans e) (by decide), fun e => absurd (c46.symm.trans e) (by decide), fun e => absurd (c46.symm.trans e) (by decide), fun e => absurd (c46.symm.trans e) (by decide), fun e => absurd (c46.symm.trans e) (by decide), fun e => absurd (c46.symm.trans e) (by decide), fun e => absurd (c46.symm.trans e) (by decide), fun e => absurd (c46.symm.trans e) (by decide)⟩⟩
      · have f60 : iv (-2147483648) (-1) (h 11 (a3.toNatClampNeg)) := iv_ltl (iv_any (h 11 (a3.toNatClampNeg))) (iv_lit (lo := 0) (hi := 0) (x := 0) rfl) (nle c51) rfl
        exact ⟨trivial, (iv_w (c := 0) (d := 19) (iv_lit (lo := 2) (hi := 2) (x := 2) rfl) rfl), fun z => absurd z (iv_ne0 (iv_lit (lo := 2) (hi := 2) (x := 2) rfl) rfl)⟩
    · have f61 : iv 1 3 (h 10 (a3.toNatClampNeg)) := iv_nel f48 c49 rfl
      have f62 : iv 0 11 (h 11 (a3.toNatClampNeg)) := KVn I f61 rfl
      exact ⟨trivial, (iv_w (c := 0) (d := 19) (iv_lit (lo := 1) (hi := 1) (x := 1) rfl) rfl), fun z => absurd z (iv_ne0 (iv_lit (lo := 1) (hi := 1) (x := 1) rfl) rfl)⟩
  refine sf_if (fun c63 => ?_) (fun c63 => ?_)
  · have f64 : iv 9 9 a1 := iv_eql (iv_any a1) (iv_lit (lo := 9) (hi := 9) (x := 9) rfl) c63 rfl
    refine sf_n (iv_in f_a3 rfl) ?_
    have f65 : iv 0 3 (h 10 (a3.toNatClampNeg)) := IMv I 10 _
    refine sf_if (fun c66 => ?_) (fun c66 => ?_)
    · have f67 : iv 1 1 (h 10 (a3.toNatClampNeg)) := iv_eql f65 (iv_lit (lo := 1) (hi := 1) (x := 1) rfl) c66 rfl
      have f68 : iv 0 11 (h 11 (a3.toNatClampNeg)) := KVn I f67 rfl
      refine sf_n (iv_in f_a4 rfl) ?_
      have f69 : iv 0 3 (h 10 (a4.toNatClampNeg)) := IMv I 10 _
      refine sf_if (fun c70 => ?_) (fun c70 => ?_)
      · have f71 : iv 0 0 (h 10 (a4.toNatClampNeg)) := iv_eql f69 (iv_lit (lo := 0) (hi := 0) (x := 0) rfl) c70 rfl
        refine sf_n (iv_in f_a4 rfl) ?_
        refine sf_n (iv_in f_a3 rfl) ?_
        refine sf_n (iv_in f68 rfl) ?_
        have f72 : iv 0 16 (h 18 ((h 11 (a3.toNatClampNeg)).toNatClampNeg)) := IMv I 18 _
        have f73 : iv (-1) 15 ((h 18 ((h 11 (a3.toNatClampNeg)).toNatClampNeg)) - 1) := iv_sub f72 (iv_lit (lo := 1) (hi := 1) (x := 1) rfl) rfl
        refine sf_n isIn_p ?_
        refine sf_if (fun c74 => ?_) (fun c74 => ?_)
        · have f75 : iv 0 0 (FX12_isIn ((h 11 (a4.toNatClampNeg)).toInt64) 0 (((h 18 ((h 11 (a3.toNatClampNeg)).toNatClampNeg)) - 1).toInt64)) := iv_eql (isIn_b (x := (h 11 (a4.toNatClampNeg)).toInt64) (l := 0) (u := ((h 18 ((h 11 (a3.toNatClampNeg)).toNatClampNeg)) - 1).toInt64)) (iv_lit (lo := 0) (hi := 0) (x := 0) rfl) c74 rfl
          exact ⟨trivial, (iv_w (c := 0) (d := 19) (iv_lit (lo := 4) (hi := 4) (x := 4) rfl) rfl), fun z => absurd z (iv_ne0 (iv_lit (lo := 4) (hi := 4) (x := 4) rfl) rfl)⟩
        · have f76 : iv 0 15 (h 11 (a4.toNatClampNeg)) := isIn_iv (iv_any (h 11 (a4.toNatClampNeg))) (lw_lit (lo := 0) (hi := 0) (x := 0) rfl) (lw_of f73) c74 rfl
          have f77 : iv 1 1 (FX12_isIn ((h 11 (a4.toNatClampNeg)).toInt64) 0 (((h 18 ((h 11 (a3.toNatClampNeg)).toNatClampNeg)) - 1).toInt64)) := iv_nel (isIn_b (x := (h 11 (a4.toNatClampNeg)).toInt64) (l := 0) (u := ((h 18 ((h 11 (a3.toNatClampNeg)).toNatClampNeg)) - 1).toInt64)) c74 rfl
          exact ⟨trivial, (iv_w (c := 0) (d := 19) (iv_lit (lo := 0) (hi := 0) (x := 0) rfl) rfl), fun _ => ⟨fun e => absurd (c63.symm.trans e) (by decide), fun _ => ⟨f68, f76⟩, fun e => absurd (c63.symm.trans e) (by decide), fun e => absurd (c63.symm.trans e) (by decide), fun e => absurd (c63.symm.trans e) (by decide), fun e => absurd (c63.symm.trans e) (by decide), fun e => absurd (c63.symm.trans e) (by decide), fun e => absurd (c63.symm.trans e) (by decide), fun e => absurd (c63.symm.trans e) (by decide)⟩⟩
      · have f78 : iv 1 3 (h 10 (a4.toNatClampNeg)) := iv_nel f69 c70 rfl
        have f79 : iv 0 11 (h 11 (a4.toNatClampNeg)) := KVn I f78 rfl
        unfold PX12_why_196 FX12_why_196
        exact ⟨trivial, (iv_w (c := 0) (d := 19) (iv_lit (lo := 1) (hi := 1) (x := 1) rfl) rfl), fun z => absurd z (iv_ne0 (iv_lit (lo := 1) (hi := 1) (x := 1) rfl) rfl)⟩
    · unfold PX12_why_196 FX12_why_196
      exact ⟨trivial, (iv_w (c := 0) (d := 19) (iv_lit (lo := 1) (hi := 1) (x := 1) rfl) rfl), fun z => absurd z (iv_ne0 (iv_lit (lo := 1) (hi := 1) (x := 1) rfl) rfl)⟩
  refine sf_if (fun c80 => ?_) (fun c80 => ?_)
  · have f81 : iv 10 10 a1 := iv_eql (iv_any a1) (iv_lit (lo := 10) (hi := 10) (x := 10) rfl) c80 rfl
    refine sf_n (iv_in f_a2 rfl) ?_
    have f82 : iv 0 3 (h 10 (a2.toNatClampNeg)) := IMv I 10 _
    refine sf_if (fun c83 => ?_) (fun c83 => ?_)
    · have f84 : iv 1 1 (h 10 (a2.toNatClampNeg)) := iv_eql f82 (iv_lit (lo := 1) (hi := 1) (x := 1) rfl) c83 rfl
      have f85 : iv 0 11 (h 11 (a2.toNatClampNeg)) := KVn I f84 rfl
      refine sf_n (iv_in f_a3 rfl) ?_
      have f86 : iv 0 3 (h 10 (a3.toNatClampNeg)) := IMv I 10 _
      refine sf_if (fun c87 => ?_) (fun c87 => ?_)
      · have f88 : iv 0 0 (h 10 (a3.toNatClampNeg)) := iv_eql f86 (iv_lit (lo := 0) (hi := 0) (x := 0) rfl) c87 rfl
        refine sf_n (iv_in f_a4 rfl) ?_
        have f89 : iv 0 3 (h 10 (a4.toNatClampNeg)) := IMv I 10 _
        refine sf_if (fun c90 => ?_) (fun c90 => ?_)
        · have f91 : iv 0 0 (h 10 (a4.toNatClampNeg)) := iv_eql f89 (iv_lit (lo := 0) (hi := 0) (x := 0) rfl) c90 rfl
          refine sf_n (iv_in f_a3 rfl) ?_
          refine sf_n (iv_in f_a2 rfl) ?_
          refine sf_n (iv_in f85 rfl) ?_
          have f92 : iv 0 16 (h 18 ((h 11 (a2.toNatClampNeg)).toNatClampNeg)) := IMv I 18 _
          have f93 : iv (-1) 15 ((h 18 ((h 11 (a2.toNatClampNeg)).toNatClampNeg)) - 1) := iv_sub f92 (iv_lit (lo := 1) (hi := 1) (x := 1) rfl) rfl
          refine sf_n isIn_p ?_
          refine sf_if (fun c94 => ?_) (fun c94 => ?_)
          · have f95 : iv 0 0 (FX12_isIn ((h 11 (a3.toNatClampNeg)).toInt64) 0 (((h 18 ((h 11 (a2.toNatClampNeg)).toNatClampNeg)) - 1).toInt64)) := iv_eql (isIn_b (x := (h 11 (a3.toNatClampNeg)).toInt64) (l := 0) (u := ((h 18 ((h 11 (a2.toNatClampNeg)).toNatClampNeg)) - 1).toInt64)) (iv_lit (lo := 0) (hi := 0) (x := 0) rfl) c94 rfl
            exact ⟨trivial, (iv_w (c := 0) (d := 19) (iv_lit (lo := 4) (hi := 4) (x := 4) rfl) rfl), fun z => absurd z (iv_ne0 (iv_lit (lo := 4) (hi := 4) (x := 4) rfl) rfl)⟩
          · have f96 : iv 0 15 (h 11 (a3.toNatClampNeg)) := isIn_iv (iv_any (h 11 (a3.toNatClampNeg))) (lw_lit (lo := 0) (hi := 0) (x := 0) rfl) (lw_of f93) c94 rfl
            have f97 : iv 1 1 (FX12_isIn ((h 11 (a3.toNatClampNeg)).toInt64) 0 (((h 18 ((h 11 (a2.toNatClampNeg)).toNatClampNeg)) - 1).toInt64)) := iv_nel (isIn_b (x := (h 11 (a3.toNatClampNeg)).toInt64) (l := 0) (u := ((h 18 ((h 11 (a2.toNatClampNeg)).toNatClampNeg)) - 1).toInt64)) c94 rfl
            exact ⟨trivial, (iv_w (c := 0) (d := 19) (iv_lit (lo := 0) (hi := 0) (x := 0) rfl) rfl), fun _ => ⟨fun e => absurd (c80.symm.trans e) (by decide), fun e => absurd (c80.symm.trans e) (by decide), fun _ => ⟨f85, f96⟩, fun e => absurd (c80.symm.trans e) (by decide), fun e => absurd (c80.symm.trans e) (by decide), fun e => absurd (c80.symm.trans e) (by decide), fun e => absurd (c80.symm.trans e) (by decide), fun e => absurd (c80.symm.trans e) (by decide), fun e => absurd (c80.symm.trans e) (by decide)⟩⟩
        · have f98 : iv 1 3 (h 10 (a4.toNatClampNeg)) := iv_nel f89 c90 rfl
          have f99 : iv 0 11 (h 11 (a4.toNatClampNeg)) := KVn I f98 rfl
          unfold PX12_why_266 FX12_why_266
          exact ⟨trivial, (iv_w (c := 0) (d := 19) (iv_lit (lo := 1) (hi := 1) (x := 1) rfl) rfl), fun z => absurd z (iv_ne0 (iv_lit (lo := 1) (hi := 1) (x := 1) rfl) rfl)⟩
      · have f100 : iv 1 3 (h 10 (a3.toNatClampNeg)) := iv_nel f86 c87 rfl
        have f101 : iv 0 11 (h 11 (a3.toNatClampNeg)) := KVn I f100 rfl
        unfold PX12_why_266 FX12_why_266
        exact ⟨trivial, (iv_w (c := 0) (d := 19) (iv_lit (lo := 1) (hi := 1) (x := 1) rfl) rfl), fun z => absurd z (iv_ne0 (iv_lit (lo := 1) (hi := 1) (x := 1) rfl) rfl)⟩
    · unfold PX12_why_266 FX12_why_266
      exact ⟨trivial, (iv_w (c := 0) (d := 19) (iv_lit (lo := 1) (hi := 1) (x := 1) rfl) rfl), fun z => absurd z (iv_ne0 (iv_lit (lo := 1) (hi := 1) (x := 1) rfl) rfl)⟩
  refine sf_if (fun c102 => ?_) (fun c102 => ?_)
  · have f103 : iv 11 11 a1 := iv_eql (iv_any a1) (iv_lit (lo := 11) (hi := 11) (x := 11) rfl) c102 rfl
    have f104 : iv 0 12 (h 0 18) := IMv I 0 _
    refine sf_if (fun c105 => ?_) (fun c105 => ?_)
    · have f106 : iv 12 12 (h 0 18) := iv_eql f104 (iv_lit (lo := 12) (hi := 12) (x := 12) rfl) c105 rfl
      exact ⟨trivial, (iv_w (c := 0) (d := 19) (iv_lit (lo := 3) (hi := 3) (x := 3) rfl) rfl), fun z => absurd z (iv_ne0 (iv_lit (lo := 3) (hi := 3) (x := 3) rfl) rfl)⟩
    · have f107 : iv 0 11 (h 0 18) := iv_nel f104 c105 rfl
      exact ⟨trivial, (iv_w (c := 0) (d := 19) (iv_lit (lo := 0) (hi := 0) (x := 0) rfl) rfl), fun _ => ⟨fun e => absurd (c102.symm.trans e) (by decide), fun e => absurd (c102.symm.trans e) (by decide), fun e => absurd (c102.symm.trans e) (by decide), fun _ => f107, fun e => absurd (c102.symm.trans e) (by decide), fun e => absurd (c102.symm.trans e) (by decide), fun e => absurd (c102.symm.trans e) (by decide), fun e => absurd (c102.symm.trans e) (by decide), fun e => absurd (c102.symm.trans e) (by decide)⟩⟩
  refine sf_if (fun c108 => ?_) (fun c108 => ?_)
  · have f109 : iv 12 12 a1 := iv_eql (iv_any a1) (iv_lit (lo := 12) (hi := 12) (x := 12) rfl) c108 rfl
    have s110 := SX12_isLock (z := z) a2 h I f_a2
    refine sf_n s110.1 ?_
    refine sf_if (fun c111 => ?_) (fun c111 => ?_)
    · have f112 : iv 0 0 (FX12_isLock a2 h) := iv_eql s110.2.1 (iv_lit (lo := 0) (hi := 0) (x := 0) rfl) c111 rfl
      exact ⟨trivial, (iv_w (c := 0) (d := 19) (iv_lit (lo := 1) (hi := 1) (x := 1) rfl) rfl), fun z => absurd z (iv_ne0 (iv_lit (lo := 1) (hi := 1) (x := 1) rfl) rfl)⟩
    · have f113 : iv 2 3 (h 10 (a2.toNatClampNeg)) := iv_and (iv_any _) (s110.2.2 c111) rfl
      have f114 : iv 0 11 (h 11 (a2.toNatClampNeg)) := KVn I f113 rfl
      have f115 : iv 1 1 (FX12_isLock a2 h) := iv_nel s110.2.1 c111 rfl
      refine sf_n (iv_in f_a2 rfl) ?_
      refine sf_n (iv_in f114 rfl) ?_
      refine sf_if (fun c116 => ?_) (fun c116 => ?_)
      · have f117 : iv 0 3 (h 17 ((h 11 (a2.toNatClampNeg)).toNatClampNeg)) := iv_eql (iv_any (h 17 ((h 11 (a2.toNatClampNeg)).toNatClampNeg))) f_a0 c116 rfl
        exact ⟨trivial, (iv_w (c := 0) (d := 19) (iv_lit (lo := 5) (hi := 5) (x := 5) rfl) rfl), fun z => absurd z (iv_ne0 (iv_lit (lo := 5) (hi := 5) (x := 5) rfl) rfl)⟩
      · exact ⟨trivial, (iv_w (c := 0) (d := 19) (iv_lit (lo := 0) (hi := 0) (x := 0) rfl) rfl), fun _ => ⟨fun e => absurd (c108.symm.trans e) (by decide), fun e => absurd (c108.symm.trans e) (by decide), fun e => absurd (c108.symm.trans e) (by decide), fun e => absurd (c108.symm.trans e) (by decide), fun _ => f114, fun e => absurd (c108.symm.trans e) (by decide), fun e => absurd (c108.symm.trans e) (by decide), fun e => absurd (c108.symm.trans e) (by decide), fun e => absurd (c108.symm.trans e) (by decide)⟩⟩
  refine sf_if (fun c118 => ?_) (fun c118 => ?_)
  · have f119 : iv 13 13 a1 := iv_eql (iv_any a1) (iv_lit (lo := 13) (hi := 13) (x := 13) rfl) c118 rfl
    have s120 := SX12_isLock (z := z) a2 h I f_a2
    refine sf_n s120.1 ?_
    refine sf_if (fun c121 => ?_) (fun c121 => ?_)
    · have f122 : iv 0 0 (FX12_isLock a2 h) := iv_eql s120.2.1 (iv_lit (lo := 0) (hi := 0) (x := 0) rfl) c121 rfl
      exact ⟨trivial, (iv_w (c := 0) (d := 19) (iv_lit (lo := 1) (hi := 1) (x := 1) rfl) rfl), fun z => absurd z (iv_ne0 (iv_lit (lo := 1) (hi := 1) (x := 1) rfl) rfl)⟩
    · have f123 : iv 2 3 (h 10 (a2.toNatClampNeg)) := iv_and (iv_any _) (s120.2.2 c121) rfl
      have f124 : iv 0 11 (h 11 (a2.toNatClampNeg)) := KVn I f123 rfl
      have f125 : iv 1 1 (FX12_isLock a2 h) := iv_nel s120.2.1 c121 rfl
      refine sf_n (iv_in f_a2 rfl) ?_
      refine sf_n (iv_in f124 rfl) ?_
      refine sf_if (fun c126 => ?_) (fun c126 => ?_)
      · have f127 : iv 0 3 (h 17 ((h 11 (a2.toNatClampNeg)).toNatClampNeg)) := iv_eql (iv_any (h 17 ((h 11 (a2.toNatClampNeg)).toNatClampNeg))) f_a0 c126 rfl
        exact ⟨trivial, (iv_w (c := 0) (d := 19) (iv_lit (lo := 0) (hi := 0) (x := 0) rfl) rfl), fun _ => ⟨fun e => absurd (c118.symm.trans e) (by decide), fun e => absurd (c118.symm.trans e) (by decide), fun e => absurd (c118.symm.trans e) (by decide), fun e => absurd (c118.symm.trans e) (by decide), fun e => absurd (c118.symm.trans e) (by decide), fun _ => f124, fun e => absurd (c118.symm.trans e) (by decide), fun e => absurd (c118.symm.trans e) (by decide), fun e => absurd (c118.symm.trans e) (by decide)⟩⟩
      · exact ⟨trivial, (iv_w (c := 0) (d := 19) (iv_lit (lo := 6) (hi := 6) (x := 6) rfl) rfl), fun z => absurd z (iv_ne0 (iv_lit (lo := 6) (hi := 6) (x := 6) rfl) rfl)⟩
  refine sf_if (fun c128 => ?_) (fun c128 => ?_)
  · have f129 : iv 14 14 a1 := iv_eql (iv_any a1) (iv_lit (lo := 14) (hi := 14) (x := 14) rfl) c128 rfl
    refine sf_n (iv_in f_a2 rfl) ?_
    have f130 : iv 0 3 (h 10 (a2.toNatClampNeg)) := IMv I 10 _
    refine sf_if (fun c131 => ?_) (fun c131 => ?_)
    · have f132 : iv 3 3 (h 10 (a2.toNatClampNeg)) := iv_eql f130 (iv_lit (lo := 3) (hi := 3) (x := 3) rfl) c131 rfl
      have f133 : iv 0 11 (h 11 (a2.toNatClampNeg)) := KVn I f132 rfl
      refine sf_n (iv_in f_a2 rfl) ?_
      refine sf_n (iv_in f133 rfl) ?_
      refine sf_if (fun c134 => ?_) (fun c134 => ?_)
      · have f135 : iv 0 3 (h 17 ((h 11 (a2.toNatClampNeg)).toNatClampNeg)) := iv_eql (iv_any (h 17 ((h 11 (a2.toNatClampNeg)).toNatClampNeg))) f_a0 c134 rfl
        exact ⟨trivial, (iv_w (c := 0) (d := 19) (iv_lit (lo := 0) (hi := 0) (x := 0) rfl) rfl), fun _ => ⟨fun e => absurd (c128.symm.trans e) (by decide), fun e => absurd (c128.symm.trans e) (by decide), fun e => absurd (c128.symm.trans e) (by decide), fun e => absurd (c128.symm.trans e) (by decide), fun e => absurd (c128.symm.trans e) (by decide), fun e => absurd (c128.symm.trans e) (by decide), fun _ => f133, fun e => absurd (c128.symm.trans e) (by decide), fun e => absurd (c128.symm.trans e) (by decide)⟩⟩
      · exact ⟨trivial, (iv_w (c := 0) (d := 19) (iv_lit (lo := 6) (hi := 6) (x := 6) rfl) rfl), fun z => absurd z (iv_ne0 (iv_lit (lo := 6) (hi := 6) (x := 6) rfl) rfl)⟩
    · have f136 : iv 0 2 (h 10 (a2.toNatClampNeg)) := iv_nel f130 c131 rfl
      exact ⟨trivial, (iv_w (c := 0) (d := 19) (iv_lit (lo := 1) (hi := 1) (x := 1) rfl) rfl), fun z => absurd z (iv_ne0 (iv_lit (lo := 1) (hi := 1) (x := 1) rfl) rfl)⟩
  refine sf_if (fun c137 => ?_) (fun c137 => ?_)
  · have f138 : iv 15 15 a1 := iv_eql (iv_any a1) (iv_lit (lo := 15) (hi := 15) (x := 15) rfl) c137 rfl
    refine sf_n (iv_in f_a2 rfl) ?_
    have f139 : iv 0 3 (h 10 (a2.toNatClampNeg)) := IMv I 10 _
    refine sf_if (fun c140 => ?_) (fun c140 => ?_)
    · have f141 : iv 3 3 (h 10 (a2.toNatClampNeg)) := iv_eql f139 (iv_lit (lo := 3) (hi := 3) (x := 3) rfl) c140 rfl
      have f142 : iv 0 11 (h 11 (a2.toNatClampNeg)) := KVn I f141 rfl
      refine sf_n (iv_in f_a2 rfl) ?_
      refine sf_n (iv_in f142 rfl) ?_
      refine sf_if (fun c143 => ?_) (fun c143 => ?_)
      · have f144 : iv 0 3 (h 17 ((h 11 (a2.toNatClampNeg)).toNatClampNeg)) := iv_eql (iv_any (h 17 ((h 11 (a2.toNatClampNeg)).toNatClampNeg))) f_a0 c143 rfl
        exact ⟨trivial, (iv_w (c := 0) (d := 19) (iv_lit (lo := 0) (hi := 0) (x := 0) rfl) rfl), fun _ => ⟨fun e => absurd (c137.symm.trans e) (by decide), fun e => absurd (c137.symm.trans e) (by decide), fun e => absurd (c137.symm.trans e) (by decide), fun e => absurd (c137.symm.trans e) (by decide), fun e => absurd (c137.symm.trans e) (by decide), fun e => absurd (c137.symm.trans e) (by decide), fun e => absurd (c137.symm.trans e) (by decide), fun _ => f142, fun e => absurd (c137.symm.trans e) (by decide)⟩⟩
      · exact ⟨trivial, (iv_w (c := 0) (d := 19) (iv_lit (lo := 6) (hi := 6) (x := 6) rfl) rfl), fun z => absurd z (iv_ne0 (iv_lit (lo := 6) (hi := 6) (x := 6) rfl) rfl)⟩
    · have f145 : iv 0 2 (h 10 (a2.toNatClampNeg)) := iv_nel f139 c140 rfl
      exact ⟨trivial, (iv_w (c := 0) (d := 19) (iv_lit (lo := 1) (hi := 1) (x := 1) rfl) rfl), fun z => absurd z (iv_ne0 (iv_lit (lo := 1) (hi := 1) (x := 1) rfl) rfl)⟩
  refine sf_if (fun c146 => ?_) (fun c146 => ?_)
  · have f147 : iv 16 16 a1 := iv_eql (iv_any a1) (iv_lit (lo := 16) (hi := 16) (x := 16) rfl) c146 rfl
    have f148 : iv 0 1 (h 0 33) := IMv I 0 _
    refine sf_if (fun c149 => ?_) (fun c149 => ?_)
    · have f150 : iv 0 0 (h 0 33) := iv_eql f148 (iv_lit (lo := 0) (hi := 0) (x := 0) rfl) c149 rfl
      have f151 : iv 0 30 (h 0 23) := IMv I 0 _
      have f152 : iv 0 30 (h 0 7) := IMv I 0 _
      refine sf_if (fun c153 => ?_) (fun c153 => ?_)
      · exact ⟨trivial, (iv_w (c := 0) (d := 19) (iv_lit (lo := 7) (hi := 7) (x := 7) rfl) rfl), fun z => absurd z (iv_ne0 (iv_lit (lo := 7) (hi := 7) (x := 7) rfl) rfl)⟩
      · exact ⟨trivial, (iv_w (c := 0) (d := 19) (iv_lit (lo := 0) (hi := 0) (x := 0) rfl) rfl), fun _ => ⟨fun e => absurd (c146.symm.trans e) (by decide), fun e => absurd (c146.symm.trans e) (by decide), fun e => absurd (c146.symm.trans e) (by decide), fun e => absurd (c146.symm.trans e) (by decide), fun e => absurd (c146.symm.trans e) (by decide), fun e => absurd (c146.symm.trans e) (by decide), fun e => absurd (c146.symm.trans e) (by decide), fun e => absurd (c146.symm.trans e) (by decide), fun _ _ => c153⟩⟩
    · have f154 : iv 1 1 (h 0 33) := iv_nel f148 c149 rfl
      exact ⟨trivial, (iv_w (c := 0) (d := 19) (iv_lit (lo := 0) (hi := 0) (x := 0) rfl) rfl), fun _ => ⟨fun e => absurd (c146.symm.trans e) (by decide), fun e => absurd (c146.symm.trans e) (by decide), fun e => absurd (c146.symm.trans e) (by decide), fun e => absurd (c146.symm.trans e) (by decide), fun e => absurd (c146.symm.trans e) (by decide), fun e => absurd (c146.symm.trans e) (by decide), fun e => absurd (c146.symm.trans e) (by decide), fun e => absurd (c146.symm.trans e) (by decide), fun _ e => absurd e c149⟩⟩
  refine sf_if (fun c155 => ?_) (fun c155 => ?_)
  · have f156 : iv 17 17 a1 := iv_eql (iv_any a1) (iv_lit (lo := 17) (hi := 17) (x := 17) rfl) c155 rfl
    exact ⟨trivial, (iv_w (c := 0) (d := 19) (iv_lit (lo := 0) (hi := 0) (x := 0) rfl) rfl), fun _ => ⟨fun e => absurd (c155.symm.trans e) (by decide), fun e => absurd (c155.symm.trans e) (by decide), fun e => absurd (c155.symm.trans e) (by decide), fun e => absurd (c155.symm.trans e) (by decide), fun e => absurd (c155.symm.trans e) (by decide), fun e => absurd (c155.symm.trans e) (by decide), fun e => absurd (c155.symm.trans e) (by decide), fun e => absurd (c155.symm.trans e) (by decide), fun e => absurd (c155.symm.trans e) (by decide)⟩⟩
  refine sf_if (fun c157 => ?_) (fun c157 => ?_)
  · have f158 : iv 18 18 a1 := iv_eql (iv_any a1) (iv_lit (lo := 18) (hi := 18) (x := 18) rfl) c157 rfl
    refine sf_n (modulo_p (m := 10) (by decide) (by decide)) ?_
    have f159 : iv 0 9 (FX12_modulo a5 10) := modulo_iv (m := 10) rfl
    have f160 : iv 10 19 (10 + (FX12_modulo a5 10)) := iv_add (iv_lit (lo := 10) (hi := 10) (x := 10) rfl) f159 rfl
    exact ⟨trivial, (iv_w (c := 0) (d := 19) f160 rfl), fun z => absurd z (iv_ne0 f160 rfl)⟩
  exact ⟨trivial, (iv_w (c := 0) (d := 19) (iv_lit (lo := 0) (hi := 0) (x := 0) rfl) rfl), fun _ => ⟨fun e => absurd e c46, fun e => absurd e c63, fun e => absurd e c80, fun e => absurd e c102, fun e => absurd e c108, fun e => absurd e c118, fun e => absurd e c128, fun e => absurd e c137, fun e => absurd e c146⟩⟩

-- X12_work
set_option maxRecDepth 100000 in
set_option maxHeartbeats 4000000 in
theorem SX12_work_391 {z : zT} : ∀ (q : Nat) (x3 : Int32) (x6 : Int32) (h : ph_H), IM z h → iv 0 27 x3 → iv 0 4 x6 → 4 - (x6).toInt < ((q : Nat) : Int) → PX12_work_391  q x3 x6 h ∧ IM z (FX12_work_391  q x3 x6 h) := by
  intro q
  induction q with
  | zero =>
    intro x3 x6 h I f_x3 f_x6 mq
    exact mu_zu f_x6 mq rfl
  | succ q ih =>
    intro x3 x6 h I f_x3 f_x6 mq
    unfold PX12_work_391 FX12_work_391
    refine sf_if (fun c1 => ?_) (fun c1 => ?_)
    · have f2 : iv 4 4 x6 := iv_ler f_x6 (iv_lit (lo := 4) (hi := 4) (x := 4) rfl) c1 rfl
      exact ⟨trivial, I⟩
    · have f3 : iv 0 3 x6 := iv_ltl f_x6 (iv_lit (lo := 4) (hi := 4) (x := 4) rfl) (nle c1) rfl
      refine sf_n (iv_in f3 rfl) ?_
      have f4 : iv (-1) 11 (h 14 (x6.toNatClampNeg)) := IMv I 14 _
      refine sf_n (iv_in f_x3 rfl) ?_
      refine sf_if (fun c5 => ?_) (fun c5 => ?_)
      · have f6 : iv (-1) 11 (h 11 (x3.toNatClampNeg)) := iv_eqr (iv_any (h 11 (x3.toNatClampNeg))) f4 c5 rfl
        refine sf_n (iv_in f3 rfl) ?_
        refine sf_n (iv_in f3 rfl) ?_
        have I7 : IM z (hs h 15 x6.toNatClampNeg (h 14 (x6.toNatClampNeg))) := IMs I (k := 15) (i := x6.toNatClampNeg) (v := (h 14 (x6.toNatClampNeg))) f4 rfl
        refine sf_n (iv_in f3 rfl) ?_
        have I8 : IM z (hs (hs h 15 x6.toNatClampNeg (h 14 (x6.toNatClampNeg))) 14 x6.toNatClampNeg (-1)) := IMs I7 (k := 14) (i := x6.toNatClampNeg) (v := (-1)) (iv_w (c := (-1)) (d := 11) (iv_lit (lo := (-1)) (hi := (-1)) (x := (-1)) rfl) rfl) rfl
        unfold PX12_work_435 FX12_work_435
        have f9 : iv 1 4 (x6 + 1) := iv_add f3 (iv_lit (lo := 1) (hi := 1) (x := 1) rfl) rfl
        exact ih x3 (x6 + 1) (hs (hs h 15 x6.toNatClampNeg (h 14 (x6.toNatClampNeg))) 14 x6.toNatClampNeg (-1)) I8 f_x3 (iv_w (c := 0) (d := 4) f9 rfl) (mu_up f3 mq rfl)
      · unfold PX12_work_435 FX12_work_435
        have f10 : iv 1 4 (x6 + 1) := iv_add f3 (iv_lit (lo := 1) (hi := 1) (x := 1) rfl) rfl
        exact ih x3 (x6 + 1) h I f_x3 (iv_w (c := 0) (d := 4) f10 rfl) (mu_up f3 mq rfl)
set_option maxRecDepth 100000 in
set_option maxHeartbeats 4000000 in
theorem SX12_work {z : zT} (a0 : Int32) (a1 : Int32) (a2 : Int32) (a3 : Int32) (a4 : Int32) (h : ph_H) (I : IM z h) (f_a0 : iv 0 3 a0) (f_a2 : iv 0 27 a2) (f_a3 : iv 0 27 a3) (f_a4 : iv 0 27 a4) (W : WOK a1 a2 a3 a4 h) : PX12_work a0 a1 a2 a3 a4 h ∧ IM z (FX12_work a0 a1 a2 a3 a4 h) := by
  unfold PX12_work FX12_work
  refine sf_if (fun c1 => ?_) (fun c1 => ?_)
  · have f2 : iv 3 3 a1 := iv_eql (iv_any a1) (iv_lit (lo := 3) (hi := 3) (x := 3) rfl) c1 rfl
    refine sf_n (iv_in f_a2 rfl) ?_
    refine sf_n (iv_in f_a3 rfl) ?_
    have s3 := SX12_set (z := z) a2 0 ((h 11 (a2.toNatClampNeg)) + (h 11 (a3.toNatClampNeg))) h I f_a2 (iv_w (c := 0) (d := 3) (iv_lit (lo := 0) (hi := 0) (x := 0) rfl) rfl) (Or.inl rfl)
    refine sf_n s3.1 ?_
    unfold PX12_work_88 FX12_work_88
    exact ⟨trivial, s3.2⟩
  refine sf_if (fun c4 => ?_) (fun c4 => ?_)
  · have f5 : iv 4 4 a1 := iv_eql (iv_any a1) (iv_lit (lo := 4) (hi := 4) (x := 4) rfl) c4 rfl
    refine sf_n (iv_in f_a2 rfl) ?_
    refine sf_n (iv_in f_a3 rfl) ?_
    have s6 := SX12_set (z := z) a2 0 ((h 11 (a2.toNatClampNeg)) - (h 11 (a3.toNatClampNeg))) h I f_a2 (iv_w (c := 0) (d := 3) (iv_lit (lo := 0) (hi := 0) (x := 0) rfl) rfl) (Or.inl rfl)
    refine sf_n s6.1 ?_
    unfold PX12_work_111 FX12_work_111
    exact ⟨trivial, s6.2⟩
  refine sf_if (fun c7 => ?_) (fun c7 => ?_)
  · have f8 : iv 5 5 a1 := iv_eql (iv_any a1) (iv_lit (lo := 5) (hi := 5) (x := 5) rfl) c7 rfl
    refine sf_n (iv_in f_a2 rfl) ?_
    refine sf_n (iv_in f_a3 rfl) ?_
    have s9 := SX12_set (z := z) a2 0 ((h 11 (a2.toNatClampNeg)) * (h 11 (a3.toNatClampNeg))) h I f_a2 (iv_w (c := 0) (d := 3) (iv_lit (lo := 0) (hi := 0) (x := 0) rfl) rfl) (Or.inl rfl)
    refine sf_n s9.1 ?_
    unfold PX12_work_134 FX12_work_134
    exact ⟨trivial, s9.2⟩
  refine sf_if (fun c10 => ?_) (fun c10 => ?_)
  · have f11 : iv 6 6 a1 := iv_eql (iv_any a1) (iv_lit (lo := 6) (hi := 6) (x := 6) rfl) c10 rfl
    exact ⟨trivial, I⟩
  refine sf_if (fun c12 => ?_) (fun c12 => ?_)
  · have f13 : iv 7 7 a1 := iv_eql (iv_any a1) (iv_lit (lo := 7) (hi := 7) (x := 7) rfl) c12 rfl
    exact ⟨trivial, I⟩
  refine sf_if (fun c14 => ?_) (fun c14 => ?_)
  · have f15 : iv 0 16 (h 11 (a3.toNatClampNeg)) := iv_and (iv_any _) (W.1 c14).1 rfl
    have f16 : iv 0 11 (h 0 18) := iv_and (iv_any _) (W.1 c14).2 rfl
    have f17 : iv 8 8 a1 := iv_eql (iv_any a1) (iv_lit (lo := 8) (hi := 8) (x := 8) rfl) c14 rfl
    refine sf_n (iv_in f_a3 rfl) ?_
    have s18 := SX12_newThing (z := z) 1 (h 11 (a3.toNatClampNeg)) h I f15 f16
    refine sf_n s18.1 ?_
    unfold PX12_work_152 FX12_work_152
    have s19 := SX12_set (z := z) a2 1 ((FX12_newThing 1 (h 11 (a3.toNatClampNeg)) h).1) ((FX12_newThing 1 (h 11 (a3.toNatClampNeg)) h).2) s18.2.2 f_a2 (iv_w (c := 0) (d := 3) (iv_lit (lo := 1) (hi := 1) (x := 1) rfl) rfl) (Or.inr s18.2.1)
    refine sf_n s19.1 ?_
    unfold PX12_work_155 FX12_work_155
    exact ⟨trivial, s19.2⟩
  refine sf_if (fun c20 => ?_) (fun c20 => ?_)
  · have f21 : iv 0 11 (h 11 (a3.toNatClampNeg)) := iv_and (iv_any _) (W.2.1 c20).1 rfl
    have f22 : iv 0 15 (h 11 (a4.toNatClampNeg)) := iv_and (iv_any _) (W.2.1 c20).2 rfl
    have f23 : iv 9 9 a1 := iv_eql (iv_any a1) (iv_lit (lo := 9) (hi := 9) (x := 9) rfl) c20 rfl
    refine sf_n (iv_in f_a3 rfl) ?_
    have f24 : iv 0 220 (20 * (h 11 (a3.toNatClampNeg))) := iv_mul (c := 20) rfl f21 rfl
    have f25 : iv 100 320 (100 + (20 * (h 11 (a3.toNatClampNeg)))) := iv_add (iv_lit (lo := 100) (hi := 100) (x := 100) rfl) f24 rfl
    refine sf_n (iv_in f_a4 rfl) ?_
    have f26 : iv 100 335 ((100 + (20 * (h 11 (a3.toNatClampNeg)))) + (h 11 (a4.toNatClampNeg))) := iv_add f25 f22 rfl
    have I27 : IM z (hs h 0 29 ((100 + (20 * (h 11 (a3.toNatClampNeg)))) + (h 11 (a4.toNatClampNeg)))) := IMs I (k := 0) (i := 29) (v := ((100 + (20 * (h 11 (a3.toNatClampNeg)))) + (h 11 (a4.toNatClampNeg)))) (iv_any ((100 + (20 * (h 11 (a3.toNatClampNeg)))) + (h 11 (a4.toNatClampNeg)))) rfl
    refine sf_n (iv_in f_a3 rfl) ?_
    have f28 : iv 0 176 (16 * (h 11 (a3.toNatClampNeg))) := iv_mul (c := 16) rfl f21 rfl
    refine sf_n (iv_in f_a4 rfl) ?_
    have f29 : iv 0 191 ((16 * (h 11 (a3.toNatClampNeg))) + (h 11 (a4.toNatClampNeg))) := iv_add f28 f22 rfl
    refine sf_n (iv_in f29 rfl) ?_
    have s30 := SX12_set (z := z) a2 0 (h 19 (((16 * (h 11 (a3.toNatClampNeg))) + (h 11 (a4.toNatClampNeg))).toNatClampNeg)) (hs h 0 29 ((100 + (20 * (h 11 (a3.toNatClampNeg)))) + (h 11 (a4.toNatClampNeg)))) I27 f_a2 (iv_w (c := 0) (d := 3) (iv_lit (lo := 0) (hi := 0) (x := 0) rfl) rfl) (Or.inl rfl)
    refine sf_n s30.1 ?_
    unfold PX12_work_212 FX12_work_212
    exact ⟨trivial, s30.2⟩
  refine sf_if (fun c31 => ?_) (fun c31 => ?_)
  · have f32 : iv 0 11 (h 11 (a2.toNatClampNeg)) := iv_and (iv_any _) (W.2.2.1 c31).1 rfl
    have f33 : iv 0 15 (h 11 (a3.toNatClampNeg)) := iv_and (iv_any _) (W.2.2.1 c31).2 rfl
    have f34 : iv 10 10 a1 := iv_eql (iv_any a1) (iv_lit (lo := 10) (hi := 10) (x := 10) rfl) c31 rfl
    refine sf_n (iv_in f_a2 rfl) ?_
    have f35 : iv 0 220 (20 * (h 11 (a2.toNatClampNeg))) := iv_mul (c := 20) rfl f32 rfl
    have f36 : iv 100 320 (100 + (20 * (h 11 (a2.toNatClampNeg)))) := iv_add (iv_lit (lo := 100) (hi := 100) (x := 100) rfl) f35 rfl
    refine sf_n (iv_in f_a3 rfl) ?_
    have f37 : iv 100 335 ((100 + (20 * (h 11 (a2.toNatClampNeg)))) + (h 11 (a3.toNatClampNeg))) := iv_add f36 f33 rfl
    have I38 : IM z (hs h 0 30 ((100 + (20 * (h 11 (a2.toNatClampNeg)))) + (h 11 (a3.toNatClampNeg)))) := IMs I (k := 0) (i := 30) (v := ((100 + (20 * (h 11 (a2.toNatClampNeg)))) + (h 11 (a3.toNatClampNeg)))) (iv_any ((100 + (20 * (h 11 (a2.toNatClampNeg)))) + (h 11 (a3.toNatClampNeg)))) rfl
    refine sf_n (iv_in f_a2 rfl) ?_
    have f39 : iv 0 176 (16 * (h 11 (a2.toNatClampNeg))) := iv_mul (c := 16) rfl f32 rfl
    refine sf_n (iv_in f_a3 rfl) ?_
    have f40 : iv 0 191 ((16 * (h 11 (a2.toNatClampNeg))) + (h 11 (a3.toNatClampNeg))) := iv_add f39 f33 rfl
    refine sf_n (iv_in f_a4 rfl) ?_
    refine sf_n (iv_in f40 rfl) ?_
    have I41 : IM z (hs (hs h 0 30 ((100 + (20 * (h 11 (a2.toNatClampNeg)))) + (h 11 (a3.toNatClampNeg)))) 19 ((16 * (h 11 (a2.toNatClampNeg))) + (h 11 (a3.toNatClampNeg))).toNatClampNeg (h 11 (a4.toNatClampNeg))) := IMs I38 (k := 19) (i := ((16 * (h 11 (a2.toNatClampNeg))) + (h 11 (a3.toNatClampNeg))).toNatClampNeg) (v := (h 11 (a4.toNatClampNeg))) (iv_any (h 11 (a4.toNatClampNeg))) rfl
    exact ⟨trivial, I41⟩
  refine sf_if (fun c42 => ?_) (fun c42 => ?_)
  · have f43 : iv 0 11 (h 0 18) := iv_and (iv_any _) (W.2.2.2.1 c42) rfl
    have f44 : iv 11 11 a1 := iv_eql (iv_any a1) (iv_lit (lo := 11) (hi := 11) (x := 11) rfl) c42 rfl
    exact ⟨trivial, I⟩
  refine sf_if (fun c45 => ?_) (fun c45 => ?_)
  · have f46 : iv 0 11 (h 11 (a2.toNatClampNeg)) := iv_and (iv_any _) (W.2.2.2.2.1 c45) rfl
    have f47 : iv 12 12 a1 := iv_eql (iv_any a1) (iv_lit (lo := 12) (hi := 12) (x := 12) rfl) c45 rfl
    refine sf_n (iv_in f_a2 rfl) ?_
    refine sf_n (iv_in f46 rfl) ?_
    have I48 : IM z (hs h 17 (h 11 (a2.toNatClampNeg)).toNatClampNeg a0) := IMs I (k := 17) (i := (h 11 (a2.toNatClampNeg)).toNatClampNeg) (v := a0) (iv_any a0) rfl
    have I49 : IM z (hs (hs h 17 (h 11 (a2.toNatClampNeg)).toNatClampNeg a0) 0 31 1) := IMs I48 (k := 0) (i := 31) (v := 1) (iv_any 1) rfl
    refine sf_n (iv_in f_a2 rfl) ?_
    have I50 : IM z (hs (hs (hs h 17 (h 11 (a2.toNatClampNeg)).toNatClampNeg a0) 0 31 1) 0 32 (h 11 (a2.toNatClampNeg))) := IMs I49 (k := 0) (i := 32) (v := (h 11 (a2.toNatClampNeg))) (iv_any (h 11 (a2.toNatClampNeg))) rfl
    exact ⟨trivial, I50⟩
  refine sf_if (fun c51 => ?_) (fun c51 => ?_)
  · have f52 : iv 0 11 (h 11 (a2.toNatClampNeg)) := iv_and (iv_any _) (W.2.2.2.2.2.1 c51) rfl
    have f53 : iv 13 13 a1 := iv_eql (iv_any a1) (iv_lit (lo := 13) (hi := 13) (x := 13) rfl) c51 rfl
    refine sf_n (iv_in f_a2 rfl) ?_
    refine sf_n (iv_in f52 rfl) ?_
    have I54 : IM z (hs h 17 (h 11 (a2.toNatClampNeg)).toNatClampNeg (-1)) := IMs I (k := 17) (i := (h 11 (a2.toNatClampNeg)).toNatClampNeg) (v := (-1)) (iv_any (-1)) rfl
    have I55 : IM z (hs (hs h 17 (h 11 (a2.toNatClampNeg)).toNatClampNeg (-1)) 0 31 2) := IMs I54 (k := 0) (i := 31) (v := 2) (iv_any 2) rfl
    refine sf_n (iv_in f_a2 rfl) ?_
    have I56 : IM z (hs (hs (hs h 17 (h 11 (a2.toNatClampNeg)).toNatClampNeg (-1)) 0 31 2) 0 32 (h 11 (a2.toNatClampNeg))) := IMs I55 (k := 0) (i := 32) (v := (h 11 (a2.toNatClampNeg))) (iv_any (h 11 (a2.toNatClampNeg))) rfl
    exact ⟨trivial, I56⟩
  refine sf_if (fun c57 => ?_) (fun c57 => ?_)
  · have f58 : iv 0 11 (h 11 (a2.toNatClampNeg)) := iv_and (iv_any _) (W.2.2.2.2.2.2.1 c57) rfl
    have f59 : iv 14 14 a1 := iv_eql (iv_any a1) (iv_lit (lo := 14) (hi := 14) (x := 14) rfl) c57 rfl
    refine sf_n (iv_in f_a2 rfl) ?_
    refine sf_n (iv_in f58 rfl) ?_
    have I60 : IM z (hs h 17 (h 11 (a2.toNatClampNeg)).toNatClampNeg (-1)) := IMs I (k := 17) (i := (h 11 (a2.toNatClampNeg)).toNatClampNeg) (v := (-1)) (iv_any (-1)) rfl
    refine sf_n (iv_in f_a2 rfl) ?_
    refine sf_n (iv_in f_a0 rfl) ?_
    have I61 : IM z (hs (hs h 17 (h 11 (a2.toNatClampNeg)).toNatClampNeg (-1)) 14 a0.toNatClampNeg (h 11 (a2.toNatClampNeg))) := IMs I60 (k := 14) (i := a0.toNatClampNeg) (v := (h 11 (a2.toNatClampNeg))) (iv_w (c := (-1)) (d := 11) f58 rfl) rfl
    have I62 : IM z (hs (hs (hs h 17 (h 11 (a2.toNatClampNeg)).toNatClampNeg (-1)) 14 a0.toNatClampNeg (h 11 (a2.toNatClampNeg))) 0 31 2) := IMs I61 (k := 0) (i := 31) (v := 2) (iv_any 2) rfl
    refine sf_n (iv_in f_a2 rfl) ?_
    have I63 : IM z (hs (hs (hs (hs h 17 (h 11 (a2.toNatClampNeg)).toNatClampNeg (-1)) 14 a0.toNatClampNeg (h 11 (a2.toNatClampNeg))) 0 31 2) 0 32 (h 11 (a2.toNatClampNeg))) := IMs I62 (k := 0) (i := 32) (v := (h 11 (a2.toNatClampNeg))) (iv_any (h 11 (a2.toNatClampNeg))) rfl
    exact ⟨trivial, I63⟩
  refine sf_if (fun c64 => ?_) (fun c64 => ?_)
  · have f65 : iv 0 11 (h 11 (a2.toNatClampNeg)) := iv_and (iv_any _) (W.2.2.2.2.2.2.2.1 c64) rfl
    have f66 : iv 15 15 a1 := iv_eql (iv_any a1) (iv_lit (lo := 15) (hi := 15) (x := 15) rfl) c64 rfl
    have I67 : IM z (hs h 0 31 3) := IMs I (k := 0) (i := 31) (v := 3) (iv_any 3) rfl
    refine sf_n (iv_in f_a2 rfl) ?_
    have I68 : IM z (hs (hs h 0 31 3) 0 32 (h 11 (a2.toNatClampNeg))) := IMs I67 (k := 0) (i := 32) (v := (h 11 (a2.toNatClampNeg))) (iv_any (h 11 (a2.toNatClampNeg))) rfl
    exact SX12_work_391 2000 a2 0 (hs (hs h 0 31 3) 0 32 (h 11 (a2.toNatClampNeg))) I68 f_a2 (iv_w (c := 0) (d := 4) (iv_lit (lo := 0) (hi := 0) (x := 0) rfl) rfl) (mu_0u (iv_lit (lo := 0) (hi := 0) (x := 0) rfl) rfl)
  exact ⟨trivial, I⟩

-- X12_workPlain
set_option maxRecDepth 100000 in
set_option maxHeartbeats 4000000 in
theorem SX12_workPlain {z : zT} (a0 : Int32) (a1 : Int32) (a2 : Int32) (a3 : Int32) (h : ph_H) (I : IM z h) (f_a0 : iv 0 3 a0) (f_a1 : iv 0 95 a1) (f_a2 : iv 0 27 a2) (f_a3 : iv 0 27 a3) (W : ((h 2 (a1.toNatClampNeg)) = 11 → iv 0 11 (h 0 18)) ∧ ((h 2 (a1.toNatClampNeg)) = 16 → iv 0 29 (h 0 23))) : PX12_workPlain a0 a1 a2 a3 h ∧ IM (wz (h 2 (a1.toNatClampNeg)) z (h 0 23)) (FX12_workPlain a0 a1 a2 a3 h) := by
  unfold PX12_workPlain FX12_workPlain
  refine sf_n (iv_in f_a1 rfl) ?_
  refine sf_n (iv_in f_a1 rfl) ?_
  refine sf_n (iv_in f_a1 rfl) ?_
  refine sf_if (fun c1 => ?_) (fun c1 => ?_)
  · have f2 : iv 0 0 (h 2 (a1.toNatClampNeg)) := iv_eql (iv_any (h 2 (a1.toNatClampNeg))) (iv_lit (lo := 0) (hi := 0) (x := 0) rfl) c1 rfl
    have s3 := SX12_set (z := z) a2 0 (h 4 (a1.toNatClampNeg)) h I f_a2 (iv_w (c := 0) (d := 3) (iv_lit (lo := 0) (hi := 0) (x := 0) rfl) rfl) (Or.inl rfl)
    refine sf_n s3.1 ?_
    unfold PX12_workPlain_116 FX12_workPlain_116
    exact ⟨trivial, wz_n (fun e => absurd (c1.symm.trans e) (by decide)) s3.2⟩
  refine sf_if (fun c4 => ?_) (fun c4 => ?_)
  · have f5 : iv 1 1 (h 2 (a1.toNatClampNeg)) := iv_eql (iv_any (h 2 (a1.toNatClampNeg))) (iv_lit (lo := 1) (hi := 1) (x := 1) rfl) c4 rfl
    refine sf_n (modulo_p (m := 12) (by decide) (by decide)) ?_
    have f6 : iv 0 11 (FX12_modulo (h 4 (a1.toNatClampNeg)) 12) := modulo_iv (m := 12) rfl
    have I7 : IM z (hs h 0 29 (FX12_modulo (h 4 (a1.toNatClampNeg)) 12)) := IMs I (k := 0) (i := 29) (v := (FX12_modulo (h 4 (a1.toNatClampNeg)) 12)) (iv_any (FX12_modulo (h 4 (a1.toNatClampNeg)) 12)) rfl
    refine sf_n (iv_in f6 rfl) ?_
    have f8 : iv 0 3 (h 10 ((FX12_modulo (h 4 (a1.toNatClampNeg)) 12).toNatClampNeg)) := IMv I 10 _
    refine sf_n (iv_in f6 rfl) ?_
    have s9 := SX12_set (z := z) a2 (h 10 ((FX12_modulo (h 4 (a1.toNatClampNeg)) 12).toNatClampNeg)) (h 11 ((FX12_modulo (h 4 (a1.toNatClampNeg)) 12).toNatClampNeg)) (hs h 0 29 (FX12_modulo (h 4 (a1.toNatClampNeg)) 12)) I7 f_a2 f8 (I.2.1 _)
    refine sf_n s9.1 ?_
    unfold PX12_workPlain_153 FX12_workPlain_153
    exact ⟨trivial, wz_n (fun e => absurd (c4.symm.trans e) (by decide)) s9.2⟩
  refine sf_if (fun c10 => ?_) (fun c10 => ?_)
  · have f11 : iv 2 2 (h 2 (a1.toNatClampNeg)) := iv_eql (iv_any (h 2 (a1.toNatClampNeg))) (iv_lit (lo := 2) (hi := 2) (x := 2) rfl) c10 rfl
    refine sf_n (modulo_p (m := 12) (by decide) (by decide)) ?_
    have f12 : iv 0 11 (FX12_modulo (h 3 (a1.toNatClampNeg)) 12) := modulo_iv (m := 12) rfl
    have I13 : IM z (hs h 0 30 (FX12_modulo (h 3 (a1.toNatClampNeg)) 12)) := IMs I (k := 0) (i := 30) (v := (FX12_modulo (h 3 (a1.toNatClampNeg)) 12)) (iv_any (FX12_modulo (h 3 (a1.toNatClampNeg)) 12)) rfl
    refine sf_n (iv_in f_a3 rfl) ?_
    have f14 : iv 0 3 (h 10 (a3.toNatClampNeg)) := IMv I 10 _
    refine sf_n (iv_in f_a3 rfl) ?_
    have s15 := SX12_set (z := z) (FX12_modulo (h 3 (a1.toNatClampNeg)) 12) (h 10 (a3.toNatClampNeg)) (h 11 (a3.toNatClampNeg)) (hs h 0 30 (FX12_modulo (h 3 (a1.toNatClampNeg)) 12)) I13 (iv_w (c := 0) (d := 27) f12 rfl) f14 (I.2.1 _)
    refine sf_n s15.1 ?_
    unfold PX12_workPlain_191 FX12_workPlain_191
    exact ⟨trivial, wz_n (fun e => absurd (c10.symm.trans e) (by decide)) s15.2⟩
  refine sf_if (fun c16 => ?_) (fun c16 => ?_)
  · have f17 : iv 3 3 (h 2 (a1.toNatClampNeg)) := iv_eql (iv_any (h 2 (a1.toNatClampNeg))) (iv_lit (lo := 3) (hi := 3) (x := 3) rfl) c16 rfl
    exact ⟨trivial, wz_n (fun e => absurd (c16.symm.trans e) (by decide)) I⟩
  refine sf_if (fun c18 => ?_) (fun c18 => ?_)
  · have f19 : iv 4 4 (h 2 (a1.toNatClampNeg)) := iv_eql (iv_any (h 2 (a1.toNatClampNeg))) (iv_lit (lo := 4) (hi := 4) (x := 4) rfl) c18 rfl
    exact ⟨trivial, wz_n (fun e => absurd (c18.symm.trans e) (by decide)) I⟩
  refine sf_if (fun c20 => ?_) (fun c20 => ?_)
  · have f21 : iv 5 5 (h 2 (a1.toNatClampNeg)) := iv_eql (iv_any (h 2 (a1.toNatClampNeg))) (iv_lit (lo := 5) (hi := 5) (x := 5) rfl) c20 rfl
    exact ⟨trivial, wz_n (fun e => absurd (c20.symm.trans e) (by decide)) I⟩
  refine sf_if (fun c22 => ?_) (fun c22 => ?_)
  · have f23 : iv 6 6 (h 2 (a1.toNatClampNeg)) := iv_eql (iv_any (h 2 (a1.toNatClampNeg))) (iv_lit (lo := 6) (hi := 6) (x := 6) rfl) c22 rfl
    exact ⟨trivial, wz_n (fun e => absurd (c22.symm.trans e) (by decide)) I⟩
  refine sf_if (fun c24 => ?_) (fun c24 => ?_)
  · have f25 : iv 7 7 (h 2 (a1.toNatClampNeg)) := iv_eql (iv_any (h 2 (a1.toNatClampNeg))) (iv_lit (lo := 7) (hi := 7) (x := 7) rfl) c24 rfl
    exact ⟨trivial, wz_n (fun e => absurd (c24.symm.trans e) (by decide)) I⟩
  refine sf_if (fun c26 => ?_) (fun c26 => ?_)
  · have f27 : iv 8 8 (h 2 (a1.toNatClampNeg)) := iv_eql (iv_any (h 2 (a1.toNatClampNeg))) (iv_lit (lo := 8) (hi := 8) (x := 8) rfl) c26 rfl
    exact ⟨trivial, wz_n (fun e => absurd (c26.symm.trans e) (by decide)) I⟩
  refine sf_if (fun c28 => ?_) (fun c28 => ?_)
  · have f29 : iv 9 9 (h 2 (a1.toNatClampNeg)) := iv_eql (iv_any (h 2 (a1.toNatClampNeg))) (iv_lit (lo := 9) (hi := 9) (x := 9) rfl) c28 rfl
    exact ⟨trivial, wz_n (fun e => absurd (c28.symm.trans e) (by decide)) I⟩
  refine sf_if (fun c30 => ?_) (fun c30 => ?_)
  · have f31 : iv 10 10 (h 2 (a1.toNatClampNeg)) := iv_eql (iv_any (h 2 (a1.toNatClampNeg))) (iv_lit (lo := 10) (hi := 10) (x := 10) rfl) c30 rfl
    exact ⟨trivial, wz_n (fun e => absurd (c30.symm.trans e) (by decide)) I⟩
  refine sf_if (fun c32 => ?_) (fun c32 => ?_)
  · have f33 : iv 0 11 (h 0 18) := iv_and (iv_any _) (W.1 c32) rfl
    have f34 : iv 11 11 (h 2 (a1.toNatClampNeg)) := iv_eql (iv_any (h 2 (a1.toNatClampNeg))) (iv_lit (lo := 11) (hi := 11) (x := 11) rfl) c32 rfl
    refine sf_if (fun c35 => ?_) (fun c35 => ?_)
    · have f36 : iv 0 0 ((h 4 (a1.toNatClampNeg)) - (h 4 (a1.toNatClampNeg)) / 2 * 2) := iv_eql (iv_any ((h 4 (a1.toNatClampNeg)) - (h 4 (a1.toNatClampNeg)) / 2 * 2)) (iv_lit (lo := 0) (hi := 0) (x := 0) rfl) c35 rfl
      unfold PX12_workPlain_206 FX12_workPlain_206
      have s37 := SX12_newThing (z := z) 2 0 h I (iv_w (c := 0) (d := 16) (iv_lit (lo := 0) (hi := 0) (x := 0) rfl) rfl) f33
      refine sf_n s37.1 ?_
      unfold PX12_workPlain_219 FX12_workPlain_219
      have s38 := SX12_set (z := z) a2 2 ((FX12_newThing 2 0 h).1) ((FX12_newThing 2 0 h).2) s37.2.2 f_a2 (iv_w (c := 0) (d := 3) (iv_lit (lo := 2) (hi := 2) (x := 2) rfl) rfl) (Or.inr s37.2.1)
      refine sf_n s38.1 ?_
      unfold PX12_workPlain_222 FX12_workPlain_222
      exact ⟨trivial, wz_n (fun e => absurd (c32.symm.trans e) (by decide)) s38.2⟩
    · unfold PX12_workPlain_206 FX12_workPlain_206
      have s39 := SX12_newThing (z := z) 3 0 h I (iv_w (c := 0) (d := 16) (iv_lit (lo := 0) (hi := 0) (x := 0) rfl) rfl) f33
      refine sf_n s39.1 ?_
      unfold PX12_workPlain_219 FX12_workPlain_219
      have s40 := SX12_set (z := z) a2 3 ((FX12_newThing 3 0 h).1) ((FX12_newThing 3 0 h).2) s39.2.2 f_a2 (iv_w (c := 0) (d := 3) (iv_lit (lo := 3) (hi := 3) (x := 3) rfl) rfl) (Or.inr s39.2.1)
      refine sf_n s40.1 ?_
      unfold PX12_workPlain_222 FX12_workPlain_222
      exact ⟨trivial, wz_n (fun e => absurd (c32.symm.trans e) (by decide)) s40.2⟩
  refine sf_if (fun c41 => ?_) (fun c41 => ?_)
  · have f42 : iv 12 12 (h 2 (a1.toNatClampNeg)) := iv_eql (iv_any (h 2 (a1.toNatClampNeg))) (iv_lit (lo := 12) (hi := 12) (x := 12) rfl) c41 rfl
    exact ⟨trivial, wz_n (fun e => absurd (c41.symm.trans e) (by decide)) I⟩
  refine sf_if (fun c43 => ?_) (fun c43 => ?_)
  · have f44 : iv 13 13 (h 2 (a1.toNatClampNeg)) := iv_eql (iv_any (h 2 (a1.toNatClampNeg))) (iv_lit (lo := 13) (hi := 13) (x := 13) rfl) c43 rfl
    exact ⟨trivial, wz_n (fun e => absurd (c43.symm.trans e) (by decide)) I⟩
  refine sf_if (fun c45 => ?_) (fun c45 => ?_)
  · have f46 : iv 14 14 (h 2 (a1.toNatClampNeg)) := iv_eql (iv_any (h 2 (a1.toNatClampNeg))) (iv_lit (lo := 14) (hi := 14) (x := 14) rfl) c45 rfl
    exact ⟨trivial, wz_n (fun e => absurd (c45.symm.trans e) (by decide)) I⟩
  refine sf_if (fun c47 => ?_) (fun c47 => ?_)
  · have f48 : iv 15 15 (h 2 (a1.toNatClampNeg)) := iv_eql (iv_any (h 2 (a1.toNatClampNeg))) (iv_lit (lo := 15) (hi := 15) (x := 15) rfl) c47 rfl
    exact ⟨trivial, wz_n (fun e => absurd (c47.symm.trans e) (by decide)) I⟩
  refine sf_if (fun c49 => ?_) (fun c49 => ?_)
  · have f50 : iv 0 29 (h 0 23) := iv_and (iv_any _) (W.2 c49) rfl
    have f51 : iv 16 16 (h 2 (a1.toNatClampNeg)) := iv_eql (iv_any (h 2 (a1.toNatClampNeg))) (iv_lit (lo := 16) (hi := 16) (x := 16) rfl) c49 rfl
    have f52 : iv 0 1 (h 0 33) := IMv I 0 _
    refine sf_if (fun c53 => ?_) (fun c53 => ?_)
    · have f54 : iv 0 0 (h 0 33) := iv_eql f52 (iv_lit (lo := 0) (hi := 0) (x := 0) rfl) c53 rfl
      refine sf_n (iv_in f50 rfl) ?_
      unfold PX12_workPlain_256 FX12_workPlain_256
      have s55 := SX12_set (z := z) a2 0 (h 7 ((h 0 23).toNatClampNeg)) h I f_a2 (iv_w (c := 0) (d := 3) (iv_lit (lo := 0) (hi := 0) (x := 0) rfl) rfl) (Or.inl rfl)
      refine sf_n s55.1 ?_
      unfold PX12_workPlain_259 FX12_workPlain_259
      have f56 : iv 0 29 ((FX12_set a2 0 (h 7 ((h 0 23).toNatClampNeg)) h) 0 23) := iv_r ((IMz s55.2 0 23 rfl).trans (IMz I 0 23 rfl).symm) f50
      have f57 : iv 1 30 (((FX12_set a2 0 (h 7 ((h 0 23).toNatClampNeg)) h) 0 23) + 1) := iv_add f56 (iv_lit (lo := 1) (hi := 1) (x := 1) rfl) rfl
      have I58 : IM (hs z 0 23 (((FX12_set a2 0 (h 7 ((h 0 23).toNatClampNeg)) h) 0 23) + 1)) (hs (FX12_set a2 0 (h 7 ((h 0 23).toNatClampNeg)) h) 0 23 (((FX12_set a2 0 (h 7 ((h 0 23).toNatClampNeg)) h) 0 23) + 1)) := IMg s55.2 (k := 0) (i := 23) (v := (((FX12_set a2 0 (h 7 ((h 0 23).toNatClampNeg)) h) 0 23) + 1)) (iv_w (c := 0) (d := 30) f57 rfl) rfl
      refine ⟨trivial, wz_p c49 ?_⟩
      rw [show (h 0 23) = ((FX12_set a2 0 (h 7 ((h 0 23).toNatClampNeg)) h) 0 23) from (IMz I 0 23 rfl).trans (IMz s55.2 0 23 rfl).symm]
      exact I58
    · have f59 : iv 1 1 (h 0 33) := iv_nel f52 c53 rfl
      refine sf_n (iv_in f50 rfl) ?_
      unfold PX12_workPlain_256 FX12_workPlain_256
      have s60 := SX12_set (z := z) a2 0 (h 36 ((h 0 23).toNatClampNeg)) h I f_a2 (iv_w (c := 0) (d := 3) (iv_lit (lo := 0) (hi := 0) (x := 0) rfl) rfl) (Or.inl rfl)
      refine sf_n s60.1 ?_
      unfold PX12_workPlain_259 FX12_workPlain_259
      have f61 : iv 0 29 ((FX12_set a2 0 (h 36 ((h 0 23).toNatClampNeg)) h) 0 23) := iv_r ((IMz s60.2 0 23 rfl).trans (IMz I 0 23 rfl).symm) f50
      have f62 : iv 1 30 (((FX12_set a2 0 (h 36 ((h 0 23).toNatClampNeg)) h) 0 23) + 1) := iv_add f61 (iv_lit (lo := 1) (hi := 1) (x := 1) rfl) rfl
      have I63 : IM (hs z 0 23 (((FX12_set a2 0 (h 36 ((h 0 23).toNatClampNeg)) h) 0 23) + 1)) (hs (FX12_set a2 0 (h 36 ((h 0 23).toNatClampNeg)) h) 0 23 (((FX12_set a2 0 (h 36 ((h 0 23).toNatClampNeg)) h) 0 23) + 1)) := IMg s60.2 (k := 0) (i := 23) (v := (((FX12_set a2 0 (h 36 ((h 0 23).toNatClampNeg)) h) 0 23) + 1)) (iv_w (c := 0) (d := 30) f62 rfl) rfl
      refine ⟨trivial, wz_p c49 ?_⟩
      rw [show (h 0 23) = ((FX12_set a2 0 (h 36 ((h 0 23).toNatClampNeg)) h) 0 23) from (IMz I 0 23 rfl).trans (IMz s60.2 0 23 rfl).symm]
      exact I63
  refine sf_if (fun c64 => ?_) (fun c64 => ?_)
  · have f65 : iv 17 17 (h 2 (a1.toNatClampNeg)) := iv_eql (iv_any (h 2 (a1.toNatClampNeg))) (iv_lit (lo := 17) (hi := 17) (x := 17) rfl) c64 rfl
    refine sf_n (modulo_p (m := 4) (by decide) (by decide)) ?_
    have f66 : iv 0 3 (FX12_modulo (h 3 (a1.toNatClampNeg)) 4) := modulo_iv (m := 4) rfl
    refine sf_n (iv_in f66 rfl) ?_
    have I67 : IM z (hs h 13 (FX12_modulo (h 3 (a1.toNatClampNeg)) 4).toNatClampNeg (vp_nar .boolean 1)) := IMs I (k := 13) (i := (FX12_modulo (h 3 (a1.toNatClampNeg)) 4).toNatClampNeg) (v := (vp_nar .boolean 1)) (nar_z 1) rfl
    have I68 : IM z (hs (hs h 13 (FX12_modulo (h 3 (a1.toNatClampNeg)) 4).toNatClampNeg (vp_nar .boolean 1)) 0 31 4) := IMs I67 (k := 0) (i := 31) (v := 4) (iv_any 4) rfl
    refine sf_n (modulo_p (m := 4) (by decide) (by decide)) ?_
    have I69 : IM z (hs (hs (hs h 13 (FX12_modulo (h 3 (a1.toNatClampNeg)) 4).toNatClampNeg (vp_nar .boolean 1)) 0 31 4) 0 32 (FX12_modulo (h 3 (a1.toNatClampNeg)) 4)) := IMs I68 (k := 0) (i := 32) (v := (FX12_modulo (h 3 (a1.toNatClampNeg)) 4)) (iv_any (FX12_modulo (h 3 (a1.toNatClampNeg)) 4)) rfl
    exact ⟨trivial, wz_n (fun e => absurd (c64.symm.trans e) (by decide)) I69⟩
  exact ⟨trivial, wz_n c49 I⟩

-- X12_free
set_option maxRecDepth 100000 in
set_option maxHeartbeats 4000000 in
theorem SX12_free_12 {z : zT} : ∀ (q : Nat) (x2 : Int32) (h : ph_H), IM z h → iv 0 4 x2 → 4 - (x2).toInt < ((q : Nat) : Int) → PX12_free_12  q x2 h ∧ Qf h (FX12_free_12  q x2 h) := by
  intro q
  induction q with
  | zero =>
    intro x2 h I f_x2 mq
    exact mu_zu f_x2 mq rfl
  | succ q ih =>
    intro x2 h I f_x2 mq
    unfold PX12_free_12 FX12_free_12
    refine sf_if (fun c1 => ?_) (fun c1 => ?_)
    · have f2 : iv 4 4 x2 := iv_ler f_x2 (iv_lit (lo := 4) (hi := 4) (x := 4) rfl) c1 rfl
      exact ⟨trivial, ⟨by decide, by decide⟩, fun z => absurd (by decide) z⟩
    · have f3 : iv 0 3 x2 := iv_ltl f_x2 (iv_lit (lo := 4) (hi := 4) (x := 4) rfl) (nle c1) rfl
      have s4 := SX12_canGo (z := z) x2 h I f3
      refine sf_n s4.1 ?_
      refine sf_if (fun c5 => ?_) (fun c5 => ?_)
      · have f6 : iv 0 0 (FX12_canGo x2 h) := iv_eql s4.2.1 (iv_lit (lo := 0) (hi := 0) (x := 0) rfl) c5 rfl
        have f7 : iv 1 4 (x2 + 1) := iv_add f3 (iv_lit (lo := 1) (hi := 1) (x := 1) rfl) rfl
        exact ih (x2 + 1) h I (iv_w (c := 0) (d := 4) f7 rfl) (mu_up f3 mq rfl)
      · have f8 : iv 0 23 (h 12 (x2.toNatClampNeg)) := iv_and (iv_any _) (s4.2.2 c5) rfl
        have f9 : iv 1 1 (FX12_canGo x2 h) := iv_nel s4.2.1 c5 rfl
        exact ⟨trivial, (iv_w (c := (-1)) (d := 3) f3 rfl), fun _ => f8⟩
set_option maxRecDepth 100000 in
set_option maxHeartbeats 4000000 in
theorem SX12_free {z : zT} (a0 : Int32) (h : ph_H) (I : IM z h) (f_a0 : iv 0 3 a0) : PX12_free a0 h ∧ Qf h (FX12_free a0 h) := by
  unfold PX12_free FX12_free
  have s1 := SX12_canGo (z := z) a0 h I f_a0
  refine sf_n s1.1 ?_
  refine sf_if (fun c2 => ?_) (fun c2 => ?_)
  · have f3 : iv 0 0 (FX12_canGo a0 h) := iv_eql s1.2.1 (iv_lit (lo := 0) (hi := 0) (x := 0) rfl) c2 rfl
    exact SX12_free_12 2000 0 h I (iv_w (c := 0) (d := 4) (iv_lit (lo := 0) (hi := 0) (x := 0) rfl) rfl) (mu_0u (iv_lit (lo := 0) (hi := 0) (x := 0) rfl) rfl)
  · have f4 : iv 0 23 (h 12 (a0.toNatClampNeg)) := iv_and (iv_any _) (s1.2.2 c2) rfl
    have f5 : iv 1 1 (FX12_canGo a0 h) := iv_nel s1.2.1 c2 rfl
    exact ⟨trivial, (iv_w (c := (-1)) (d := 3) f_a0 rfl), fun _ => f4⟩

-- X12_keep
set_option maxRecDepth 100000 in
set_option maxHeartbeats 4000000 in
theorem SX12_keep_171 {z : zT} : ∀ (q : Nat) (x1 : Int32) (x2 : Int32) (h : ph_H), IM z h → iv 0 300 x1 → iv 0 192 x2 → 192 - (x2).toInt < ((q : Nat) : Int) → PX12_keep_171  q x1 x2 h ∧ IM z (FX12_keep_171  q x1 x2 h) := by
  intro q
  induction q with
  | zero =>
    intro x1 x2 h I f_x1 f_x2 mq
    exact mu_zu f_x2 mq rfl
  | succ q ih =>
    intro x1 x2 h I f_x1 f_x2 mq
    unfold PX12_keep_171 FX12_keep_171
    have f1 : iv 0 12 (h 0 18) := IMv I 0 _
    have f2 : iv 0 192 (16 * (h 0 18)) := iv_mul (c := 16) rfl f1 rfl
    refine sf_if (fun c3 => ?_) (fun c3 => ?_)
    · exact ⟨trivial, I⟩
    · have f4 : iv 0 191 x2 := iv_ltl f_x2 f2 (nle c3) rfl
      have f5 : iv 1 192 (16 * (h 0 18)) := iv_ltr f2 f_x2 (nle c3) rfl
      have f6 : iv 0 57600 (192 * x1) := iv_mul (c := 192) rfl f_x1 rfl
      have f7 : iv 0 57791 ((192 * x1) + x2) := iv_add f6 f4 rfl
      refine sf_n (iv_in f4 rfl) ?_
      refine sf_n (iv_in f7 rfl) ?_
      have I8 : IM z (hs h 28 ((192 * x1) + x2).toNatClampNeg (h 19 (x2.toNatClampNeg))) := IMs I (k := 28) (i := ((192 * x1) + x2).toNatClampNeg) (v := (h 19 (x2.toNatClampNeg))) (iv_any (h 19 (x2.toNatClampNeg))) rfl
      have f9 : iv 1 192 (x2 + 1) := iv_add f4 (iv_lit (lo := 1) (hi := 1) (x := 1) rfl) rfl
      exact ih x1 (x2 + 1) (hs h 28 ((192 * x1) + x2).toNatClampNeg (h 19 (x2.toNatClampNeg))) I8 f_x1 (iv_w (c := 0) (d := 192) f9 rfl) (mu_up f4 mq rfl)
set_option maxRecDepth 100000 in
set_option maxHeartbeats 4000000 in
theorem SX12_keep_104 {z : zT} : ∀ (q : Nat) (x1 : Int32) (x2 : Int32) (h : ph_H), IM z h → iv 0 300 x1 → iv 0 12 x2 → 12 - (x2).toInt < ((q : Nat) : Int) → PX12_keep_104  q x1 x2 h ∧ IM z (FX12_keep_104  q x1 x2 h) := by
  intro q
  induction q with
  | zero =>
    intro x1 x2 h I f_x1 f_x2 mq
    exact mu_zu f_x2 mq rfl
  | succ q ih =>
    intro x1 x2 h I f_x1 f_x2 mq
    unfold PX12_keep_104 FX12_keep_104
    have f1 : iv 0 12 (h 0 18) := IMv I 0 _
    refine sf_if (fun c2 => ?_) (fun c2 => ?_)
    · exact SX12_keep_171 2000 x1 0 h I f_x1 (iv_w (c := 0) (d := 192) (iv_lit (lo := 0) (hi := 0) (x := 0) rfl) rfl) (mu_0u (iv_lit (lo := 0) (hi := 0) (x := 0) rfl) rfl)
    · have f3 : iv 0 11 x2 := iv_ltl f_x2 f1 (nle c2) rfl
      have f4 : iv 1 12 (h 0 18) := iv_ltr f1 f_x2 (nle c2) rfl
      have f5 : iv 0 3600 (12 * x1) := iv_mul (c := 12) rfl f_x1 rfl
      have f6 : iv 0 3611 ((12 * x1) + x2) := iv_add f5 f3 rfl
      refine sf_n (iv_in f3 rfl) ?_
      refine sf_n (iv_in f6 rfl) ?_
      have I7 : IM z (hs h 25 ((12 * x1) + x2).toNatClampNeg (h 16 (x2.toNatClampNeg))) := IMs I (k := 25) (i := ((12 * x1) + x2).toNatClampNeg) (v := (h 16 (x2.toNatClampNeg))) (iv_any (h 16 (x2.toNatClampNeg))) rfl
      refine sf_n (iv_in f3 rfl) ?_
      refine sf_n (iv_in f6 rfl) ?_
      have I8 : IM z (hs (hs h 25 ((12 * x1) + x2).toNatClampNeg (h 16 (x2.toNatClampNeg))) 26 ((12 * x1) + x2).toNatClampNeg (h 17 (x2.toNatClampNeg))) := IMs I7 (k := 26) (i := ((12 * x1) + x2).toNatClampNeg) (v := (h 17 (x2.toNatClampNeg))) (iv_any (h 17 (x2.toNatClampNeg))) rfl
      refine sf_n (iv_in f3 rfl) ?_
      have f9 : iv 0 16 (h 18 (x2.toNatClampNeg)) := IMv I 18 _
      refine sf_n (iv_in f6 rfl) ?_
      have I10 : IM z (hs (hs (hs h 25 ((12 * x1) + x2).toNatClampNeg (h 16 (x2.toNatClampNeg))) 26 ((12 * x1) + x2).toNatClampNeg (h 17 (x2.toNatClampNeg))) 27 ((12 * x1) + x2).toNatClampNeg (h 18 (x2.toNatClampNeg))) := IMs I8 (k := 27) (i := ((12 * x1) + x2).toNatClampNeg) (v := (h 18 (x2.toNatClampNeg))) f9 rfl
      have f11 : iv 1 12 (x2 + 1) := iv_add f3 (iv_lit (lo := 1) (hi := 1) (x := 1) rfl) rfl
      exact ih x1 (x2 + 1) (hs (hs (hs h 25 ((12 * x1) + x2).toNatClampNeg (h 16 (x2.toNatClampNeg))) 26 ((12 * x1) + x2).toNatClampNeg (h 17 (x2.toNatClampNeg))) 27 ((12 * x1) + x2).toNatClampNeg (h 18 (x2.toNatClampNeg))) I10 f_x1 (iv_w (c := 0) (d := 12) f11 rfl) (mu_up f3 mq rfl)
set_option maxRecDepth 100000 in
set_option maxHeartbeats 4000000 in
theorem SX12_keep_50 {z : zT} : ∀ (q : Nat) (x1 : Int32) (x2 : Int32) (h : ph_H), IM z h → iv 0 300 x1 → iv 0 4 x2 → 4 - (x2).toInt < ((q : Nat) : Int) → PX12_keep_50  q x1 x2 h ∧ IM z (FX12_keep_50  q x1 x2 h) := by
  intro q
  induction q with
  | zero =>
    intro x1 x2 h I f_x1 f_x2 mq
    exact mu_zu f_x2 mq rfl
  | succ q ih =>
    intro x1 x2 h I f_x1 f_x2 mq
    unfold PX12_keep_50 FX12_keep_50
    refine sf_if (fun c1 => ?_) (fun c1 => ?_)
    · have f2 : iv 4 4 x2 := iv_ler f_x2 (iv_lit (lo := 4) (hi := 4) (x := 4) rfl) c1 rfl
      have f3 : iv 0 12 (h 0 18) := IMv I 0 _
      refine sf_n (iv_in f_x1 rfl) ?_
      have I4 : IM z (hs h 24 x1.toNatClampNeg (h 0 18)) := IMs I (k := 24) (i := x1.toNatClampNeg) (v := (h 0 18)) f3 rfl
      exact SX12_keep_104 2000 x1 0 (hs h 24 x1.toNatClampNeg (h 0 18)) I4 f_x1 (iv_w (c := 0) (d := 12) (iv_lit (lo := 0) (hi := 0) (x := 0) rfl) rfl) (mu_0u (iv_lit (lo := 0) (hi := 0) (x := 0) rfl) rfl)
    · have f5 : iv 0 3 x2 := iv_ltl f_x2 (iv_lit (lo := 4) (hi := 4) (x := 4) rfl) (nle c1) rfl
      have f6 : iv 0 1200 (4 * x1) := iv_mul (c := 4) rfl f_x1 rfl
      have f7 : iv 0 1203 ((4 * x1) + x2) := iv_add f6 f5 rfl
      refine sf_n (iv_in f5 rfl) ?_
      have f8 : iv 0 24 (h 12 (x2.toNatClampNeg)) := IMv I 12 _
      refine sf_n (iv_in f7 rfl) ?_
      have I9 : IM z (hs h 22 ((4 * x1) + x2).toNatClampNeg (h 12 (x2.toNatClampNeg))) := IMs I (k := 22) (i := ((4 * x1) + x2).toNatClampNeg) (v := (h 12 (x2.toNatClampNeg))) (iv_any (h 12 (x2.toNatClampNeg))) rfl
      have s10 := SX12_state (z := z) x2 (hs h 22 ((4 * x1) + x2).toNatClampNeg (h 12 (x2.toNatClampNeg))) I9 f5
      refine sf_n s10.1 ?_
      refine sf_n (iv_in f7 rfl) ?_
      have I11 : IM z (hs (hs h 22 ((4 * x1) + x2).toNatClampNeg (h 12 (x2.toNatClampNeg))) 23 ((4 * x1) + x2).toNatClampNeg (FX12_state x2 (hs h 22 ((4 * x1) + x2).toNatClampNeg (h 12 (x2.toNatClampNeg))))) := IMs I9 (k := 23) (i := ((4 * x1) + x2).toNatClampNeg) (v := (FX12_state x2 (hs h 22 ((4 * x1) + x2).toNatClampNeg (h 12 (x2.toNatClampNeg))))) (iv_any (FX12_state x2 (hs h 22 ((4 * x1) + x2).toNatClampNeg (h 12 (x2.toNatClampNeg))))) rfl
      have f12 : iv 1 4 (x2 + 1) := iv_add f5 (iv_lit (lo := 1) (hi := 1) (x := 1) rfl) rfl
      exact ih x1 (x2 + 1) (hs (hs h 22 ((4 * x1) + x2).toNatClampNeg (h 12 (x2.toNatClampNeg))) 23 ((4 * x1) + x2).toNatClampNeg (FX12_state x2 (hs h 22 ((4 * x1) + x2).toNatClampNeg (h 12 (x2.toNatClampNeg))))) I11 f_x1 (iv_w (c := 0) (d := 4) f12 rfl) (mu_up f5 mq rfl)
set_option maxRecDepth 100000 in
set_option maxHeartbeats 4000000 in
theorem SX12_keep_2 {z : zT} : ∀ (q : Nat) (x1 : Int32) (x2 : Int32) (h : ph_H), IM z h → iv 0 300 x1 → iv 0 28 x2 → 28 - (x2).toInt < ((q : Nat) : Int) → PX12_keep_2  q x1 x2 h ∧ IM z (FX12_keep_2  q x1 x2 h) := by
  intro q
  induction q with
  | zero =>
    intro x1 x2 h I f_x1 f_x2 mq
    exact mu_zu f_x2 mq rfl
  | succ q ih =>
    intro x1 x2 h I f_x1 f_x2 mq
    unfold PX12_keep_2 FX12_keep_2
    refine sf_if (fun c1 => ?_) (fun c1 => ?_)
    · have f2 : iv 28 28 x2 := iv_ler f_x2 (iv_lit (lo := 28) (hi := 28) (x := 28) rfl) c1 rfl
      exact SX12_keep_50 2000 x1 0 h I f_x1 (iv_w (c := 0) (d := 4) (iv_lit (lo := 0) (hi := 0) (x := 0) rfl) rfl) (mu_0u (iv_lit (lo := 0) (hi := 0) (x := 0) rfl) rfl)
    · have f3 : iv 0 27 x2 := iv_ltl f_x2 (iv_lit (lo := 28) (hi := 28) (x := 28) rfl) (nle c1) rfl
      have f4 : iv 0 8400 (28 * x1) := iv_mul (c := 28) rfl f_x1 rfl
      have f5 : iv 0 8427 ((28 * x1) + x2) := iv_add f4 f3 rfl
      refine sf_n (iv_in f3 rfl) ?_
      have f6 : iv 0 3 (h 10 (x2.toNatClampNeg)) := IMv I 10 _
      refine sf_n (iv_in f5 rfl) ?_
      have I7 : IM z (hs h 20 ((28 * x1) + x2).toNatClampNeg (h 10 (x2.toNatClampNeg))) := IMs I (k := 20) (i := ((28 * x1) + x2).toNatClampNeg) (v := (h 10 (x2.toNatClampNeg))) (iv_any (h 10 (x2.toNatClampNeg))) rfl
      refine sf_n (iv_in f3 rfl) ?_
      refine sf_n (iv_in f5 rfl) ?_
      have I8 : IM z (hs (hs h 20 ((28 * x1) + x2).toNatClampNeg (h 10 (x2.toNatClampNeg))) 21 ((28 * x1) + x2).toNatClampNeg (h 11 (x2.toNatClampNeg))) := IMs I7 (k := 21) (i := ((28 * x1) + x2).toNatClampNeg) (v := (h 11 (x2.toNatClampNeg))) (iv_any (h 11 (x2.toNatClampNeg))) rfl
      have f9 : iv 1 28 (x2 + 1) := iv_add f3 (iv_lit (lo := 1) (hi := 1) (x := 1) rfl) rfl
      exact ih x1 (x2 + 1) (hs (hs h 20 ((28 * x1) + x2).toNatClampNeg (h 10 (x2.toNatClampNeg))) 21 ((28 * x1) + x2).toNatClampNeg (h 11 (x2.toNatClampNeg))) I8 f_x1 (iv_w (c := 0) (d := 28) f9 rfl) (mu_up f3 mq rfl)
set_option maxRecDepth 100000 in
set_option maxHeartbeats 4000000 in
theorem SX12_keep {z : zT} (a0 : Int32) (h : ph_H) (I : IM z h) (f_a0 : iv 0 300 a0) : PX12_keep a0 h ∧ IM z (FX12_keep a0 h) := by
  unfold PX12_keep FX12_keep
  exact SX12_keep_2 2000 a0 0 h I f_a0 (iv_w (c := 0) (d := 28) (iv_lit (lo := 0) (hi := 0) (x := 0) rfl) rfl) (mu_0u (iv_lit (lo := 0) (hi := 0) (x := 0) rfl) rfl)

-- X12_ending
set_option maxRecDepth 100000 in
set_option maxHeartbeats 4000000 in
theorem SX12_ending_23 {z : zT} : ∀ (q : Nat) (x1 : Int32) (x2 : Int32) (h : ph_H), IM z h → iv 0 1 x1 → iv 0 4 x2 → 4 - (x2).toInt < ((q : Nat) : Int) → PX12_ending_23  q x1 x2 h ∧ iv 0 3 (FX12_ending_23  q x1 x2 h) := by
  intro q
  induction q with
  | zero =>
    intro x1 x2 h I f_x1 f_x2 mq
    exact mu_zu f_x2 mq rfl
  | succ q ih =>
    intro x1 x2 h I f_x1 f_x2 mq
    unfold PX12_ending_23 FX12_ending_23
    refine sf_if (fun c1 => ?_) (fun c1 => ?_)
    · have f2 : iv 4 4 x2 := iv_ler f_x2 (iv_lit (lo := 4) (hi := 4) (x := 4) rfl) c1 rfl
      refine sf_if (fun c3 => ?_) (fun c3 => ?_)
      · have f4 : iv 0 0 x1 := iv_eql f_x1 (iv_lit (lo := 0) (hi := 0) (x := 0) rfl) c3 rfl
        exact ⟨trivial, (iv_w (c := 0) (d := 3) (iv_lit (lo := 1) (hi := 1) (x := 1) rfl) rfl)⟩
      · have f5 : iv 1 1 x1 := iv_nel f_x1 c3 rfl
        exact ⟨trivial, (iv_w (c := 0) (d := 3) (iv_lit (lo := 0) (hi := 0) (x := 0) rfl) rfl)⟩
    · have f6 : iv 0 3 x2 := iv_ltl f_x2 (iv_lit (lo := 4) (hi := 4) (x := 4) rfl) (nle c1) rfl
      refine sf_if (fun c7 => ?_) (fun c7 => ?_)
      · have f8 : iv 0 0 x1 := iv_eql f_x1 (iv_lit (lo := 0) (hi := 0) (x := 0) rfl) c7 rfl
        unfold PX12_ending_56 FX12_ending_56
        unfold PX12_ending_57 FX12_ending_57
        have f9 : iv 1 4 (x2 + 1) := iv_add f6 (iv_lit (lo := 1) (hi := 1) (x := 1) rfl) rfl
        exact ih 0 (x2 + 1) h I (iv_w (c := 0) (d := 1) (iv_lit (lo := 0) (hi := 0) (x := 0) rfl) rfl) (iv_w (c := 0) (d := 4) f9 rfl) (mu_up f6 mq rfl)
      · have f10 : iv 1 1 x1 := iv_nel f_x1 c7 rfl
        refine sf_n (iv_in f6 rfl) ?_
        have f11 : iv 0 1 (h 13 (x2.toNatClampNeg)) := IMv I 13 _
        refine sf_if (fun c12 => ?_) (fun c12 => ?_)
        · have f13 : iv 0 0 (h 13 (x2.toNatClampNeg)) := iv_eql f11 (iv_lit (lo := 0) (hi := 0) (x := 0) rfl) c12 rfl
          unfold PX12_ending_52 FX12_ending_52
          unfold PX12_ending_57 FX12_ending_57
          have f14 : iv 1 4 (x2 + 1) := iv_add f6 (iv_lit (lo := 1) (hi := 1) (x := 1) rfl) rfl
          exact ih 1 (x2 + 1) h I (iv_w (c := 0) (d := 1) (iv_lit (lo := 1) (hi := 1) (x := 1) rfl) rfl) (iv_w (c := 0) (d := 4) f14 rfl) (mu_up f6 mq rfl)
        · have f15 : iv 1 1 (h 13 (x2.toNatClampNeg)) := iv_nel f11 c12 rfl
          refine sf_n (iv_in f6 rfl) ?_
          have f16 : iv 0 24 (h 12 (x2.toNatClampNeg)) := IMv I 12 _
          refine sf_if (fun c17 => ?_) (fun c17 => ?_)
          · have f18 : iv 24 24 (h 12 (x2.toNatClampNeg)) := iv_eql f16 (iv_lit (lo := 24) (hi := 24) (x := 24) rfl) c17 rfl
            unfold PX12_ending_52 FX12_ending_52
            unfold PX12_ending_57 FX12_ending_57
            have f19 : iv 1 4 (x2 + 1) := iv_add f6 (iv_lit (lo := 1) (hi := 1) (x := 1) rfl) rfl
            exact ih 1 (x2 + 1) h I (iv_w (c := 0) (d := 1) (iv_lit (lo := 1) (hi := 1) (x := 1) rfl) rfl) (iv_w (c := 0) (d := 4) f19 rfl) (mu_up f6 mq rfl)
          · have f20 : iv 0 23 (h 12 (x2.toNatClampNeg)) := iv_nel f16 c17 rfl
            unfold PX12_ending_56 FX12_ending_56
            unfold PX12_ending_57 FX12_ending_57
            have f21 : iv 1 4 (x2 + 1) := iv_add f6 (iv_lit (lo := 1) (hi := 1) (x := 1) rfl) rfl
            exact ih 0 (x2 + 1) h I (iv_w (c := 0) (d := 1) (iv_lit (lo := 0) (hi := 0) (x := 0) rfl) rfl) (iv_w (c := 0) (d := 4) f21 rfl) (mu_up f6 mq rfl)
set_option maxRecDepth 100000 in
set_option maxHeartbeats 4000000 in
theorem SX12_ending {z : zT} (h : ph_H) (I : IM z h) : PX12_ending h ∧ iv 0 3 (FX12_ending h) := by
  unfold PX12_ending FX12_ending
  refine sf_if (fun c1 => ?_) (fun c1 => ?_)
  · have f2 : iv (-2147483648) 0 (h 0 25) := iv_lel (iv_any (h 0 25)) (iv_lit (lo := 0) (hi := 0) (x := 0) rfl) c1 rfl
    have s3 := SX12_free (z := z) 0 h I (iv_w (c := 0) (d := 3) (iv_lit (lo := 0) (hi := 0) (x := 0) rfl) rfl)
    refine sf_n s3.1 ?_
    refine sf_if (fun c4 => ?_) (fun c4 => ?_)
    · have f5 : iv (-1) (-1) (FX12_free 0 h) := iv_ltl s3.2.1 (iv_lit (lo := 0) (hi := 0) (x := 0) rfl) c4 rfl
      exact SX12_ending_23 2000 1 0 h I (iv_w (c := 0) (d := 1) (iv_lit (lo := 1) (hi := 1) (x := 1) rfl) rfl) (iv_w (c := 0) (d := 4) (iv_lit (lo := 0) (hi := 0) (x := 0) rfl) rfl) (mu_0u (iv_lit (lo := 0) (hi := 0) (x := 0) rfl) rfl)
    · have f6 : iv 0 23 (h 12 ((FX12_free 0 h).toNatClampNeg)) := iv_and (iv_any _) (s3.2.2 c4) rfl
      have f7 : iv 0 3 (FX12_free 0 h) := iv_ler s3.2.1 (iv_lit (lo := 0) (hi := 0) (x := 0) rfl) (nlt c4) rfl
      exact ⟨trivial, (iv_w (c := 0) (d := 3) (iv_lit (lo := 3) (hi := 3) (x := 3) rfl) rfl)⟩
  · have f8 : iv 1 2147483647 (h 0 25) := iv_ltr (iv_any (h 0 25)) (iv_lit (lo := 0) (hi := 0) (x := 0) rfl) (nle c1) rfl
    exact ⟨trivial, (iv_w (c := 0) (d := 3) (iv_lit (lo := 2) (hi := 2) (x := 2) rfl) rfl)⟩

-- X12_told
set_option maxRecDepth 100000 in
set_option maxHeartbeats 4000000 in
theorem SX12_told {z : zT} (a0 : Int32) (h : ph_H) (I : IM z h) : PX12_told a0 h ∧ Qi z (-2147483648) 2147483647 (FX12_told a0 h) := by
  unfold PX12_told FX12_told
  have I1 : IM z (hs h 0 0 0) := IMs I (k := 0) (i := 0) (v := 0) (iv_any 0) rfl
  have f2 : iv 0 1 (h 0 36) := IMv I 0 _
  refine sf_if (fun c3 => ?_) (fun c3 => ?_)
  · have f4 : iv 0 0 (h 0 36) := iv_eql f2 (iv_lit (lo := 0) (hi := 0) (x := 0) rfl) c3 rfl
    exact ⟨trivial, Qi_mk (iv_any (-2)) I1⟩
  · have f5 : iv 1 1 (h 0 36) := iv_nel f2 c3 rfl
    refine sf_if (fun c6 => ?_) (fun c6 => ?_)
    · have f7 : iv 0 0 a0 := iv_eql (iv_any a0) (iv_lit (lo := 0) (hi := 0) (x := 0) rfl) c6 rfl
      exact ⟨trivial, Qi_mk (iv_any (h 0 37)) I1⟩
    refine sf_if (fun c8 => ?_) (fun c8 => ?_)
    · have f9 : iv 1 1 a0 := iv_eql (iv_any a0) (iv_lit (lo := 1) (hi := 1) (x := 1) rfl) c8 rfl
      have f10 : iv 0 300 (h 0 38) := IMv I 0 _
      exact ⟨trivial, Qi_mk (iv_any (h 0 38)) I1⟩
    refine sf_if (fun c11 => ?_) (fun c11 => ?_)
    · have f12 : iv 2 2 a0 := iv_eql (iv_any a0) (iv_lit (lo := 2) (hi := 2) (x := 2) rfl) c11 rfl
      exact ⟨trivial, Qi_mk (iv_any (h 0 39)) I1⟩
    refine sf_if (fun c13 => ?_) (fun c13 => ?_)
    · have f14 : iv 3 3 a0 := iv_eql (iv_any a0) (iv_lit (lo := 3) (hi := 3) (x := 3) rfl) c13 rfl
      exact ⟨trivial, Qi_mk (iv_any (h 0 40)) I1⟩
    refine sf_if (fun c15 => ?_) (fun c15 => ?_)
    · have f16 : iv 4 4 a0 := iv_eql (iv_any a0) (iv_lit (lo := 4) (hi := 4) (x := 4) rfl) c15 rfl
      have f17 : iv 0 300 (h 0 38) := IMv I 0 _
      refine sf_n (iv_in f17 rfl) ?_
      have f18 : iv 0 12 (h 24 ((h 0 38).toNatClampNeg)) := IMv I 24 _
      exact ⟨trivial, Qi_mk (iv_any (h 24 ((h 0 38).toNatClampNeg))) I1⟩
    refine sf_if (fun c19 => ?_) (fun c19 => ?_)
    · have f20 : iv 5 5 a0 := iv_eql (iv_any a0) (iv_lit (lo := 5) (hi := 5) (x := 5) rfl) c19 rfl
      have f21 : iv 0 300 (h 0 60) := IMv I 0 _
      exact ⟨trivial, Qi_mk (iv_any (h 0 60)) I1⟩
    refine sf_if (fun c22 => ?_) (fun c22 => ?_)
    · have f23 : iv 6 6 a0 := iv_eql (iv_any a0) (iv_lit (lo := 6) (hi := 6) (x := 6) rfl) c22 rfl
      have f24 : iv 0 30 (h 0 41) := IMv I 0 _
      exact ⟨trivial, Qi_mk (iv_any (h 0 41)) I1⟩
    refine sf_if (fun c25 => ?_) (fun c25 => ?_)
    · have f26 : iv 7 7 a0 := iv_eql (iv_any a0) (iv_lit (lo := 7) (hi := 7) (x := 7) rfl) c25 rfl
      have f27 : iv 0 300 (h 0 60) := IMv I 0 _
      have f28 : iv 0 900 (3 * (h 0 60)) := iv_mul (c := 3) rfl f27 rfl
      have f29 : iv 0 30 (h 0 41) := IMv I 0 _
      have f30 : iv 0 120 (4 * (h 0 41)) := iv_mul (c := 4) rfl f29 rfl
      have f31 : iv 0 1020 ((3 * (h 0 60)) + (4 * (h 0 41))) := iv_add f28 f30 rfl
      exact ⟨trivial, Qi_mk (iv_any ((3 * (h 0 60)) + (4 * (h 0 41)))) I1⟩
    exact ⟨trivial, Qi_mk (iv_any (-1)) I1⟩

-- X12_change
set_option maxRecDepth 100000 in
set_option maxHeartbeats 4000000 in
theorem SX12_change {z : zT} (a0 : Int32) (a1 : Int32) (h : ph_H) (I : IM z h) : PX12_change a0 a1 h ∧ Qi z (-2147483648) 2147483647 (FX12_change a0 a1 h) := by
  unfold PX12_change FX12_change
  have I1 : IM z (hs h 0 0 0) := IMs I (k := 0) (i := 0) (v := 0) (iv_any 0) rfl
  have f2 : iv 0 1 (h 0 36) := IMv I 0 _
  refine sf_if (fun c3 => ?_) (fun c3 => ?_)
  · have f4 : iv 0 0 (h 0 36) := iv_eql f2 (iv_lit (lo := 0) (hi := 0) (x := 0) rfl) c3 rfl
    exact ⟨trivial, Qi_mk (iv_any (-1)) I1⟩
  · have f5 : iv 1 1 (h 0 36) := iv_nel f2 c3 rfl
    refine sf_if (fun c6 => ?_) (fun c6 => ?_)
    · have f7 : iv (-2147483648) (-1) a0 := iv_ltl (iv_any a0) (iv_lit (lo := 0) (hi := 0) (x := 0) rfl) c6 rfl
      unfold PX12_change_36 FX12_change_36
      exact ⟨trivial, Qi_mk (iv_any (-1)) I1⟩
    · have f8 : iv 0 2147483647 a0 := iv_ler (iv_any a0) (iv_lit (lo := 0) (hi := 0) (x := 0) rfl) (nlt c6) rfl
      have f9 : iv 0 300 (h 0 60) := IMv I 0 _
      refine sf_if (fun c10 => ?_) (fun c10 => ?_)
      · unfold PX12_change_36 FX12_change_36
        exact ⟨trivial, Qi_mk (iv_any (-1)) I1⟩
      · have f11 : iv 0 299 a0 := iv_ltl f8 f9 (nle c10) rfl
        have f12 : iv 1 300 (h 0 60) := iv_ltr f9 f8 (nle c10) rfl
        refine sf_n isIn_p ?_
        refine sf_if (fun c13 => ?_) (fun c13 => ?_)
        · have f14 : iv 0 0 (FX12_isIn a1.toInt64 0 1) := iv_eql (isIn_b (x := a1.toInt64) (l := 0) (u := 1)) (iv_lit (lo := 0) (hi := 0) (x := 0) rfl) c13 rfl
          unfold PX12_change_36 FX12_change_36
          exact ⟨trivial, Qi_mk (iv_any (-1)) I1⟩
        · have f15 : iv 0 1 a1 := isIn_iv (iv_any a1) (lw_lit (lo := 0) (hi := 0) (x := 0) rfl) (lw_lit (lo := 1) (hi := 1) (x := 1) rfl) c13 rfl
          have f16 : iv 1 1 (FX12_isIn a1.toInt64 0 1) := iv_nel (isIn_b (x := a1.toInt64) (l := 0) (u := 1)) c13 rfl
          refine sf_if (fun c17 => ?_) (fun c17 => ?_)
          · have f18 : iv 0 0 a1 := iv_eql f15 (iv_lit (lo := 0) (hi := 0) (x := 0) rfl) c17 rfl
            refine sf_n (iv_in f11 rfl) ?_
            exact ⟨trivial, Qi_mk (iv_any (h 37 (a0.toNatClampNeg))) I1⟩
          · have f19 : iv 1 1 a1 := iv_nel f15 c17 rfl
            refine sf_n (iv_in f11 rfl) ?_
            have f20 : iv 0 3 (h 38 (a0.toNatClampNeg)) := IMv I 38 _
            exact ⟨trivial, Qi_mk (iv_any (h 38 (a0.toNatClampNeg))) I1⟩

-- X12_step_
set_option maxRecDepth 100000 in
set_option maxHeartbeats 4000000 in
theorem SX12_step_ {z : zT} (a0 : Int32) (a1 : Int32) (h : ph_H) (I : IM z h) : PX12_step_ a0 a1 h ∧ Qi z (-2147483648) 2147483647 (FX12_step_ a0 a1 h) := by
  unfold PX12_step_ FX12_step_
  have I1 : IM z (hs h 0 0 0) := IMs I (k := 0) (i := 0) (v := 0) (iv_any 0) rfl
  have f2 : iv 0 1 (h 0 36) := IMv I 0 _
  refine sf_if (fun c3 => ?_) (fun c3 => ?_)
  · have f4 : iv 0 0 (h 0 36) := iv_eql f2 (iv_lit (lo := 0) (hi := 0) (x := 0) rfl) c3 rfl
    exact ⟨trivial, Qi_mk (iv_any (-1)) I1⟩
  · have f5 : iv 1 1 (h 0 36) := iv_nel f2 c3 rfl
    have f6 : iv 0 300 (h 0 38) := IMv I 0 _
    refine sf_n isIn_p ?_
    refine sf_if (fun c7 => ?_) (fun c7 => ?_)
    · have f8 : iv 0 0 (FX12_isIn a0.toInt64 1 ((h 0 38).toInt64)) := iv_eql (isIn_b (x := a0.toInt64) (l := 1) (u := (h 0 38).toInt64)) (iv_lit (lo := 0) (hi := 0) (x := 0) rfl) c7 rfl
      exact ⟨trivial, Qi_mk (iv_any (-1)) I1⟩
    · have f9 : iv 1 300 a0 := isIn_iv (iv_any a0) (lw_lit (lo := 1) (hi := 1) (x := 1) rfl) (lw_of f6) c7 rfl
      have f10 : iv 1 1 (FX12_isIn a0.toInt64 1 ((h 0 38).toInt64)) := iv_nel (isIn_b (x := a0.toInt64) (l := 1) (u := (h 0 38).toInt64)) c7 rfl
      refine sf_if (fun c11 => ?_) (fun c11 => ?_)
      · have f12 : iv 0 0 a1 := iv_eql (iv_any a1) (iv_lit (lo := 0) (hi := 0) (x := 0) rfl) c11 rfl
        refine sf_n (iv_in f9 rfl) ?_
        exact ⟨trivial, Qi_mk (iv_any (h 29 (a0.toNatClampNeg))) I1⟩
      refine sf_if (fun c13 => ?_) (fun c13 => ?_)
      · have f14 : iv 1 1 a1 := iv_eql (iv_any a1) (iv_lit (lo := 1) (hi := 1) (x := 1) rfl) c13 rfl
        refine sf_n (iv_in f9 rfl) ?_
        exact ⟨trivial, Qi_mk (iv_any (h 30 (a0.toNatClampNeg))) I1⟩
      refine sf_if (fun c15 => ?_) (fun c15 => ?_)
      · have f16 : iv 2 2 a1 := iv_eql (iv_any a1) (iv_lit (lo := 2) (hi := 2) (x := 2) rfl) c15 rfl
        refine sf_n (iv_in f9 rfl) ?_
        exact ⟨trivial, Qi_mk (iv_any (h 31 (a0.toNatClampNeg))) I1⟩
      refine sf_if (fun c17 => ?_) (fun c17 => ?_)
      · have f18 : iv 3 3 a1 := iv_eql (iv_any a1) (iv_lit (lo := 3) (hi := 3) (x := 3) rfl) c17 rfl
        refine sf_n (iv_in f9 rfl) ?_
        exact ⟨trivial, Qi_mk (iv_any (h 32 (a0.toNatClampNeg))) I1⟩
      refine sf_if (fun c19 => ?_) (fun c19 => ?_)
      · have f20 : iv 4 4 a1 := iv_eql (iv_any a1) (iv_lit (lo := 4) (hi := 4) (x := 4) rfl) c19 rfl
        refine sf_n (iv_in f9 rfl) ?_
        exact ⟨trivial, Qi_mk (iv_any (h 33 (a0.toNatClampNeg))) I1⟩
      refine sf_if (fun c21 => ?_) (fun c21 => ?_)
      · have f22 : iv 5 5 a1 := iv_eql (iv_any a1) (iv_lit (lo := 5) (hi := 5) (x := 5) rfl) c21 rfl
        refine sf_n (iv_in f9 rfl) ?_
        exact ⟨trivial, Qi_mk (iv_any (h 34 (a0.toNatClampNeg))) I1⟩
      exact ⟨trivial, Qi_mk (iv_any (-1)) I1⟩

-- X12_toldThread
set_option maxRecDepth 100000 in
set_option maxHeartbeats 4000000 in
theorem SX12_toldThread_5 {z : zT} : ∀ (q : Nat) (x1 : Int32) (x2 : Int32) (x3 : Int32) (x4 : Int32) (h : ph_H), IM z h → iv 0 300 x1 → iv 0 3 x3 → iv 0 300 x4 → 300 - (x4).toInt < ((q : Nat) : Int) → PX12_toldThread_5  q x1 x2 x3 x4 h ∧ iv 0 3 (FX12_toldThread_5  q x1 x2 x3 x4 h) := by
  intro q
  induction q with
  | zero =>
    intro x1 x2 x3 x4 h I f_x1 f_x3 f_x4 mq
    exact mu_zu f_x4 mq rfl
  | succ q ih =>
    intro x1 x2 x3 x4 h I f_x1 f_x3 f_x4 mq
    unfold PX12_toldThread_5 FX12_toldThread_5
    refine sf_if (fun c1 => ?_) (fun c1 => ?_)
    · exact ⟨trivial, f_x3⟩
    · have f2 : iv 0 299 x4 := iv_ltl f_x4 f_x1 (nle c1) rfl
      have f3 : iv 1 300 x1 := iv_ltr f_x1 f_x4 (nle c1) rfl
      refine sf_n (iv_in f2 rfl) ?_
      refine sf_if (fun c4 => ?_) (fun c4 => ?_)
      · unfold PX12_toldThread_33 FX12_toldThread_33
        have f5 : iv 1 300 (x4 + 1) := iv_add f2 (iv_lit (lo := 1) (hi := 1) (x := 1) rfl) rfl
        exact ih x1 x2 x3 (x4 + 1) h I (iv_w (c := 0) (d := 300) f3 rfl) f_x3 (iv_w (c := 0) (d := 300) f5 rfl) (mu_up f2 mq rfl)
      · have f6 : iv (-2147483648) 2147483646 (h 37 (x4.toNatClampNeg)) := iv_ltl (iv_any (h 37 (x4.toNatClampNeg))) (iv_any x2) (nle c4) rfl
        have f7 : iv (-2147483647) 2147483647 x2 := iv_ltr (iv_any x2) (iv_any (h 37 (x4.toNatClampNeg))) (nle c4) rfl
        refine sf_n (iv_in f2 rfl) ?_
        have f8 : iv 0 3 (h 38 (x4.toNatClampNeg)) := IMv I 38 _
        unfold PX12_toldThread_33 FX12_toldThread_33
        have f9 : iv 1 300 (x4 + 1) := iv_add f2 (iv_lit (lo := 1) (hi := 1) (x := 1) rfl) rfl
        exact ih x1 x2 (h 38 (x4.toNatClampNeg)) (x4 + 1) h I (iv_w (c := 0) (d := 300) f3 rfl) f8 (iv_w (c := 0) (d := 300) f9 rfl) (mu_up f2 mq rfl)
set_option maxRecDepth 100000 in
set_option maxHeartbeats 4000000 in
theorem SX12_toldThread {z : zT} (a0 : Int32) (a1 : Int32) (h : ph_H) (I : IM z h) (f_a0 : iv 0 300 a0) : PX12_toldThread a0 a1 h ∧ iv 0 3 (FX12_toldThread a0 a1 h) := by
  unfold PX12_toldThread FX12_toldThread
  exact SX12_toldThread_5 2000 a0 a1 0 0 h I f_a0 (iv_w (c := 0) (d := 3) (iv_lit (lo := 0) (hi := 0) (x := 0) rfl) rfl) (iv_w (c := 0) (d := 300) (iv_lit (lo := 0) (hi := 0) (x := 0) rfl) rfl) (mu_0u (iv_lit (lo := 0) (hi := 0) (x := 0) rfl) rfl)

-- X12_ended
set_option maxRecDepth 100000 in
set_option maxHeartbeats 4000000 in
theorem SX12_ended {z : zT} (h : ph_H) (I : IM z h) : PX12_ended h ∧ Qi z (-2147483648) 2147483647 (FX12_ended h) := by
  unfold PX12_ended FX12_ended
  have I1 : IM z (hs h 0 0 0) := IMs I (k := 0) (i := 0) (v := 0) (iv_any 0) rfl
  exact ⟨trivial, Qi_mk (iv_any (h 0 66)) I1⟩

-- X12_to
set_option maxRecDepth 100000 in
set_option maxHeartbeats 4000000 in
theorem SX12_to {z : zT} (a0 : Int32) (h : ph_H) (I : IM z h) : PX12_to a0 h ∧ Qi z (-2) 300 (FX12_to a0 h) := by
  unfold PX12_to FX12_to
  have I1 : IM z (hs h 0 0 0) := IMs I (k := 0) (i := 0) (v := 0) (iv_any 0) rfl
  have f2 : iv 0 1 (h 0 36) := IMv I 0 _
  refine sf_if (fun c3 => ?_) (fun c3 => ?_)
  · have f4 : iv 0 0 (h 0 36) := iv_eql f2 (iv_lit (lo := 0) (hi := 0) (x := 0) rfl) c3 rfl
    exact ⟨trivial, Qi_mk (iv_w (c := (-2)) (d := 300) (iv_lit (lo := (-2)) (hi := (-2)) (x := (-2)) rfl) rfl) I1⟩
  · have f5 : iv 1 1 (h 0 36) := iv_nel f2 c3 rfl
    have f6 : iv 0 300 (h 0 38) := IMv I 0 _
    refine sf_n isIn_p ?_
    refine sf_if (fun c7 => ?_) (fun c7 => ?_)
    · have f8 : iv 0 0 (FX12_isIn a0.toInt64 0 ((h 0 38).toInt64)) := iv_eql (isIn_b (x := a0.toInt64) (l := 0) (u := (h 0 38).toInt64)) (iv_lit (lo := 0) (hi := 0) (x := 0) rfl) c7 rfl
      exact ⟨trivial, Qi_mk (iv_w (c := (-2)) (d := 300) (iv_lit (lo := (-1)) (hi := (-1)) (x := (-1)) rfl) rfl) I1⟩
    · have f9 : iv 0 300 a0 := isIn_iv (iv_any a0) (lw_lit (lo := 0) (hi := 0) (x := 0) rfl) (lw_of f6) c7 rfl
      have f10 : iv 1 1 (FX12_isIn a0.toInt64 0 ((h 0 38).toInt64)) := iv_nel (isIn_b (x := a0.toInt64) (l := 0) (u := (h 0 38).toInt64)) c7 rfl
      have I11 : IM z (hs (hs h 0 0 0) 0 42 a0) := IMs I1 (k := 0) (i := 42) (v := a0) f9 rfl
      exact ⟨trivial, Qi_mk (iv_w (c := (-2)) (d := 300) f9 rfl) I11⟩

-- X12_back
set_option maxRecDepth 100000 in
set_option maxHeartbeats 4000000 in
theorem SX12_back {z : zT} (a0 : Int32) (h : ph_H) (I : IM z h) : PX12_back a0 h ∧ Qi z (-2) 300 (FX12_back a0 h) := by
  unfold PX12_back FX12_back
  have I1 : IM z (hs h 0 0 0) := IMs I (k := 0) (i := 0) (v := 0) (iv_any 0) rfl
  have f2 : iv 0 1 (h 0 36) := IMv I 0 _
  refine sf_if (fun c3 => ?_) (fun c3 => ?_)
  · have f4 : iv 0 0 (h 0 36) := iv_eql f2 (iv_lit (lo := 0) (hi := 0) (x := 0) rfl) c3 rfl
    exact ⟨trivial, Qi_mk (iv_w (c := (-2)) (d := 300) (iv_lit (lo := (-2)) (hi := (-2)) (x := (-2)) rfl) rfl) I1⟩
  · have f5 : iv 1 1 (h 0 36) := iv_nel f2 c3 rfl
    refine sf_if (fun c6 => ?_) (fun c6 => ?_)
    · have f7 : iv (-2147483648) (-1) a0 := iv_ltl (iv_any a0) (iv_lit (lo := 0) (hi := 0) (x := 0) rfl) c6 rfl
      exact ⟨trivial, Qi_mk (iv_w (c := (-2)) (d := 300) (iv_lit (lo := (-1)) (hi := (-1)) (x := (-1)) rfl) rfl) I1⟩
    · have f8 : iv 0 2147483647 a0 := iv_ler (iv_any a0) (iv_lit (lo := 0) (hi := 0) (x := 0) rfl) (nlt c6) rfl
      have f9 : iv 0 300 (h 0 42) := IMv I 0 _
      refine sf_if (fun c10 => ?_) (fun c10 => ?_)
      · have f11 : iv 0 300 a0 := iv_lel f8 f9 c10 rfl
        have f12 : iv 0 300 ((h 0 42) - a0) := iv_subo f9 f11 c10 rfl
        have I13 : IM z (hs (hs h 0 0 0) 0 42 ((h 0 42) - a0)) := IMs I1 (k := 0) (i := 42) (v := ((h 0 42) - a0)) f12 rfl
        exact ⟨trivial, Qi_mk (iv_w (c := (-2)) (d := 300) f12 rfl) I13⟩
      · have f14 : iv 1 2147483647 a0 := iv_ltr f8 f9 (nle c10) rfl
        exact ⟨trivial, Qi_mk (iv_w (c := (-2)) (d := 300) (iv_lit (lo := (-1)) (hi := (-1)) (x := (-1)) rfl) rfl) I1⟩

-- X12_value
set_option maxRecDepth 100000 in
set_option maxHeartbeats 4000000 in
theorem SX12_value {z : zT} (a0 : Int32) (a1 : Int32) (a2 : Int32) (h : ph_H) (I : IM z h) : PX12_value a0 a1 a2 h ∧ Qi z (-2147483648) 2147483647 (FX12_value a0 a1 a2 h) := by
  unfold PX12_value FX12_value
  refine sf_n isIn_p ?_
  refine sf_if (fun c1 => ?_) (fun c1 => ?_)
  · have f2 : iv 0 0 (FX12_isIn a2.toInt64 0 1) := iv_eql (isIn_b (x := a2.toInt64) (l := 0) (u := 1)) (iv_lit (lo := 0) (hi := 0) (x := 0) rfl) c1 rfl
    unfold PX12_value_58 FX12_value_58
    unfold PX12_value_59 FX12_value_59
    have f3 : iv 0 1 (h 0 36) := IMv I 0 _
    refine sf_if (fun c4 => ?_) (fun c4 => ?_)
    · have f5 : iv 0 0 (h 0 36) := iv_eql f3 (iv_lit (lo := 0) (hi := 0) (x := 0) rfl) c4 rfl
      unfold PX12_value_83 FX12_value_83
      have I6 : IM z (hs h 0 0 2) := IMs I (k := 0) (i := 0) (v := 2) (iv_any 2) rfl
      refine sf_if (fun c7 => ?_) (fun c7 => ?_)
      · have f8 : iv 2 0 2 := iv_lel (iv_lit (lo := 2) (hi := 2) (x := 2) rfl) (iv_lit (lo := 0) (hi := 0) (x := 0) rfl) c7 rfl
        exact iv_no f8 rfl
      · exact ⟨trivial, Qi_mk (iv_any 0) I6⟩
    · have f9 : iv 1 1 (h 0 36) := iv_nel f3 c4 rfl
      refine sf_if (fun c10 => ?_) (fun c10 => ?_)
      · unfold PX12_value_83 FX12_value_83
        have I11 : IM z (hs h 0 0 1) := IMs I (k := 0) (i := 0) (v := 1) (iv_any 1) rfl
        refine sf_if (fun c12 => ?_) (fun c12 => ?_)
        · have f13 : iv 1 0 1 := iv_lel (iv_lit (lo := 1) (hi := 1) (x := 1) rfl) (iv_lit (lo := 0) (hi := 0) (x := 0) rfl) c12 rfl
          exact iv_no f13 rfl
        · exact ⟨trivial, Qi_mk (iv_any 0) I11⟩
      · exact absurd rfl c10
  · have f14 : iv 0 1 a2 := isIn_iv (iv_any a2) (lw_lit (lo := 0) (hi := 0) (x := 0) rfl) (lw_lit (lo := 1) (hi := 1) (x := 1) rfl) c1 rfl
    have f15 : iv 1 1 (FX12_isIn a2.toInt64 0 1) := iv_nel (isIn_b (x := a2.toInt64) (l := 0) (u := 1)) c1 rfl
    refine sf_if (fun c16 => ?_) (fun c16 => ?_)
    · have f17 : iv (-1) (-1) a0 := iv_eql (iv_any a0) (iv_lit (lo := (-1)) (hi := (-1)) (x := (-1)) rfl) c16 rfl
      refine sf_n isIn_p ?_
      refine sf_if (fun c18 => ?_) (fun c18 => ?_)
      · have f19 : iv 0 0 (FX12_isIn a1.toInt64 0 11) := iv_eql (isIn_b (x := a1.toInt64) (l := 0) (u := 11)) (iv_lit (lo := 0) (hi := 0) (x := 0) rfl) c18 rfl
        unfold PX12_value_58 FX12_value_58
        unfold PX12_value_59 FX12_value_59
        have f20 : iv 0 1 (h 0 36) := IMv I 0 _
        refine sf_if (fun c21 => ?_) (fun c21 => ?_)
        · have f22 : iv 0 0 (h 0 36) := iv_eql f20 (iv_lit (lo := 0) (hi := 0) (x := 0) rfl) c21 rfl
          unfold PX12_value_83 FX12_value_83
          have I23 : IM z (hs h 0 0 2) := IMs I (k := 0) (i := 0) (v := 2) (iv_any 2) rfl
          refine sf_if (fun c24 => ?_) (fun c24 => ?_)
          · have f25 : iv 2 0 2 := iv_lel (iv_lit (lo := 2) (hi := 2) (x := 2) rfl) (iv_lit (lo := 0) (hi := 0) (x := 0) rfl) c24 rfl
            exact iv_no f25 rfl
          · exact ⟨trivial, Qi_mk (iv_any 0) I23⟩
        · have f26 : iv 1 1 (h 0 36) := iv_nel f20 c21 rfl
          refine sf_if (fun c27 => ?_) (fun c27 => ?_)
          · unfold PX12_value_83 FX12_value_83
            have I28 : IM z (hs h 0 0 1) := IMs I (k := 0) (i := 0) (v := 1) (iv_any 1) rfl
            refine sf_if (fun c29 => ?_) (fun c29 => ?_)
            · have f30 : iv 1 0 1 := iv_lel (iv_lit (lo := 1) (hi := 1) (x := 1) rfl) (iv_lit (lo := 0) (hi := 0) (x := 0) rfl) c29 rfl
              exact iv_no f30 rfl
            · exact ⟨trivial, Qi_mk (iv_any 0) I28⟩
          · exact absurd rfl c27
      · have f31 : iv 0 11 a1 := isIn_iv (iv_any a1) (lw_lit (lo := 0) (hi := 0) (x := 0) rfl) (lw_lit (lo := 11) (hi := 11) (x := 11) rfl) c18 rfl
        have f32 : iv 1 1 (FX12_isIn a1.toInt64 0 11) := iv_nel (isIn_b (x := a1.toInt64) (l := 0) (u := 11)) c18 rfl
        unfold PX12_value_54 FX12_value_54
        unfold PX12_value_59 FX12_value_59
        have f33 : iv 0 1 (h 0 36) := IMv I 0 _
        refine sf_if (fun c34 => ?_) (fun c34 => ?_)
        · have f35 : iv 0 0 (h 0 36) := iv_eql f33 (iv_lit (lo := 0) (hi := 0) (x := 0) rfl) c34 rfl
          unfold PX12_value_83 FX12_value_83
          have I36 : IM z (hs h 0 0 2) := IMs I (k := 0) (i := 0) (v := 2) (iv_any 2) rfl
          refine sf_if (fun c37 => ?_) (fun c37 => ?_)
          · have f38 : iv 2 0 2 := iv_lel (iv_lit (lo := 2) (hi := 2) (x := 2) rfl) (iv_lit (lo := 0) (hi := 0) (x := 0) rfl) c37 rfl
            exact iv_no f38 rfl
          · exact ⟨trivial, Qi_mk (iv_any 0) I36⟩
        · have f39 : iv 1 1 (h 0 36) := iv_nel f33 c34 rfl
          refine sf_if (fun c40 => ?_) (fun c40 => ?_)
          · have f41 : iv 1 0 1 := iv_eql (iv_lit (lo := 1) (hi := 1) (x := 1) rfl) (iv_lit (lo := 0) (hi := 0) (x := 0) rfl) c40 rfl
            exact iv_no f41 rfl
          · unfold PX12_value_83 FX12_value_83
            have I42 : IM z (hs h 0 0 0) := IMs I (k := 0) (i := 0) (v := 0) (iv_any 0) rfl
            refine sf_if (fun c43 => ?_) (fun c43 => ?_)
            · have f44 : iv 0 300 (h 0 42) := IMv I 0 _
              have f45 : iv 0 8400 (28 * (h 0 42)) := iv_mul (c := 28) rfl f44 rfl
              refine sf_if (fun c46 => ?_) (fun c46 => ?_)
              · unfold PX12_value_119 FX12_value_119
                have f47 : iv 0 8411 ((28 * (h 0 42)) + a1) := iv_add f45 f31 rfl
                refine sf_if (fun c48 => ?_) (fun c48 => ?_)
                · have f49 : iv 0 0 a2 := iv_eql f14 (iv_lit (lo := 0) (hi := 0) (x := 0) rfl) c48 rfl
                  refine sf_n (iv_in f47 rfl) ?_
                  exact ⟨trivial, Qi_mk (iv_any ((hs h 0 0 0) 20 (((28 * (h 0 42)) + a1).toNatClampNeg))) I42⟩
                · have f50 : iv 1 1 a2 := iv_nel f14 c48 rfl
                  refine sf_n (iv_in f47 rfl) ?_
                  exact ⟨trivial, Qi_mk (iv_any ((hs h 0 0 0) 21 (((28 * (h 0 42)) + a1).toNatClampNeg))) I42⟩
              · have f51 : iv (-1) (-2) a0 := iv_nel f17 c46 rfl
                exact iv_no f51 rfl
            · have f52 : iv 0 (-1) 0 := iv_ltl (iv_lit (lo := 0) (hi := 0) (x := 0) rfl) (iv_lit (lo := 0) (hi := 0) (x := 0) rfl) (nle c43) rfl
              exact iv_no f52 rfl
    · refine sf_n isIn_p ?_
      refine sf_if (fun c53 => ?_) (fun c53 => ?_)
      · have f54 : iv 0 0 (FX12_isIn a0.toInt64 0 3) := iv_eql (isIn_b (x := a0.toInt64) (l := 0) (u := 3)) (iv_lit (lo := 0) (hi := 0) (x := 0) rfl) c53 rfl
        unfold PX12_value_58 FX12_value_58
        unfold PX12_value_59 FX12_value_59
        have f55 : iv 0 1 (h 0 36) := IMv I 0 _
        refine sf_if (fun c56 => ?_) (fun c56 => ?_)
        · have f57 : iv 0 0 (h 0 36) := iv_eql f55 (iv_lit (lo := 0) (hi := 0) (x := 0) rfl) c56 rfl
          unfold PX12_value_83 FX12_value_83
          have I58 : IM z (hs h 0 0 2) := IMs I (k := 0) (i := 0) (v := 2) (iv_any 2) rfl
          refine sf_if (fun c59 => ?_) (fun c59 => ?_)
          · have f60 : iv 2 0 2 := iv_lel (iv_lit (lo := 2) (hi := 2) (x := 2) rfl) (iv_lit (lo := 0) (hi := 0) (x := 0) rfl) c59 rfl
            exact iv_no f60 rfl
          · exact ⟨trivial, Qi_mk (iv_any 0) I58⟩
        · have f61 : iv 1 1 (h 0 36) := iv_nel f55 c56 rfl
          refine sf_if (fun c62 => ?_) (fun c62 => ?_)
          · unfold PX12_value_83 FX12_value_83
            have I63 : IM z (hs h 0 0 1) := IMs I (k := 0) (i := 0) (v := 1) (iv_any 1) rfl
            refine sf_if (fun c64 => ?_) (fun c64 => ?_)
            · have f65 : iv 1 0 1 := iv_lel (iv_lit (lo := 1) (hi := 1) (x := 1) rfl) (iv_lit (lo := 0) (hi := 0) (x := 0) rfl) c64 rfl
              exact iv_no f65 rfl
            · exact ⟨trivial, Qi_mk (iv_any 0) I63⟩
          · exact absurd rfl c62
      · have f66 : iv 0 3 a0 := isIn_iv (iv_any a0) (lw_lit (lo := 0) (hi := 0) (x := 0) rfl) (lw_lit (lo := 3) (hi := 3) (x := 3) rfl) c53 rfl
        have f67 : iv 1 1 (FX12_isIn a0.toInt64 0 3) := iv_nel (isIn_b (x := a0.toInt64) (l := 0) (u := 3)) c53 rfl
        refine sf_n isIn_p ?_
        refine sf_if (fun c68 => ?_) (fun c68 => ?_)
        · have f69 : iv 0 0 (FX12_isIn a1.toInt64 0 3) := iv_eql (isIn_b (x := a1.toInt64) (l := 0) (u := 3)) (iv_lit (lo := 0) (hi := 0) (x := 0) rfl) c68 rfl
          unfold PX12_value_58 FX12_value_58
          unfold PX12_value_59 FX12_value_59
          have f70 : iv 0 1 (h 0 36) := IMv I 0 _
          refine sf_if (fun c71 => ?_) (fun c71 => ?_)
          · have f72 : iv 0 0 (h 0 36) := iv_eql f70 (iv_lit (lo := 0) (hi := 0) (x := 0) rfl) c71 rfl
            unfold PX12_value_83 FX12_value_83
            have I73 : IM z (hs h 0 0 2) := IMs I (k := 0) (i := 0) (v := 2) (iv_any 2) rfl
            refine sf_if (fun c74 => ?_) (fun c74 => ?_)
            · have f75 : iv 2 0 2 := iv_lel (iv_lit (lo := 2) (hi := 2) (x := 2) rfl) (iv_lit (lo := 0) (hi := 0) (x := 0) rfl) c74 rfl
              exact iv_no f75 rfl
            · exact ⟨trivial, Qi_mk (iv_any 0) I73⟩
          · have f76 : iv 1 1 (h 0 36) := iv_nel f70 c71 rfl
            refine sf_if (fun c77 => ?_) (fun c77 => ?_)
            · unfold PX12_value_83 FX12_value_83
              have I78 : IM z (hs h 0 0 1) := IMs I (k := 0) (i := 0) (v := 1) (iv_any 1) rfl
              refine sf_if (fun c79 => ?_) (fun c79 => ?_)
              · have f80 : iv 1 0 1 := iv_lel (iv_lit (lo := 1) (hi := 1) (x := 1) rfl) (iv_lit (lo := 0) (hi := 0) (x := 0) rfl) c79 rfl
                exact iv_no f80 rfl
              · exact ⟨trivial, Qi_mk (iv_any 0) I78⟩
            · exact absurd rfl c77
        · have f81 : iv 0 3 a1 := isIn_iv (iv_any a1) (lw_lit (lo := 0) (hi := 0) (x := 0) rfl) (lw_lit (lo := 3) (hi := 3) (x := 3) rfl) c68 rfl
          have f82 : iv 1 1 (FX12_isIn a1.toInt64 0 3) := iv_nel (isIn_b (x := a1.toInt64) (l := 0) (u := 3)) c68 rfl
          unfold PX12_value_54 FX12_value_54
          unfold PX12_value_59 FX12_value_59
          have f83 : iv 0 1 (h 0 36) := IMv I 0 _
          refine sf_if (fun c84 => ?_) (fun c84 => ?_)
          · have f85 : iv 0 0 (h 0 36) := iv_eql f83 (iv_lit (lo := 0) (hi := 0) (x := 0) rfl) c84 rfl
            unfold PX12_value_83 FX12_value_83
            have I86 : IM z (hs h 0 0 2) := IMs I (k := 0) (i := 0) (v := 2) (iv_any 2) rfl
            refine sf_if (fun c87 => ?_) (fun c87 => ?_)
            · have f88 : iv 2 0 2 := iv_lel (iv_lit (lo := 2) (hi := 2) (x := 2) rfl) (iv_lit (lo := 0) (hi := 0) (x := 0) rfl) c87 rfl
              exact iv_no f88 rfl
            · exact ⟨trivial, Qi_mk (iv_any 0) I86⟩
          · have f89 : iv 1 1 (h 0 36) := iv_nel f83 c84 rfl
            refine sf_if (fun c90 => ?_) (fun c90 => ?_)
            · have f91 : iv 1 0 1 := iv_eql (iv_lit (lo := 1) (hi := 1) (x := 1) rfl) (iv_lit (lo := 0) (hi := 0) (x := 0) rfl) c90 rfl
              exact iv_no f91 rfl
            · unfold PX12_value_83 FX12_value_83
              have I92 : IM z (hs h 0 0 0) := IMs I (k := 0) (i := 0) (v := 0) (iv_any 0) rfl
              refine sf_if (fun c93 => ?_) (fun c93 => ?_)
              · have f94 : iv 0 300 (h 0 42) := IMv I 0 _
                have f95 : iv 0 8400 (28 * (h 0 42)) := iv_mul (c := 28) rfl f94 rfl
                refine sf_if (fun c96 => ?_) (fun c96 => ?_)
                · have f97 : iv 0 (-1) a0 := iv_eql f66 (iv_lit (lo := (-1)) (hi := (-1)) (x := (-1)) rfl) c96 rfl
                  exact iv_no f97 rfl
                · have f98 : iv 0 12 (4 * a0) := iv_mul (c := 4) rfl f66 rfl
                  have f99 : iv 12 24 (12 + (4 * a0)) := iv_add (iv_lit (lo := 12) (hi := 12) (x := 12) rfl) f98 rfl
                  have f100 : iv 12 27 ((12 + (4 * a0)) + a1) := iv_add f99 f81 rfl
                  unfold PX12_value_119 FX12_value_119
                  have f101 : iv 12 8427 ((28 * (h 0 42)) + ((12 + (4 * a0)) + a1)) := iv_add f95 f100 rfl
                  refine sf_if (fun c102 => ?_) (fun c102 => ?_)
                  · have f103 : iv 0 0 a2 := iv_eql f14 (iv_lit (lo := 0) (hi := 0) (x := 0) rfl) c102 rfl
                    refine sf_n (iv_in f101 rfl) ?_
                    exact ⟨trivial, Qi_mk (iv_any ((hs h 0 0 0) 20 (((28 * (h 0 42)) + ((12 + (4 * a0)) + a1)).toNatClampNeg))) I92⟩
                  · have f104 : iv 1 1 a2 := iv_nel f14 c102 rfl
                    refine sf_n (iv_in f101 rfl) ?_
                    exact ⟨trivial, Qi_mk (iv_any ((hs h 0 0 0) 21 (((28 * (h 0 42)) + ((12 + (4 * a0)) + a1)).toNatClampNeg))) I92⟩
              · have f105 : iv 0 (-1) 0 := iv_ltl (iv_lit (lo := 0) (hi := 0) (x := 0) rfl) (iv_lit (lo := 0) (hi := 0) (x := 0) rfl) (nle c93) rfl
                exact iv_no f105 rfl

-- X12_isThing
set_option maxRecDepth 100000 in
set_option maxHeartbeats 4000000 in
theorem SX12_isThing {z : zT} (a0 : Int32) (h : ph_H) (I : IM z h) : PX12_isThing a0 h ∧ Qc 0 1 (fun r => ¬ r = 0 → iv 0 11 a0) (FX12_isThing a0 h) := by
  unfold PX12_isThing FX12_isThing
  have f1 : iv 0 1 (h 0 36) := IMv I 0 _
  refine sf_if (fun c2 => ?_) (fun c2 => ?_)
  · have f3 : iv 0 0 (h 0 36) := iv_eql f1 (iv_lit (lo := 0) (hi := 0) (x := 0) rfl) c2 rfl
    exact ⟨trivial, (iv_w (c := 0) (d := 1) (iv_lit (lo := 0) (hi := 0) (x := 0) rfl) rfl), fun z => absurd rfl z⟩
  · have f4 : iv 1 1 (h 0 36) := iv_nel f1 c2 rfl
    refine sf_if (fun c5 => ?_) (fun c5 => ?_)
    · have f6 : iv (-2147483648) (-1) a0 := iv_ltl (iv_any a0) (iv_lit (lo := 0) (hi := 0) (x := 0) rfl) c5 rfl
      exact ⟨trivial, (iv_w (c := 0) (d := 1) (iv_lit (lo := 0) (hi := 0) (x := 0) rfl) rfl), fun z => absurd rfl z⟩
    · have f7 : iv 0 2147483647 a0 := iv_ler (iv_any a0) (iv_lit (lo := 0) (hi := 0) (x := 0) rfl) (nlt c5) rfl
      have f8 : iv 0 300 (h 0 42) := IMv I 0 _
      refine sf_n (iv_in f8 rfl) ?_
      have f9 : iv 0 12 (h 24 ((h 0 42).toNatClampNeg)) := IMv I 24 _
      refine sf_if (fun c10 => ?_) (fun c10 => ?_)
      · exact ⟨trivial, (iv_w (c := 0) (d := 1) (iv_lit (lo := 0) (hi := 0) (x := 0) rfl) rfl), fun z => absurd rfl z⟩
      · have f11 : iv 0 11 a0 := iv_ltl f7 f9 (nle c10) rfl
        have f12 : iv 1 12 (h 24 ((h 0 42).toNatClampNeg)) := iv_ltr f9 f7 (nle c10) rfl
        exact ⟨trivial, (iv_w (c := 0) (d := 1) (iv_lit (lo := 1) (hi := 1) (x := 1) rfl) rfl), fun _ => f11⟩

-- X12_thing
set_option maxRecDepth 100000 in
set_option maxHeartbeats 4000000 in
theorem SX12_thing {z : zT} (a0 : Int32) (a1 : Int32) (h : ph_H) (I : IM z h) : PX12_thing a0 a1 h ∧ Qi z (-2147483648) 2147483647 (FX12_thing a0 a1 h) := by
  unfold PX12_thing FX12_thing
  have I1 : IM z (hs h 0 0 0) := IMs I (k := 0) (i := 0) (v := 0) (iv_any 0) rfl
  have f2 : iv 0 1 (h 0 36) := IMv I 0 _
  refine sf_if (fun c3 => ?_) (fun c3 => ?_)
  · have f4 : iv 0 0 (h 0 36) := iv_eql f2 (iv_lit (lo := 0) (hi := 0) (x := 0) rfl) c3 rfl
    exact ⟨trivial, Qi_mk (iv_any (-2)) I1⟩
  · have f5 : iv 1 1 (h 0 36) := iv_nel f2 c3 rfl
    have s6 := SX12_isThing (z := z) a0 (hs h 0 0 0) I1
    refine sf_n s6.1 ?_
    refine sf_if (fun c7 => ?_) (fun c7 => ?_)
    · have f8 : iv 0 0 (FX12_isThing a0 (hs h 0 0 0)) := iv_eql s6.2.1 (iv_lit (lo := 0) (hi := 0) (x := 0) rfl) c7 rfl
      exact ⟨trivial, Qi_mk (iv_any (-1)) I1⟩
    · have f9 : iv 0 11 a0 := iv_and (iv_any _) (s6.2.2 c7) rfl
      have f10 : iv 1 1 (FX12_isThing a0 (hs h 0 0 0)) := iv_nel s6.2.1 c7 rfl
      refine sf_n isIn_p ?_
      refine sf_if (fun c11 => ?_) (fun c11 => ?_)
      · have f12 : iv 0 0 (FX12_isIn a1.toInt64 0 1) := iv_eql (isIn_b (x := a1.toInt64) (l := 0) (u := 1)) (iv_lit (lo := 0) (hi := 0) (x := 0) rfl) c11 rfl
        exact ⟨trivial, Qi_mk (iv_any (-1)) I1⟩
      · have f13 : iv 0 1 a1 := isIn_iv (iv_any a1) (lw_lit (lo := 0) (hi := 0) (x := 0) rfl) (lw_lit (lo := 1) (hi := 1) (x := 1) rfl) c11 rfl
        have f14 : iv 1 1 (FX12_isIn a1.toInt64 0 1) := iv_nel (isIn_b (x := a1.toInt64) (l := 0) (u := 1)) c11 rfl
        have f15 : iv 0 300 (h 0 42) := IMv I 0 _
        have f16 : iv 0 3600 (12 * (h 0 42)) := iv_mul (c := 12) rfl f15 rfl
        have f17 : iv 0 3611 ((12 * (h 0 42)) + a0) := iv_add f16 f9 rfl
        refine sf_n (iv_in f17 rfl) ?_
        refine sf_n (iv_in f17 rfl) ?_
        refine sf_if (fun c18 => ?_) (fun c18 => ?_)
        · have f19 : iv 0 0 a1 := iv_eql f13 (iv_lit (lo := 0) (hi := 0) (x := 0) rfl) c18 rfl
          exact ⟨trivial, Qi_mk (iv_any (h 25 (((12 * (h 0 42)) + a0).toNatClampNeg))) I1⟩
        · have f20 : iv 1 1 a1 := iv_nel f13 c18 rfl
          refine sf_if (fun c21 => ?_) (fun c21 => ?_)
          · have f22 : iv 1 1 (h 25 (((12 * (h 0 42)) + a0).toNatClampNeg)) := iv_eql (iv_any (h 25 (((12 * (h 0 42)) + a0).toNatClampNeg))) (iv_lit (lo := 1) (hi := 1) (x := 1) rfl) c21 rfl
            refine sf_n (iv_in f17 rfl) ?_
            have f23 : iv 0 16 (h 27 (((12 * (h 0 42)) + a0).toNatClampNeg)) := IMv I 27 _
            exact ⟨trivial, Qi_mk (iv_any (h 27 (((12 * (h 0 42)) + a0).toNatClampNeg))) I1⟩
          · refine sf_if (fun c24 => ?_) (fun c24 => ?_)
            · have f25 : iv 0 2147483647 (h 26 (((12 * (h 0 42)) + a0).toNatClampNeg)) := iv_ler (iv_any (h 26 (((12 * (h 0 42)) + a0).toNatClampNeg))) (iv_lit (lo := 0) (hi := 0) (x := 0) rfl) c24 rfl
              exact ⟨trivial, Qi_mk (iv_any (h 26 (((12 * (h 0 42)) + a0).toNatClampNeg))) I1⟩
            · have f26 : iv (-2147483648) (-1) (h 26 (((12 * (h 0 42)) + a0).toNatClampNeg)) := iv_ltl (iv_any (h 26 (((12 * (h 0 42)) + a0).toNatClampNeg))) (iv_lit (lo := 0) (hi := 0) (x := 0) rfl) (nle c24) rfl
              exact ⟨trivial, Qi_mk (iv_any (-2)) I1⟩

-- X12_place
set_option maxRecDepth 100000 in
set_option maxHeartbeats 4000000 in
theorem SX12_place {z : zT} (a0 : Int32) (a1 : Int32) (h : ph_H) (I : IM z h) : PX12_place a0 a1 h ∧ Qi z (-2147483648) 2147483647 (FX12_place a0 a1 h) := by
  unfold PX12_place FX12_place
  have s1 := SX12_isThing (z := z) a0 h I
  refine sf_n s1.1 ?_
  refine sf_if (fun c2 => ?_) (fun c2 => ?_)
  · have f3 : iv 0 0 (FX12_isThing a0 h) := iv_eql s1.2.1 (iv_lit (lo := 0) (hi := 0) (x := 0) rfl) c2 rfl
    unfold PX12_place_56 FX12_place_56
    unfold PX12_place_57 FX12_place_57
    have f4 : iv 0 1 (h 0 36) := IMv I 0 _
    refine sf_if (fun c5 => ?_) (fun c5 => ?_)
    · have f6 : iv 0 0 (h 0 36) := iv_eql f4 (iv_lit (lo := 0) (hi := 0) (x := 0) rfl) c5 rfl
      unfold PX12_place_79 FX12_place_79
      have I7 : IM z (hs h 0 0 2) := IMs I (k := 0) (i := 0) (v := 2) (iv_any 2) rfl
      refine sf_if (fun c8 => ?_) (fun c8 => ?_)
      · exact ⟨trivial, Qi_mk (iv_any 0) I7⟩
      · exact absurd rfl c8
    · have f9 : iv 1 1 (h 0 36) := iv_nel f4 c5 rfl
      refine sf_if (fun c10 => ?_) (fun c10 => ?_)
      · unfold PX12_place_79 FX12_place_79
        have I11 : IM z (hs h 0 0 1) := IMs I (k := 0) (i := 0) (v := 1) (iv_any 1) rfl
        refine sf_if (fun c12 => ?_) (fun c12 => ?_)
        · exact ⟨trivial, Qi_mk (iv_any 0) I11⟩
        · exact absurd rfl c12
      · exact absurd rfl c10
  · have f13 : iv 0 11 a0 := iv_and (iv_any _) (s1.2.2 c2) rfl
    have f14 : iv 1 1 (FX12_isThing a0 h) := iv_nel s1.2.1 c2 rfl
    have f15 : iv 0 300 (h 0 42) := IMv I 0 _
    have f16 : iv 0 3600 (12 * (h 0 42)) := iv_mul (c := 12) rfl f15 rfl
    have f17 : iv 0 3611 ((12 * (h 0 42)) + a0) := iv_add f16 f13 rfl
    refine sf_n (iv_in f17 rfl) ?_
    refine sf_if (fun c18 => ?_) (fun c18 => ?_)
    · have f19 : iv 1 1 (h 25 (((12 * (h 0 42)) + a0).toNatClampNeg)) := iv_eql (iv_any (h 25 (((12 * (h 0 42)) + a0).toNatClampNeg))) (iv_lit (lo := 1) (hi := 1) (x := 1) rfl) c18 rfl
      refine sf_n (iv_in f17 rfl) ?_
      have f20 : iv 0 16 (h 27 (((12 * (h 0 42)) + a0).toNatClampNeg)) := IMv I 27 _
      have f21 : iv (-1) 15 ((h 27 (((12 * (h 0 42)) + a0).toNatClampNeg)) - 1) := iv_sub f20 (iv_lit (lo := 1) (hi := 1) (x := 1) rfl) rfl
      refine sf_n isIn_p ?_
      refine sf_if (fun c22 => ?_) (fun c22 => ?_)
      · have f23 : iv 0 0 (FX12_isIn a1.toInt64 0 (((h 27 (((12 * (h 0 42)) + a0).toNatClampNeg)) - 1).toInt64)) := iv_eql (isIn_b (x := a1.toInt64) (l := 0) (u := ((h 27 (((12 * (h 0 42)) + a0).toNatClampNeg)) - 1).toInt64)) (iv_lit (lo := 0) (hi := 0) (x := 0) rfl) c22 rfl
        unfold PX12_place_56 FX12_place_56
        unfold PX12_place_57 FX12_place_57
        have f24 : iv 0 1 (h 0 36) := IMv I 0 _
        refine sf_if (fun c25 => ?_) (fun c25 => ?_)
        · have f26 : iv 0 0 (h 0 36) := iv_eql f24 (iv_lit (lo := 0) (hi := 0) (x := 0) rfl) c25 rfl
          unfold PX12_place_79 FX12_place_79
          have I27 : IM z (hs h 0 0 2) := IMs I (k := 0) (i := 0) (v := 2) (iv_any 2) rfl
          refine sf_if (fun c28 => ?_) (fun c28 => ?_)
          · exact ⟨trivial, Qi_mk (iv_any 0) I27⟩
          · exact absurd rfl c28
        · have f29 : iv 1 1 (h 0 36) := iv_nel f24 c25 rfl
          refine sf_if (fun c30 => ?_) (fun c30 => ?_)
          · unfold PX12_place_79 FX12_place_79
            have I31 : IM z (hs h 0 0 1) := IMs I (k := 0) (i := 0) (v := 1) (iv_any 1) rfl
            refine sf_if (fun c32 => ?_) (fun c32 => ?_)
            · exact ⟨trivial, Qi_mk (iv_any 0) I31⟩
            · exact absurd rfl c32
          · exact absurd rfl c30
      · have f33 : iv 0 15 a1 := isIn_iv (iv_any a1) (lw_lit (lo := 0) (hi := 0) (x := 0) rfl) (lw_of f21) c22 rfl
        have f34 : iv 1 1 (FX12_isIn a1.toInt64 0 (((h 27 (((12 * (h 0 42)) + a0).toNatClampNeg)) - 1).toInt64)) := iv_nel (isIn_b (x := a1.toInt64) (l := 0) (u := ((h 27 (((12 * (h 0 42)) + a0).toNatClampNeg)) - 1).toInt64)) c22 rfl
        unfold PX12_place_57 FX12_place_57
        have f35 : iv 0 1 (h 0 36) := IMv I 0 _
        refine sf_if (fun c36 => ?_) (fun c36 => ?_)
        · have f37 : iv 0 0 (h 0 36) := iv_eql f35 (iv_lit (lo := 0) (hi := 0) (x := 0) rfl) c36 rfl
          unfold PX12_place_79 FX12_place_79
          have I38 : IM z (hs h 0 0 2) := IMs I (k := 0) (i := 0) (v := 2) (iv_any 2) rfl
          refine sf_if (fun c39 => ?_) (fun c39 => ?_)
          · have f40 : iv 1 0 1 := iv_eql (iv_lit (lo := 1) (hi := 1) (x := 1) rfl) (iv_lit (lo := 0) (hi := 0) (x := 0) rfl) c39 rfl
            exact iv_no f40 rfl
          · have f41 : iv 0 57600 (192 * (h 0 42)) := iv_mul (c := 192) rfl f15 rfl
            have f42 : iv 0 176 (16 * a0) := iv_mul (c := 16) rfl f13 rfl
            have f43 : iv 0 57776 ((192 * (h 0 42)) + (16 * a0)) := iv_add f41 f42 rfl
            have f44 : iv 0 57791 (((192 * (h 0 42)) + (16 * a0)) + a1) := iv_add f43 f33 rfl
            refine sf_n (iv_in f44 rfl) ?_
            exact ⟨trivial, Qi_mk (iv_any (h 28 ((((192 * (h 0 42)) + (16 * a0)) + a1).toNatClampNeg))) I38⟩
        · have f45 : iv 1 1 (h 0 36) := iv_nel f35 c36 rfl
          refine sf_if (fun c46 => ?_) (fun c46 => ?_)
          · have f47 : iv 1 0 1 := iv_eql (iv_lit (lo := 1) (hi := 1) (x := 1) rfl) (iv_lit (lo := 0) (hi := 0) (x := 0) rfl) c46 rfl
            exact iv_no f47 rfl
          · unfold PX12_place_79 FX12_place_79
            have I48 : IM z (hs h 0 0 0) := IMs I (k := 0) (i := 0) (v := 0) (iv_any 0) rfl
            refine sf_if (fun c49 => ?_) (fun c49 => ?_)
            · have f50 : iv 1 0 1 := iv_eql (iv_lit (lo := 1) (hi := 1) (x := 1) rfl) (iv_lit (lo := 0) (hi := 0) (x := 0) rfl) c49 rfl
              exact iv_no f50 rfl
            · have f51 : iv 0 57600 (192 * (h 0 42)) := iv_mul (c := 192) rfl f15 rfl
              have f52 : iv 0 176 (16 * a0) := iv_mul (c := 16) rfl f13 rfl
              have f53 : iv 0 57776 ((192 * (h 0 42)) + (16 * a0)) := iv_add f51 f52 rfl
              have f54 : iv 0 57791 (((192 * (h 0 42)) + (16 * a0)) + a1) := iv_add f53 f33 rfl
              refine sf_n (iv_in f54 rfl) ?_
              exact ⟨trivial, Qi_mk (iv_any (h 28 ((((192 * (h 0 42)) + (16 * a0)) + a1).toNatClampNeg))) I48⟩
    · unfold PX12_place_56 FX12_place_56
      unfold PX12_place_57 FX12_place_57
      have f55 : iv 0 1 (h 0 36) := IMv I 0 _
      refine sf_if (fun c56 => ?_) (fun c56 => ?_)
      · have f57 : iv 0 0 (h 0 36) := iv_eql f55 (iv_lit (lo := 0) (hi := 0) (x := 0) rfl) c56 rfl
        unfold PX12_place_79 FX12_place_79
        have I58 : IM z (hs h 0 0 2) := IMs I (k := 0) (i := 0) (v := 2) (iv_any 2) rfl
        refine sf_if (fun c59 => ?_) (fun c59 => ?_)
        · exact ⟨trivial, Qi_mk (iv_any 0) I58⟩
        · exact absurd rfl c59
      · have f60 : iv 1 1 (h 0 36) := iv_nel f55 c56 rfl
        refine sf_if (fun c61 => ?_) (fun c61 => ?_)
        · unfold PX12_place_79 FX12_place_79
          have I62 : IM z (hs h 0 0 1) := IMs I (k := 0) (i := 0) (v := 1) (iv_any 1) rfl
          refine sf_if (fun c63 => ?_) (fun c63 => ?_)
          · exact ⟨trivial, Qi_mk (iv_any 0) I62⟩
          · exact absurd rfl c63
        · exact absurd rfl c61

-- X12_thread
set_option maxRecDepth 100000 in
set_option maxHeartbeats 4000000 in
theorem SX12_thread {z : zT} (a0 : Int32) (a1 : Int32) (h : ph_H) (I : IM z h) : PX12_thread a0 a1 h ∧ Qi z (-2147483648) 2147483647 (FX12_thread a0 a1 h) := by
  unfold PX12_thread FX12_thread
  have I1 : IM z (hs h 0 0 0) := IMs I (k := 0) (i := 0) (v := 0) (iv_any 0) rfl
  have f2 : iv 0 1 (h 0 36) := IMv I 0 _
  refine sf_if (fun c3 => ?_) (fun c3 => ?_)
  · have f4 : iv 0 0 (h 0 36) := iv_eql f2 (iv_lit (lo := 0) (hi := 0) (x := 0) rfl) c3 rfl
    exact ⟨trivial, Qi_mk (iv_any (-2)) I1⟩
  · have f5 : iv 1 1 (h 0 36) := iv_nel f2 c3 rfl
    refine sf_n isIn_p ?_
    refine sf_if (fun c6 => ?_) (fun c6 => ?_)
    · have f7 : iv 0 0 (FX12_isIn a0.toInt64 0 3) := iv_eql (isIn_b (x := a0.toInt64) (l := 0) (u := 3)) (iv_lit (lo := 0) (hi := 0) (x := 0) rfl) c6 rfl
      exact ⟨trivial, Qi_mk (iv_any (-1)) I1⟩
    · have f8 : iv 0 3 a0 := isIn_iv (iv_any a0) (lw_lit (lo := 0) (hi := 0) (x := 0) rfl) (lw_lit (lo := 3) (hi := 3) (x := 3) rfl) c6 rfl
      have f9 : iv 1 1 (FX12_isIn a0.toInt64 0 3) := iv_nel (isIn_b (x := a0.toInt64) (l := 0) (u := 3)) c6 rfl
      refine sf_n isIn_p ?_
      refine sf_if (fun c10 => ?_) (fun c10 => ?_)
      · have f11 : iv 0 0 (FX12_isIn a1.toInt64 0 1) := iv_eql (isIn_b (x := a1.toInt64) (l := 0) (u := 1)) (iv_lit (lo := 0) (hi := 0) (x := 0) rfl) c10 rfl
        exact ⟨trivial, Qi_mk (iv_any (-1)) I1⟩
      · have f12 : iv 0 1 a1 := isIn_iv (iv_any a1) (lw_lit (lo := 0) (hi := 0) (x := 0) rfl) (lw_lit (lo := 1) (hi := 1) (x := 1) rfl) c10 rfl
        have f13 : iv 1 1 (FX12_isIn a1.toInt64 0 1) := iv_nel (isIn_b (x := a1.toInt64) (l := 0) (u := 1)) c10 rfl
        refine sf_if (fun c14 => ?_) (fun c14 => ?_)
        · have f15 : iv 0 0 a1 := iv_eql f12 (iv_lit (lo := 0) (hi := 0) (x := 0) rfl) c14 rfl
          have f16 : iv 0 300 (h 0 42) := IMv I 0 _
          have f17 : iv 0 1200 (4 * (h 0 42)) := iv_mul (c := 4) rfl f16 rfl
          have f18 : iv 0 1203 ((4 * (h 0 42)) + a0) := iv_add f17 f8 rfl
          refine sf_n (iv_in f18 rfl) ?_
          exact ⟨trivial, Qi_mk (iv_any (h 22 (((4 * (h 0 42)) + a0).toNatClampNeg))) I1⟩
        · have f19 : iv 1 1 a1 := iv_nel f12 c14 rfl
          have f20 : iv 0 300 (h 0 42) := IMv I 0 _
          have f21 : iv 0 1200 (4 * (h 0 42)) := iv_mul (c := 4) rfl f20 rfl
          have f22 : iv 0 1203 ((4 * (h 0 42)) + a0) := iv_add f21 f8 rfl
          refine sf_n (iv_in f22 rfl) ?_
          exact ⟨trivial, Qi_mk (iv_any (h 23 (((4 * (h 0 42)) + a0).toNatClampNeg))) I1⟩

-- X12_last
set_option maxRecDepth 100000 in
set_option maxHeartbeats 4000000 in
theorem SX12_last_36 {z : zT} : ∀ (q : Nat) (x1 : Int32) (x2 : Int32) (x3 : Int32) (x4 : Int32) (h : ph_H), IM z h → iv 0 300 x2 → iv 0 300 x3 → iv 1 301 x4 → 301 - (x4).toInt < ((q : Nat) : Int) → PX12_last_36  q x1 x2 x3 x4 h ∧ Qi z (-2) 300 (FX12_last_36  q x1 x2 x3 x4 h) := by
  intro q
  induction q with
  | zero =>
    intro x1 x2 x3 x4 h I f_x2 f_x3 f_x4 mq
    exact mu_zu f_x4 mq rfl
  | succ q ih =>
    intro x1 x2 x3 x4 h I f_x2 f_x3 f_x4 mq
    unfold PX12_last_36 FX12_last_36
    refine sf_if (fun c1 => ?_) (fun c1 => ?_)
    · exact ⟨trivial, Qi_mk (iv_w (c := (-2)) (d := 300) f_x3 rfl) I⟩
    · have f2 : iv 1 300 x4 := iv_lel f_x4 f_x2 (nlt c1) rfl
      have f3 : iv 1 300 x2 := iv_ler f_x2 f_x4 (nlt c1) rfl
      refine sf_n (iv_in f2 rfl) ?_
      refine sf_if (fun c4 => ?_) (fun c4 => ?_)
      · refine sf_if (fun c5 => ?_) (fun c5 => ?_)
        · have f6 : iv (-2147483648) (-1) x1 := iv_ltl (iv_any x1) (iv_lit (lo := 0) (hi := 0) (x := 0) rfl) c5 rfl
          unfold PX12_last_62 FX12_last_62
          unfold PX12_last_63 FX12_last_63
          have f7 : iv 2 301 (x4 + 1) := iv_add f2 (iv_lit (lo := 1) (hi := 1) (x := 1) rfl) rfl
          exact ih x1 x2 x3 (x4 + 1) h I (iv_w (c := 0) (d := 300) f3 rfl) f_x3 (iv_w (c := 1) (d := 301) f7 rfl) (mu_up f2 mq rfl)
        · have f8 : iv 0 2147483647 x1 := iv_ler (iv_any x1) (iv_lit (lo := 0) (hi := 0) (x := 0) rfl) (nlt c5) rfl
          unfold PX12_last_63 FX12_last_63
          have f9 : iv 2 301 (x4 + 1) := iv_add f2 (iv_lit (lo := 1) (hi := 1) (x := 1) rfl) rfl
          exact ih x1 x2 x4 (x4 + 1) h I (iv_w (c := 0) (d := 300) f3 rfl) (iv_w (c := 0) (d := 300) f2 rfl) (iv_w (c := 1) (d := 301) f9 rfl) (mu_up f2 mq rfl)
      · unfold PX12_last_62 FX12_last_62
        unfold PX12_last_63 FX12_last_63
        have f10 : iv 2 301 (x4 + 1) := iv_add f2 (iv_lit (lo := 1) (hi := 1) (x := 1) rfl) rfl
        exact ih x1 x2 x3 (x4 + 1) h I (iv_w (c := 0) (d := 300) f3 rfl) f_x3 (iv_w (c := 1) (d := 301) f10 rfl) (mu_up f2 mq rfl)
set_option maxRecDepth 100000 in
set_option maxHeartbeats 4000000 in
theorem SX12_last {z : zT} (a0 : Int32) (a1 : Int32) (h : ph_H) (I : IM z h) : PX12_last a0 a1 h ∧ Qi z (-2) 300 (FX12_last a0 a1 h) := by
  unfold PX12_last FX12_last
  have I1 : IM z (hs h 0 0 0) := IMs I (k := 0) (i := 0) (v := 0) (iv_any 0) rfl
  have f2 : iv 0 1 (h 0 36) := IMv I 0 _
  refine sf_if (fun c3 => ?_) (fun c3 => ?_)
  · have f4 : iv 0 0 (h 0 36) := iv_eql f2 (iv_lit (lo := 0) (hi := 0) (x := 0) rfl) c3 rfl
    exact ⟨trivial, Qi_mk (iv_w (c := (-2)) (d := 300) (iv_lit (lo := (-2)) (hi := (-2)) (x := (-2)) rfl) rfl) I1⟩
  · have f5 : iv 1 1 (h 0 36) := iv_nel f2 c3 rfl
    have f6 : iv 0 300 (h 0 38) := IMv I 0 _
    refine sf_n isIn_p ?_
    refine sf_if (fun c7 => ?_) (fun c7 => ?_)
    · have f8 : iv 0 0 (FX12_isIn a1.toInt64 0 ((h 0 38).toInt64)) := iv_eql (isIn_b (x := a1.toInt64) (l := 0) (u := (h 0 38).toInt64)) (iv_lit (lo := 0) (hi := 0) (x := 0) rfl) c7 rfl
      exact ⟨trivial, Qi_mk (iv_w (c := (-2)) (d := 300) (iv_lit (lo := (-1)) (hi := (-1)) (x := (-1)) rfl) rfl) I1⟩
    · have f9 : iv 0 300 a1 := isIn_iv (iv_any a1) (lw_lit (lo := 0) (hi := 0) (x := 0) rfl) (lw_of f6) c7 rfl
      have f10 : iv 1 1 (FX12_isIn a1.toInt64 0 ((h 0 38).toInt64)) := iv_nel (isIn_b (x := a1.toInt64) (l := 0) (u := (h 0 38).toInt64)) c7 rfl
      exact SX12_last_36 2000 a0 a1 0 1 (hs h 0 0 0) I1 f9 (iv_w (c := 0) (d := 300) (iv_lit (lo := 0) (hi := 0) (x := 0) rfl) rfl) (iv_w (c := 1) (d := 301) (iv_lit (lo := 1) (hi := 1) (x := 1) rfl) rfl) (mu_0u (iv_lit (lo := 1) (hi := 1) (x := 1) rfl) rfl)

-- X12_next
set_option maxRecDepth 100000 in
set_option maxHeartbeats 4000000 in
theorem SX12_next_35 {z : zT} : ∀ (q : Nat) (x1 : Int32) (x3 : Int32) (h : ph_H), IM z h → iv 1 301 x3 → 301 - (x3).toInt < ((q : Nat) : Int) → PX12_next_35  q x1 x3 h ∧ Qi z (-2) 300 (FX12_next_35  q x1 x3 h) := by
  intro q
  induction q with
  | zero =>
    intro x1 x3 h I f_x3 mq
    exact mu_zu f_x3 mq rfl
  | succ q ih =>
    intro x1 x3 h I f_x3 mq
    unfold PX12_next_35 FX12_next_35
    have f1 : iv 0 300 (h 0 38) := IMv I 0 _
    refine sf_if (fun c2 => ?_) (fun c2 => ?_)
    · exact ⟨trivial, Qi_mk (iv_w (c := (-2)) (d := 300) (iv_lit (lo := 0) (hi := 0) (x := 0) rfl) rfl) I⟩
    · have f3 : iv 1 300 x3 := iv_lel f_x3 f1 (nlt c2) rfl
      have f4 : iv 1 300 (h 0 38) := iv_ler f1 f_x3 (nlt c2) rfl
      refine sf_n (iv_in f3 rfl) ?_
      refine sf_if (fun c5 => ?_) (fun c5 => ?_)
      · refine sf_if (fun c6 => ?_) (fun c6 => ?_)
        · have f7 : iv (-2147483648) (-1) x1 := iv_ltl (iv_any x1) (iv_lit (lo := 0) (hi := 0) (x := 0) rfl) c6 rfl
          unfold PX12_next_59 FX12_next_59
          have f8 : iv 2 301 (x3 + 1) := iv_add f3 (iv_lit (lo := 1) (hi := 1) (x := 1) rfl) rfl
          exact ih x1 (x3 + 1) h I (iv_w (c := 1) (d := 301) f8 rfl) (mu_up f3 mq rfl)
        · have f9 : iv 0 2147483647 x1 := iv_ler (iv_any x1) (iv_lit (lo := 0) (hi := 0) (x := 0) rfl) (nlt c6) rfl
          exact ⟨trivial, Qi_mk (iv_w (c := (-2)) (d := 300) f3 rfl) I⟩
      · unfold PX12_next_59 FX12_next_59
        have f10 : iv 2 301 (x3 + 1) := iv_add f3 (iv_lit (lo := 1) (hi := 1) (x := 1) rfl) rfl
        exact ih x1 (x3 + 1) h I (iv_w (c := 1) (d := 301) f10 rfl) (mu_up f3 mq rfl)
set_option maxRecDepth 100000 in
set_option maxHeartbeats 4000000 in
theorem SX12_next {z : zT} (a0 : Int32) (a1 : Int32) (h : ph_H) (I : IM z h) : PX12_next a0 a1 h ∧ Qi z (-2) 300 (FX12_next a0 a1 h) := by
  unfold PX12_next FX12_next
  have I1 : IM z (hs h 0 0 0) := IMs I (k := 0) (i := 0) (v := 0) (iv_any 0) rfl
  have f2 : iv 0 1 (h 0 36) := IMv I 0 _
  refine sf_if (fun c3 => ?_) (fun c3 => ?_)
  · have f4 : iv 0 0 (h 0 36) := iv_eql f2 (iv_lit (lo := 0) (hi := 0) (x := 0) rfl) c3 rfl
    exact ⟨trivial, Qi_mk (iv_w (c := (-2)) (d := 300) (iv_lit (lo := (-2)) (hi := (-2)) (x := (-2)) rfl) rfl) I1⟩
  · have f5 : iv 1 1 (h 0 36) := iv_nel f2 c3 rfl
    have f6 : iv 0 300 (h 0 38) := IMv I 0 _
    refine sf_n isIn_p ?_
    refine sf_if (fun c7 => ?_) (fun c7 => ?_)
    · have f8 : iv 0 0 (FX12_isIn a1.toInt64 0 ((h 0 38).toInt64)) := iv_eql (isIn_b (x := a1.toInt64) (l := 0) (u := (h 0 38).toInt64)) (iv_lit (lo := 0) (hi := 0) (x := 0) rfl) c7 rfl
      exact ⟨trivial, Qi_mk (iv_w (c := (-2)) (d := 300) (iv_lit (lo := (-1)) (hi := (-1)) (x := (-1)) rfl) rfl) I1⟩
    · have f9 : iv 0 300 a1 := isIn_iv (iv_any a1) (lw_lit (lo := 0) (hi := 0) (x := 0) rfl) (lw_of f6) c7 rfl
      have f10 : iv 1 1 (FX12_isIn a1.toInt64 0 ((h 0 38).toInt64)) := iv_nel (isIn_b (x := a1.toInt64) (l := 0) (u := (h 0 38).toInt64)) c7 rfl
      have f11 : iv 1 301 (a1 + 1) := iv_add f9 (iv_lit (lo := 1) (hi := 1) (x := 1) rfl) rfl
      exact SX12_next_35 2000 a0 (a1 + 1) (hs h 0 0 0) I1 f11 (mu_0u f11 rfl)

-- X12_when
set_option maxRecDepth 100000 in
set_option maxHeartbeats 4000000 in
theorem SX12_when_54 {z : zT} : ∀ (q : Nat) (x1 : Int32) (x2 : Int32) (x3 : Int32) (x4 : Int32) (x5 : Int32) (x6 : Int32) (x7 : Int32) (x8 : Int32) (h : ph_H), IM z h → iv 0 11 x1 → iv 0 2 x4 → iv 0 1 x6 → iv (-1) 300 x7 → iv 0 302 x8 → 302 - (x8).toInt < ((q : Nat) : Int) → PX12_when_54  q x1 x2 x3 x4 x5 x6 x7 x8 h ∧ Qi z (-2147483648) 2147483647 (FX12_when_54  q x1 x2 x3 x4 x5 x6 x7 x8 h) := by
  intro q
  induction q with
  | zero =>
    intro x1 x2 x3 x4 x5 x6 x7 x8 h I f_x1 f_x4 f_x6 f_x7 f_x8 mq
    exact mu_zu f_x8 mq rfl
  | succ q ih =>
    intro x1 x2 x3 x4 x5 x6 x7 x8 h I f_x1 f_x4 f_x6 f_x7 f_x8 mq
    unfold PX12_when_54 FX12_when_54
    have f1 : iv 0 300 (h 0 38) := IMv I 0 _
    have f2 : iv 1 301 ((h 0 38) + 1) := iv_add f1 (iv_lit (lo := 1) (hi := 1) (x := 1) rfl) rfl
    refine sf_if (fun c3 => ?_) (fun c3 => ?_)
    · have f4 : iv 2 302 x8 := iv_ltr f_x8 f2 c3 rfl
      refine sf_if (fun c5 => ?_) (fun c5 => ?_)
      · have f6 : iv 0 0 x4 := iv_eql f_x4 (iv_lit (lo := 0) (hi := 0) (x := 0) rfl) c5 rfl
        exact ⟨trivial, Qi_mk (iv_any x5) I⟩
      · have f7 : iv 1 2 x4 := iv_nel f_x4 c5 rfl
        exact ⟨trivial, Qi_mk (iv_any (-1)) I⟩
    · have f8 : iv 0 301 x8 := iv_lel f_x8 f2 (nlt c3) rfl
      refine sf_if (fun c9 => ?_) (fun c9 => ?_)
      · have f10 : iv 1 301 x8 := iv_ltr f8 f1 c9 rfl
        unfold PX12_when_109 FX12_when_109
        unfold PX12_when_110 FX12_when_110
        refine sf_if (fun c11 => ?_) (fun c11 => ?_)
        · unfold PX12_when_126 FX12_when_126
          refine sf_if (fun c12 => ?_) (fun c12 => ?_)
          · refine sf_if (fun c13 => ?_) (fun c13 => ?_)
            · have f14 : iv 0 0 x6 := iv_eql f_x6 (iv_lit (lo := 0) (hi := 0) (x := 0) rfl) c13 rfl
              unfold PX12_when_166 FX12_when_166
              have f15 : iv 2 302 (x8 + 1) := iv_add f10 (iv_lit (lo := 1) (hi := 1) (x := 1) rfl) rfl
              exact ih x1 x2 x3 x4 x5 0 x7 (x8 + 1) h I f_x1 f_x4 (iv_w (c := 0) (d := 1) (iv_lit (lo := 0) (hi := 0) (x := 0) rfl) rfl) f_x7 (iv_w (c := 0) (d := 302) f15 rfl) (mu_up f10 mq rfl)
            · have f16 : iv 1 1 x6 := iv_nel f_x6 c13 rfl
              refine sf_if (fun c17 => ?_) (fun c17 => ?_)
              · refine sf_if (fun c18 => ?_) (fun c18 => ?_)
                · have f19 : iv 0 0 x4 := iv_lel f_x4 (iv_lit (lo := 0) (hi := 0) (x := 0) rfl) c18 rfl
                  unfold PX12_when_163 FX12_when_163
                  unfold PX12_when_166 FX12_when_166
                  have f20 : iv 2 302 (x8 + 1) := iv_add f10 (iv_lit (lo := 1) (hi := 1) (x := 1) rfl) rfl
                  exact ih x1 x2 x3 x4 (x5 + 1) 0 x7 (x8 + 1) h I f_x1 (iv_w (c := 0) (d := 2) f19 rfl) (iv_w (c := 0) (d := 1) (iv_lit (lo := 0) (hi := 0) (x := 0) rfl) rfl) f_x7 (iv_w (c := 0) (d := 302) f20 rfl) (mu_up f10 mq rfl)
                · have f21 : iv 1 2 x4 := iv_ltr f_x4 (iv_lit (lo := 0) (hi := 0) (x := 0) rfl) (nle c18) rfl
                  refine sf_if (fun c22 => ?_) (fun c22 => ?_)
                  · have f23 : iv 1 1 x4 := iv_eql f21 (iv_lit (lo := 1) (hi := 1) (x := 1) rfl) c22 rfl
                    exact ⟨trivial, Qi_mk (iv_any x7) I⟩
                  · have f24 : iv 2 2 x4 := iv_nel f21 c22 rfl
                    have f25 : iv 0 300 (x8 - 1) := iv_sub f10 (iv_lit (lo := 1) (hi := 1) (x := 1) rfl) rfl
                    exact ⟨trivial, Qi_mk (iv_any (x8 - 1)) I⟩
              · unfold PX12_when_163 FX12_when_163
                unfold PX12_when_166 FX12_when_166
                have f26 : iv 2 302 (x8 + 1) := iv_add f10 (iv_lit (lo := 1) (hi := 1) (x := 1) rfl) rfl
                exact ih x1 x2 x3 x4 (x5 + 1) 0 x7 (x8 + 1) h I f_x1 f_x4 (iv_w (c := 0) (d := 1) (iv_lit (lo := 0) (hi := 0) (x := 0) rfl) rfl) f_x7 (iv_w (c := 0) (d := 302) f26 rfl) (mu_up f10 mq rfl)
          · exact absurd rfl c12
        · exact absurd rfl c11
      · have f27 : iv 0 300 x8 := iv_lel f8 f1 (nlt c9) rfl
        have f28 : iv 0 8400 (28 * x8) := iv_mul (c := 28) rfl f27 rfl
        have f29 : iv 0 8411 ((28 * x8) + x1) := iv_add f28 f_x1 rfl
        refine sf_n (iv_in f29 rfl) ?_
        refine sf_if (fun c30 => ?_) (fun c30 => ?_)
        · have f31 : iv 0 0 (h 20 (((28 * x8) + x1).toNatClampNeg)) := iv_eql (iv_any (h 20 (((28 * x8) + x1).toNatClampNeg))) (iv_lit (lo := 0) (hi := 0) (x := 0) rfl) c30 rfl
          refine sf_n (iv_in f29 rfl) ?_
          refine sf_if (fun c32 => ?_) (fun c32 => ?_)
          · unfold PX12_when_110 FX12_when_110
            refine sf_if (fun c33 => ?_) (fun c33 => ?_)
            · have f34 : iv 1 0 1 := iv_eql (iv_lit (lo := 1) (hi := 1) (x := 1) rfl) (iv_lit (lo := 0) (hi := 0) (x := 0) rfl) c33 rfl
              exact iv_no f34 rfl
            · refine sf_if (fun c35 => ?_) (fun c35 => ?_)
              · have f36 : iv 0 0 x6 := iv_eql f_x6 (iv_lit (lo := 0) (hi := 0) (x := 0) rfl) c35 rfl
                unfold PX12_when_126 FX12_when_126
                refine sf_if (fun c37 => ?_) (fun c37 => ?_)
                · have f38 : iv 1 0 1 := iv_eql (iv_lit (lo := 1) (hi := 1) (x := 1) rfl) (iv_lit (lo := 0) (hi := 0) (x := 0) rfl) c37 rfl
                  exact iv_no f38 rfl
                · unfold PX12_when_166 FX12_when_166
                  have f39 : iv 1 301 (x8 + 1) := iv_add f27 (iv_lit (lo := 1) (hi := 1) (x := 1) rfl) rfl
                  exact ih x1 x2 x3 x4 x5 1 x8 (x8 + 1) h I f_x1 f_x4 (iv_w (c := 0) (d := 1) (iv_lit (lo := 1) (hi := 1) (x := 1) rfl) rfl) (iv_w (c := (-1)) (d := 300) f27 rfl) (iv_w (c := 0) (d := 302) f39 rfl) (mu_up f27 mq rfl)
              · have f40 : iv 1 1 x6 := iv_nel f_x6 c35 rfl
                unfold PX12_when_126 FX12_when_126
                refine sf_if (fun c41 => ?_) (fun c41 => ?_)
                · have f42 : iv 1 0 1 := iv_eql (iv_lit (lo := 1) (hi := 1) (x := 1) rfl) (iv_lit (lo := 0) (hi := 0) (x := 0) rfl) c41 rfl
                  exact iv_no f42 rfl
                · unfold PX12_when_166 FX12_when_166
                  have f43 : iv 1 301 (x8 + 1) := iv_add f27 (iv_lit (lo := 1) (hi := 1) (x := 1) rfl) rfl
                  exact ih x1 x2 x3 x4 x5 1 x7 (x8 + 1) h I f_x1 f_x4 (iv_w (c := 0) (d := 1) (iv_lit (lo := 1) (hi := 1) (x := 1) rfl) rfl) f_x7 (iv_w (c := 0) (d := 302) f43 rfl) (mu_up f27 mq rfl)
          · unfold PX12_when_109 FX12_when_109
            unfold PX12_when_110 FX12_when_110
            refine sf_if (fun c44 => ?_) (fun c44 => ?_)
            · unfold PX12_when_126 FX12_when_126
              refine sf_if (fun c45 => ?_) (fun c45 => ?_)
              · refine sf_if (fun c46 => ?_) (fun c46 => ?_)
                · have f47 : iv 0 0 x6 := iv_eql f_x6 (iv_lit (lo := 0) (hi := 0) (x := 0) rfl) c46 rfl
                  unfold PX12_when_166 FX12_when_166
                  have f48 : iv 1 301 (x8 + 1) := iv_add f27 (iv_lit (lo := 1) (hi := 1) (x := 1) rfl) rfl
                  exact ih x1 x2 x3 x4 x5 0 x7 (x8 + 1) h I f_x1 f_x4 (iv_w (c := 0) (d := 1) (iv_lit (lo := 0) (hi := 0) (x := 0) rfl) rfl) f_x7 (iv_w (c := 0) (d := 302) f48 rfl) (mu_up f27 mq rfl)
                · have f49 : iv 1 1 x6 := iv_nel f_x6 c46 rfl
                  refine sf_if (fun c50 => ?_) (fun c50 => ?_)
                  · refine sf_if (fun c51 => ?_) (fun c51 => ?_)
                    · have f52 : iv 0 0 x4 := iv_lel f_x4 (iv_lit (lo := 0) (hi := 0) (x := 0) rfl) c51 rfl
                      unfold PX12_when_163 FX12_when_163
                      unfold PX12_when_166 FX12_when_166
                      have f53 : iv 1 301 (x8 + 1) := iv_add f27 (iv_lit (lo := 1) (hi := 1) (x := 1) rfl) rfl
                      exact ih x1 x2 x3 x4 (x5 + 1) 0 x7 (x8 + 1) h I f_x1 (iv_w (c := 0) (d := 2) f52 rfl) (iv_w (c := 0) (d := 1) (iv_lit (lo := 0) (hi := 0) (x := 0) rfl) rfl) f_x7 (iv_w (c := 0) (d := 302) f53 rfl) (mu_up f27 mq rfl)
                    · have f54 : iv 1 2 x4 := iv_ltr f_x4 (iv_lit (lo := 0) (hi := 0) (x := 0) rfl) (nle c51) rfl
                      refine sf_if (fun c55 => ?_) (fun c55 => ?_)
                      · have f56 : iv 1 1 x4 := iv_eql f54 (iv_lit (lo := 1) (hi := 1) (x := 1) rfl) c55 rfl
                        exact ⟨trivial, Qi_mk (iv_any x7) I⟩
                      · have f57 : iv 2 2 x4 := iv_nel f54 c55 rfl
                        have f58 : iv (-1) 299 (x8 - 1) := iv_sub f27 (iv_lit (lo := 1) (hi := 1) (x := 1) rfl) rfl
                        exact ⟨trivial, Qi_mk (iv_any (x8 - 1)) I⟩
                  · unfold PX12_when_163 FX12_when_163
                    unfold PX12_when_166 FX12_when_166
                    have f59 : iv 1 301 (x8 + 1) := iv_add f27 (iv_lit (lo := 1) (hi := 1) (x := 1) rfl) rfl
                    exact ih x1 x2 x3 x4 (x5 + 1) 0 x7 (x8 + 1) h I f_x1 f_x4 (iv_w (c := 0) (d := 1) (iv_lit (lo := 0) (hi := 0) (x := 0) rfl) rfl) f_x7 (iv_w (c := 0) (d := 302) f59 rfl) (mu_up f27 mq rfl)
              · exact absurd rfl c45
            · exact absurd rfl c44
        · unfold PX12_when_109 FX12_when_109
          unfold PX12_when_110 FX12_when_110
          refine sf_if (fun c60 => ?_) (fun c60 => ?_)
          · unfold PX12_when_126 FX12_when_126
            refine sf_if (fun c61 => ?_) (fun c61 => ?_)
            · refine sf_if (fun c62 => ?_) (fun c62 => ?_)
              · have f63 : iv 0 0 x6 := iv_eql f_x6 (iv_lit (lo := 0) (hi := 0) (x := 0) rfl) c62 rfl
                unfold PX12_when_166 FX12_when_166
                have f64 : iv 1 301 (x8 + 1) := iv_add f27 (iv_lit (lo := 1) (hi := 1) (x := 1) rfl) rfl
                exact ih x1 x2 x3 x4 x5 0 x7 (x8 + 1) h I f_x1 f_x4 (iv_w (c := 0) (d := 1) (iv_lit (lo := 0) (hi := 0) (x := 0) rfl) rfl) f_x7 (iv_w (c := 0) (d := 302) f64 rfl) (mu_up f27 mq rfl)
              · have f65 : iv 1 1 x6 := iv_nel f_x6 c62 rfl
                refine sf_if (fun c66 => ?_) (fun c66 => ?_)
                · refine sf_if (fun c67 => ?_) (fun c67 => ?_)
                  · have f68 : iv 0 0 x4 := iv_lel f_x4 (iv_lit (lo := 0) (hi := 0) (x := 0) rfl) c67 rfl
                    unfold PX12_when_163 FX12_when_163
                    unfold PX12_when_166 FX12_when_166
                    have f69 : iv 1 301 (x8 + 1) := iv_add f27 (iv_lit (lo := 1) (hi := 1) (x := 1) rfl) rfl
                    exact ih x1 x2 x3 x4 (x5 + 1) 0 x7 (x8 + 1) h I f_x1 (iv_w (c := 0) (d := 2) f68 rfl) (iv_w (c := 0) (d := 1) (iv_lit (lo := 0) (hi := 0) (x := 0) rfl) rfl) f_x7 (iv_w (c := 0) (d := 302) f69 rfl) (mu_up f27 mq rfl)
                  · have f70 : iv 1 2 x4 := iv_ltr f_x4 (iv_lit (lo := 0) (hi := 0) (x := 0) rfl) (nle c67) rfl
                    refine sf_if (fun c71 => ?_) (fun c71 => ?_)
                    · have f72 : iv 1 1 x4 := iv_eql f70 (iv_lit (lo := 1) (hi := 1) (x := 1) rfl) c71 rfl
                      exact ⟨trivial, Qi_mk (iv_any x7) I⟩
                    · have f73 : iv 2 2 x4 := iv_nel f70 c71 rfl
                      have f74 : iv (-1) 299 (x8 - 1) := iv_sub f27 (iv_lit (lo := 1) (hi := 1) (x := 1) rfl) rfl
                      exact ⟨trivial, Qi_mk (iv_any (x8 - 1)) I⟩
                · unfold PX12_when_163 FX12_when_163
                  unfold PX12_when_166 FX12_when_166
                  have f75 : iv 1 301 (x8 + 1) := iv_add f27 (iv_lit (lo := 1) (hi := 1) (x := 1) rfl) rfl
                  exact ih x1 x2 x3 x4 (x5 + 1) 0 x7 (x8 + 1) h I f_x1 f_x4 (iv_w (c := 0) (d := 1) (iv_lit (lo := 0) (hi := 0) (x := 0) rfl) rfl) f_x7 (iv_w (c := 0) (d := 302) f75 rfl) (mu_up f27 mq rfl)
            · exact absurd rfl c61
          · exact absurd rfl c60
set_option maxRecDepth 100000 in
set_option maxHeartbeats 4000000 in
theorem SX12_when {z : zT} (a0 : Int32) (a1 : Int32) (a2 : Int32) (a3 : Int32) (h : ph_H) (I : IM z h) : PX12_when a0 a1 a2 a3 h ∧ Qi z (-2147483648) 2147483647 (FX12_when a0 a1 a2 a3 h) := by
  unfold PX12_when FX12_when
  have I1 : IM z (hs h 0 0 0) := IMs I (k := 0) (i := 0) (v := 0) (iv_any 0) rfl
  have f2 : iv 0 1 (h 0 36) := IMv I 0 _
  refine sf_if (fun c3 => ?_) (fun c3 => ?_)
  · have f4 : iv 0 0 (h 0 36) := iv_eql f2 (iv_lit (lo := 0) (hi := 0) (x := 0) rfl) c3 rfl
    exact ⟨trivial, Qi_mk (iv_any (-2)) I1⟩
  · have f5 : iv 1 1 (h 0 36) := iv_nel f2 c3 rfl
    refine sf_n isIn_p ?_
    refine sf_if (fun c6 => ?_) (fun c6 => ?_)
    · have f7 : iv 0 0 (FX12_isIn a0.toInt64 0 11) := iv_eql (isIn_b (x := a0.toInt64) (l := 0) (u := 11)) (iv_lit (lo := 0) (hi := 0) (x := 0) rfl) c6 rfl
      exact ⟨trivial, Qi_mk (iv_any (-1)) I1⟩
    · have f8 : iv 0 11 a0 := isIn_iv (iv_any a0) (lw_lit (lo := 0) (hi := 0) (x := 0) rfl) (lw_lit (lo := 11) (hi := 11) (x := 11) rfl) c6 rfl
      have f9 : iv 1 1 (FX12_isIn a0.toInt64 0 11) := iv_nel (isIn_b (x := a0.toInt64) (l := 0) (u := 11)) c6 rfl
      refine sf_n isIn_p ?_
      refine sf_if (fun c10 => ?_) (fun c10 => ?_)
      · have f11 : iv 0 0 (FX12_isIn a3.toInt64 0 2) := iv_eql (isIn_b (x := a3.toInt64) (l := 0) (u := 2)) (iv_lit (lo := 0) (hi := 0) (x := 0) rfl) c10 rfl
        exact ⟨trivial, Qi_mk (iv_any (-1)) I1⟩
      · have f12 : iv 0 2 a3 := isIn_iv (iv_any a3) (lw_lit (lo := 0) (hi := 0) (x := 0) rfl) (lw_lit (lo := 2) (hi := 2) (x := 2) rfl) c10 rfl
        have f13 : iv 1 1 (FX12_isIn a3.toInt64 0 2) := iv_nel (isIn_b (x := a3.toInt64) (l := 0) (u := 2)) c10 rfl
        exact SX12_when_54 2000 a0 a1 a2 a3 0 0 (-1) 0 (hs h 0 0 0) I1 f8 f12 (iv_w (c := 0) (d := 1) (iv_lit (lo := 0) (hi := 0) (x := 0) rfl) rfl) (iv_w (c := (-1)) (d := 300) (iv_lit (lo := (-1)) (hi := (-1)) (x := (-1)) rfl) rfl) (iv_w (c := 0) (d := 302) (iv_lit (lo := 0) (hi := 0) (x := 0) rfl) rfl) (mu_0u (iv_lit (lo := 0) (hi := 0) (x := 0) rfl) rfl)

-- X12_isWaking
set_option maxRecDepth 100000 in
set_option maxHeartbeats 4000000 in
theorem SX12_isWaking_105 {z : zT} : ∀ (q : Nat) (x1 : Int32) (x4 : Int32) (x5 : Int32) (h : ph_H), IM z h → iv 1 300 x1 → iv 0 1 x4 → iv 1 301 x5 → 301 - (x5).toInt < ((q : Nat) : Int) → PX12_isWaking_105  q x1 x4 x5 h ∧ iv 0 1 (FX12_isWaking_105  q x1 x4 x5 h) := by
  intro q
  induction q with
  | zero =>
    intro x1 x4 x5 h I f_x1 f_x4 f_x5 mq
    exact mu_zu f_x5 mq rfl
  | succ q ih =>
    intro x1 x4 x5 h I f_x1 f_x4 f_x5 mq
    unfold PX12_isWaking_105 FX12_isWaking_105
    refine sf_if (fun c1 => ?_) (fun c1 => ?_)
    · refine sf_n (iv_bo f_x4) ?_
      exact ⟨trivial, f_x4⟩
    · have f2 : iv 1 299 x5 := iv_ltl f_x5 f_x1 (nle c1) rfl
      have f3 : iv 2 300 x1 := iv_ltr f_x1 f_x5 (nle c1) rfl
      refine sf_if (fun c4 => ?_) (fun c4 => ?_)
      · have f5 : iv 0 0 x4 := iv_eql f_x4 (iv_lit (lo := 0) (hi := 0) (x := 0) rfl) c4 rfl
        unfold PX12_isWaking_147 FX12_isWaking_147
        unfold PX12_isWaking_148 FX12_isWaking_148
        have f6 : iv 2 300 (x5 + 1) := iv_add f2 (iv_lit (lo := 1) (hi := 1) (x := 1) rfl) rfl
        exact ih x1 0 (x5 + 1) h I (iv_w (c := 1) (d := 300) f3 rfl) (iv_w (c := 0) (d := 1) (iv_lit (lo := 0) (hi := 0) (x := 0) rfl) rfl) (iv_w (c := 1) (d := 301) f6 rfl) (mu_up f2 mq rfl)
      · have f7 : iv 1 1 x4 := iv_nel f_x4 c4 rfl
        refine sf_n (iv_in f2 rfl) ?_
        refine sf_if (fun c8 => ?_) (fun c8 => ?_)
        · have f9 : iv 3 3 (h 34 (x5.toNatClampNeg)) := iv_eql (iv_any (h 34 (x5.toNatClampNeg))) (iv_lit (lo := 3) (hi := 3) (x := 3) rfl) c8 rfl
          refine sf_n (iv_in f2 rfl) ?_
          refine sf_n (iv_in f3 rfl) ?_
          refine sf_if (fun c10 => ?_) (fun c10 => ?_)
          · unfold PX12_isWaking_147 FX12_isWaking_147
            unfold PX12_isWaking_148 FX12_isWaking_148
            have f11 : iv 2 300 (x5 + 1) := iv_add f2 (iv_lit (lo := 1) (hi := 1) (x := 1) rfl) rfl
            exact ih x1 0 (x5 + 1) h I (iv_w (c := 1) (d := 300) f3 rfl) (iv_w (c := 0) (d := 1) (iv_lit (lo := 0) (hi := 0) (x := 0) rfl) rfl) (iv_w (c := 1) (d := 301) f11 rfl) (mu_up f2 mq rfl)
          · unfold PX12_isWaking_143 FX12_isWaking_143
            unfold PX12_isWaking_148 FX12_isWaking_148
            have f12 : iv 2 300 (x5 + 1) := iv_add f2 (iv_lit (lo := 1) (hi := 1) (x := 1) rfl) rfl
            exact ih x1 1 (x5 + 1) h I (iv_w (c := 1) (d := 300) f3 rfl) (iv_w (c := 0) (d := 1) (iv_lit (lo := 1) (hi := 1) (x := 1) rfl) rfl) (iv_w (c := 1) (d := 301) f12 rfl) (mu_up f2 mq rfl)
        · unfold PX12_isWaking_143 FX12_isWaking_143
          unfold PX12_isWaking_148 FX12_isWaking_148
          have f13 : iv 2 300 (x5 + 1) := iv_add f2 (iv_lit (lo := 1) (hi := 1) (x := 1) rfl) rfl
          exact ih x1 1 (x5 + 1) h I (iv_w (c := 1) (d := 300) f3 rfl) (iv_w (c := 0) (d := 1) (iv_lit (lo := 1) (hi := 1) (x := 1) rfl) rfl) (iv_w (c := 1) (d := 301) f13 rfl) (mu_up f2 mq rfl)
set_option maxRecDepth 100000 in
set_option maxHeartbeats 4000000 in
theorem SX12_isWaking_53 {z : zT} : ∀ (q : Nat) (x1 : Int32) (x2 : Int32) (x3 : Int32) (x4 : Int32) (h : ph_H), IM z h → iv 1 300 x1 → iv 1 300 x2 → iv 0 300 x3 → iv 1 300 x4 → 300 - (x4).toInt < ((q : Nat) : Int) → PX12_isWaking_53  q x1 x2 x3 x4 h ∧ iv 0 1 (FX12_isWaking_53  q x1 x2 x3 x4 h) := by
  intro q
  induction q with
  | zero =>
    intro x1 x2 x3 x4 h I f_x1 f_x2 f_x3 f_x4 mq
    exact mu_zu f_x4 mq rfl
  | succ q ih =>
    intro x1 x2 x3 x4 h I f_x1 f_x2 f_x3 f_x4 mq
    unfold PX12_isWaking_53 FX12_isWaking_53
    refine sf_if (fun c1 => ?_) (fun c1 => ?_)
    · refine sf_if (fun c2 => ?_) (fun c2 => ?_)
      · have f3 : iv 1 300 x3 := iv_ler f_x3 f_x1 c2 rfl
        unfold PX12_isWaking_98 FX12_isWaking_98
        have f4 : iv 2 301 (x3 + 1) := iv_add f3 (iv_lit (lo := 1) (hi := 1) (x := 1) rfl) rfl
        exact SX12_isWaking_105 2000 x1 0 (x3 + 1) h I f_x1 (iv_w (c := 0) (d := 1) (iv_lit (lo := 0) (hi := 0) (x := 0) rfl) rfl) (iv_w (c := 1) (d := 301) f4 rfl) (mu_0u f4 rfl)
      · have f5 : iv 0 299 x3 := iv_ltl f_x3 f_x1 (nle c2) rfl
        unfold PX12_isWaking_98 FX12_isWaking_98
        have f6 : iv 1 300 (x3 + 1) := iv_add f5 (iv_lit (lo := 1) (hi := 1) (x := 1) rfl) rfl
        exact SX12_isWaking_105 2000 x1 1 (x3 + 1) h I f_x1 (iv_w (c := 0) (d := 1) (iv_lit (lo := 1) (hi := 1) (x := 1) rfl) rfl) (iv_w (c := 1) (d := 301) f6 rfl) (mu_0u f6 rfl)
    · have f7 : iv 1 299 x4 := iv_ltl f_x4 f_x2 (nle c1) rfl
      have f8 : iv 2 300 x2 := iv_ltr f_x2 f_x4 (nle c1) rfl
      refine sf_n (iv_in f7 rfl) ?_
      refine sf_n (iv_in f8 rfl) ?_
      refine sf_if (fun c9 => ?_) (fun c9 => ?_)
      · unfold PX12_isWaking_81 FX12_isWaking_81
        have f10 : iv 2 300 (x4 + 1) := iv_add f7 (iv_lit (lo := 1) (hi := 1) (x := 1) rfl) rfl
        exact ih x1 x2 x4 (x4 + 1) h I f_x1 (iv_w (c := 1) (d := 300) f8 rfl) (iv_w (c := 0) (d := 300) f7 rfl) (iv_w (c := 1) (d := 300) f10 rfl) (mu_up f7 mq rfl)
      · unfold PX12_isWaking_81 FX12_isWaking_81
        have f11 : iv 2 300 (x4 + 1) := iv_add f7 (iv_lit (lo := 1) (hi := 1) (x := 1) rfl) rfl
        exact ih x1 x2 x3 (x4 + 1) h I f_x1 (iv_w (c := 1) (d := 300) f8 rfl) f_x3 (iv_w (c := 1) (d := 300) f11 rfl) (mu_up f7 mq rfl)
set_option maxRecDepth 100000 in
set_option maxHeartbeats 4000000 in
theorem SX12_isWaking {z : zT} (a0 : Int32) (a1 : Int32) (h : ph_H) (I : IM z h) (f_a0 : iv 1 300 a0) (f_a1 : iv 1 300 a1) : PX12_isWaking a0 a1 h ∧ iv 0 1 (FX12_isWaking a0 a1 h) := by
  unfold PX12_isWaking FX12_isWaking
  refine sf_n (iv_in f_a0 rfl) ?_
  refine sf_if (fun c1 => ?_) (fun c1 => ?_)
  · have f2 : iv 3 3 (h 34 (a0.toNatClampNeg)) := iv_eql (iv_any (h 34 (a0.toNatClampNeg))) (iv_lit (lo := 3) (hi := 3) (x := 3) rfl) c1 rfl
    refine sf_n (iv_in f_a1 rfl) ?_
    refine sf_if (fun c3 => ?_) (fun c3 => ?_)
    · have f4 : iv 14 14 (h 31 (a1.toNatClampNeg)) := iv_eql (iv_any (h 31 (a1.toNatClampNeg))) (iv_lit (lo := 14) (hi := 14) (x := 14) rfl) c3 rfl
      refine sf_n (iv_in f_a1 rfl) ?_
      refine sf_if (fun c5 => ?_) (fun c5 => ?_)
      · have f6 : iv 1 1 (h 34 (a1.toNatClampNeg)) := iv_eql (iv_any (h 34 (a1.toNatClampNeg))) (iv_lit (lo := 1) (hi := 1) (x := 1) rfl) c5 rfl
        refine sf_n (iv_in f_a0 rfl) ?_
        refine sf_n (iv_in f_a1 rfl) ?_
        refine sf_if (fun c7 => ?_) (fun c7 => ?_)
        · exact SX12_isWaking_53 2000 a0 a1 0 1 h I f_a0 f_a1 (iv_w (c := 0) (d := 300) (iv_lit (lo := 0) (hi := 0) (x := 0) rfl) rfl) (iv_w (c := 1) (d := 300) (iv_lit (lo := 1) (hi := 1) (x := 1) rfl) rfl) (mu_0u (iv_lit (lo := 1) (hi := 1) (x := 1) rfl) rfl)
        · exact ⟨trivial, (iv_w (c := 0) (d := 1) (iv_lit (lo := 0) (hi := 0) (x := 0) rfl) rfl)⟩
      · exact ⟨trivial, (iv_w (c := 0) (d := 1) (iv_lit (lo := 0) (hi := 0) (x := 0) rfl) rfl)⟩
    · exact ⟨trivial, (iv_w (c := 0) (d := 1) (iv_lit (lo := 0) (hi := 0) (x := 0) rfl) rfl)⟩
  · exact ⟨trivial, (iv_w (c := 0) (d := 1) (iv_lit (lo := 0) (hi := 0) (x := 0) rfl) rfl)⟩

-- X12_isDirect
set_option maxRecDepth 100000 in
set_option maxHeartbeats 4000000 in
theorem SX12_isDirect {z : zT} (a0 : Int32) (a1 : Int32) (h : ph_H) (I : IM z h) (f_a0 : iv 1 300 a0) (f_a1 : iv 1 300 a1) : PX12_isDirect a0 a1 h ∧ iv 0 1 (FX12_isDirect a0 a1 h) := by
  unfold PX12_isDirect FX12_isDirect
  refine sf_n (iv_in f_a0 rfl) ?_
  refine sf_n (iv_in f_a1 rfl) ?_
  refine sf_if (fun c1 => ?_) (fun c1 => ?_)
  · exact ⟨trivial, (iv_w (c := 0) (d := 1) (iv_lit (lo := 1) (hi := 1) (x := 1) rfl) rfl)⟩
  · refine sf_n (iv_in f_a0 rfl) ?_
    refine sf_if (fun c2 => ?_) (fun c2 => ?_)
    · have f3 : iv 2 2 (h 34 (a0.toNatClampNeg)) := iv_eql (iv_any (h 34 (a0.toNatClampNeg))) (iv_lit (lo := 2) (hi := 2) (x := 2) rfl) c2 rfl
      refine sf_n (iv_in f_a1 rfl) ?_
      refine sf_if (fun c4 => ?_) (fun c4 => ?_)
      · have f5 : iv 1 1 (h 34 (a1.toNatClampNeg)) := iv_eql (iv_any (h 34 (a1.toNatClampNeg))) (iv_lit (lo := 1) (hi := 1) (x := 1) rfl) c4 rfl
        refine sf_n (iv_in f_a0 rfl) ?_
        refine sf_n (iv_in f_a1 rfl) ?_
        refine sf_if (fun c6 => ?_) (fun c6 => ?_)
        · unfold PX12_isDirect_57 FX12_isDirect_57
          refine sf_n (iv_in f_a0 rfl) ?_
          refine sf_if (fun c7 => ?_) (fun c7 => ?_)
          · have f8 : iv 4 2 (h 34 (a0.toNatClampNeg)) := iv_eql f3 (iv_lit (lo := 4) (hi := 4) (x := 4) rfl) c7 rfl
            exact iv_no f8 rfl
          · unfold PX12_isDirect_87 FX12_isDirect_87
            unfold PX12_isDirect_88 FX12_isDirect_88
            refine sf_if (fun c9 => ?_) (fun c9 => ?_)
            · have f10 : iv 1 0 1 := iv_eql (iv_lit (lo := 1) (hi := 1) (x := 1) rfl) (iv_lit (lo := 0) (hi := 0) (x := 0) rfl) c9 rfl
              exact iv_no f10 rfl
            · unfold PX12_isDirect_108 FX12_isDirect_108
              exact ⟨trivial, (iv_w (c := 0) (d := 1) (iv_lit (lo := 1) (hi := 1) (x := 1) rfl) rfl)⟩
        · unfold PX12_isDirect_56 FX12_isDirect_56
          unfold PX12_isDirect_57 FX12_isDirect_57
          refine sf_n (iv_in f_a0 rfl) ?_
          refine sf_if (fun c11 => ?_) (fun c11 => ?_)
          · have f12 : iv 4 2 (h 34 (a0.toNatClampNeg)) := iv_eql f3 (iv_lit (lo := 4) (hi := 4) (x := 4) rfl) c11 rfl
            exact iv_no f12 rfl
          · unfold PX12_isDirect_87 FX12_isDirect_87
            unfold PX12_isDirect_88 FX12_isDirect_88
            refine sf_if (fun c13 => ?_) (fun c13 => ?_)
            · refine sf_if (fun c14 => ?_) (fun c14 => ?_)
              · have s15 := SX12_isWaking (z := z) a0 a1 h I f_a0 f_a1
                refine sf_n s15.1 ?_
                refine sf_if (fun c16 => ?_) (fun c16 => ?_)
                · have f17 : iv 0 0 (FX12_isWaking a0 a1 h) := iv_eql s15.2 (iv_lit (lo := 0) (hi := 0) (x := 0) rfl) c16 rfl
                  exact ⟨trivial, (iv_w (c := 0) (d := 1) (iv_lit (lo := 0) (hi := 0) (x := 0) rfl) rfl)⟩
                · have f18 : iv 1 1 (FX12_isWaking a0 a1 h) := iv_nel s15.2 c16 rfl
                  unfold PX12_isDirect_108 FX12_isDirect_108
                  exact ⟨trivial, (iv_w (c := 0) (d := 1) (iv_lit (lo := 1) (hi := 1) (x := 1) rfl) rfl)⟩
              · exact absurd rfl c14
            · exact absurd rfl c13
      · unfold PX12_isDirect_56 FX12_isDirect_56
        unfold PX12_isDirect_57 FX12_isDirect_57
        refine sf_n (iv_in f_a0 rfl) ?_
        refine sf_if (fun c19 => ?_) (fun c19 => ?_)
        · have f20 : iv 4 2 (h 34 (a0.toNatClampNeg)) := iv_eql f3 (iv_lit (lo := 4) (hi := 4) (x := 4) rfl) c19 rfl
          exact iv_no f20 rfl
        · unfold PX12_isDirect_87 FX12_isDirect_87
          unfold PX12_isDirect_88 FX12_isDirect_88
          refine sf_if (fun c21 => ?_) (fun c21 => ?_)
          · refine sf_if (fun c22 => ?_) (fun c22 => ?_)
            · have s23 := SX12_isWaking (z := z) a0 a1 h I f_a0 f_a1
              refine sf_n s23.1 ?_
              refine sf_if (fun c24 => ?_) (fun c24 => ?_)
              · have f25 : iv 0 0 (FX12_isWaking a0 a1 h) := iv_eql s23.2 (iv_lit (lo := 0) (hi := 0) (x := 0) rfl) c24 rfl
                exact ⟨trivial, (iv_w (c := 0) (d := 1) (iv_lit (lo := 0) (hi := 0) (x := 0) rfl) rfl)⟩
              · have f26 : iv 1 1 (FX12_isWaking a0 a1 h) := iv_nel s23.2 c24 rfl
                unfold PX12_isDirect_108 FX12_isDirect_108
                exact ⟨trivial, (iv_w (c := 0) (d := 1) (iv_lit (lo := 1) (hi := 1) (x := 1) rfl) rfl)⟩
            · exact absurd rfl c22
          · exact absurd rfl c21
    · unfold PX12_isDirect_56 FX12_isDirect_56
      unfold PX12_isDirect_57 FX12_isDirect_57
      refine sf_n (iv_in f_a0 rfl) ?_
      refine sf_if (fun c27 => ?_) (fun c27 => ?_)
      · have f28 : iv 4 4 (h 34 (a0.toNatClampNeg)) := iv_eql (iv_any (h 34 (a0.toNatClampNeg))) (iv_lit (lo := 4) (hi := 4) (x := 4) rfl) c27 rfl
        refine sf_n (iv_in f_a0 rfl) ?_
        refine sf_n (iv_in f_a1 rfl) ?_
        refine sf_if (fun c29 => ?_) (fun c29 => ?_)
        · unfold PX12_isDirect_88 FX12_isDirect_88
          refine sf_if (fun c30 => ?_) (fun c30 => ?_)
          · refine sf_if (fun c31 => ?_) (fun c31 => ?_)
            · have f32 : iv 1 0 1 := iv_eql (iv_lit (lo := 1) (hi := 1) (x := 1) rfl) (iv_lit (lo := 0) (hi := 0) (x := 0) rfl) c31 rfl
              exact iv_no f32 rfl
            · unfold PX12_isDirect_108 FX12_isDirect_108
              exact ⟨trivial, (iv_w (c := 0) (d := 1) (iv_lit (lo := 1) (hi := 1) (x := 1) rfl) rfl)⟩
          · exact absurd rfl c30
        · unfold PX12_isDirect_87 FX12_isDirect_87
          unfold PX12_isDirect_88 FX12_isDirect_88
          refine sf_if (fun c33 => ?_) (fun c33 => ?_)
          · refine sf_if (fun c34 => ?_) (fun c34 => ?_)
            · have s35 := SX12_isWaking (z := z) a0 a1 h I f_a0 f_a1
              refine sf_n s35.1 ?_
              refine sf_if (fun c36 => ?_) (fun c36 => ?_)
              · have f37 : iv 0 0 (FX12_isWaking a0 a1 h) := iv_eql s35.2 (iv_lit (lo := 0) (hi := 0) (x := 0) rfl) c36 rfl
                exact ⟨trivial, (iv_w (c := 0) (d := 1) (iv_lit (lo := 0) (hi := 0) (x := 0) rfl) rfl)⟩
              · have f38 : iv 1 1 (FX12_isWaking a0 a1 h) := iv_nel s35.2 c36 rfl
                unfold PX12_isDirect_108 FX12_isDirect_108
                exact ⟨trivial, (iv_w (c := 0) (d := 1) (iv_lit (lo := 1) (hi := 1) (x := 1) rfl) rfl)⟩
            · exact absurd rfl c34
          · exact absurd rfl c33
      · unfold PX12_isDirect_87 FX12_isDirect_87
        unfold PX12_isDirect_88 FX12_isDirect_88
        refine sf_if (fun c39 => ?_) (fun c39 => ?_)
        · refine sf_if (fun c40 => ?_) (fun c40 => ?_)
          · have s41 := SX12_isWaking (z := z) a0 a1 h I f_a0 f_a1
            refine sf_n s41.1 ?_
            refine sf_if (fun c42 => ?_) (fun c42 => ?_)
            · have f43 : iv 0 0 (FX12_isWaking a0 a1 h) := iv_eql s41.2 (iv_lit (lo := 0) (hi := 0) (x := 0) rfl) c42 rfl
              exact ⟨trivial, (iv_w (c := 0) (d := 1) (iv_lit (lo := 0) (hi := 0) (x := 0) rfl) rfl)⟩
            · have f44 : iv 1 1 (FX12_isWaking a0 a1 h) := iv_nel s41.2 c42 rfl
              unfold PX12_isDirect_108 FX12_isDirect_108
              exact ⟨trivial, (iv_w (c := 0) (d := 1) (iv_lit (lo := 1) (hi := 1) (x := 1) rfl) rfl)⟩
          · exact absurd rfl c40
        · exact absurd rfl c39

-- X12_findAhead
set_option maxRecDepth 100000 in
set_option maxHeartbeats 4000000 in
theorem SX12_findAhead_96 {z : zT} (L15 : Int32 → ph_H → ph_H) (LP15 : Int32 → ph_H → Prop) (q15 : Nat) (hL15 : ∀ (x1 : Int32) (h : ph_H), IM z h → iv 1 301 x1 → 301 - (x1).toInt < ((q15 : Nat) : Int) → LP15 x1 h ∧ IM z (L15 x1 h)) (L53 : Int32 → Int32 → ph_H → ph_H) (LP53 : Int32 → Int32 → ph_H → Prop) (q53 : Nat) (hL53 : ∀ (x1 : Int32) (x2 : Int32) (h : ph_H), IM z h → iv 1 300 x1 → iv 0 299 x2 → 301 - (x1).toInt < ((q15 + 1 : Nat) : Int) → (x2).toInt - 0 < ((q53 : Nat) : Int) → LP53 x1 x2 h ∧ IM z (L53 x1 x2 h)) : ∀ (q : Nat) (x1 : Int32) (x2 : Int32) (x3 : Int32) (h : ph_H), IM z h → iv 1 300 x1 → iv 1 300 x2 → iv 1 300 x3 → 301 - (x1).toInt < ((q15 + 1 : Nat) : Int) → (x2).toInt - 0 < ((q53 + 1 : Nat) : Int) → 300 - (x3).toInt < ((q : Nat) : Int) → PX12_findAhead_96 LP15 LP53 q x1 x2 x3 h ∧ IM z (FX12_findAhead_96 L15 L53 q x1 x2 x3 h) := by
  intro q
  induction q with
  | zero =>
    intro x1 x2 x3 h I f_x1 f_x2 f_x3 m15 m53 mq
    exact mu_zu f_x3 mq rfl
  | succ q ih =>
    intro x1 x2 x3 h I f_x1 f_x2 f_x3 m15 m53 mq
    unfold PX12_findAhead_96 FX12_findAhead_96
    refine sf_if (fun c1 => ?_) (fun c1 => ?_)
    · unfold PX12_findAhead_154 FX12_findAhead_154
      have f2 : iv 0 299 (x2 + (-1)) := iv_add f_x2 (iv_lit (lo := (-1)) (hi := (-1)) (x := (-1)) rfl) rfl
      exact hL53 x1 (x2 + (-1)) h I f_x1 f2 m15 (mu_dn f_x2 m53 rfl)
    · have f3 : iv 1 299 x3 := iv_ltl f_x3 f_x2 (nle c1) rfl
      have f4 : iv 2 300 x2 := iv_ltr f_x2 f_x3 (nle c1) rfl
      have f5 : iv 301 89999 (301 * x3) := iv_mul (c := 301) rfl f3 rfl
      have f6 : iv 302 90299 ((301 * x3) + x1) := iv_add f5 f_x1 rfl
      refine sf_n (iv_in f6 rfl) ?_
      have f7 : iv 0 1 (h 39 (((301 * x3) + x1).toNatClampNeg)) := IMv I 39 _
      refine sf_if (fun c8 => ?_) (fun c8 => ?_)
      · have f9 : iv 0 0 (h 39 (((301 * x3) + x1).toNatClampNeg)) := iv_eql f7 (iv_lit (lo := 0) (hi := 0) (x := 0) rfl) c8 rfl
        have f10 : iv 303 90299 ((301 * x3) + x2) := iv_add f5 f4 rfl
        refine sf_n (iv_in f10 rfl) ?_
        have f11 : iv 0 1 (h 39 (((301 * x3) + x2).toNatClampNeg)) := IMv I 39 _
        refine sf_if (fun c12 => ?_) (fun c12 => ?_)
        · have f13 : iv 0 0 (h 39 (((301 * x3) + x2).toNatClampNeg)) := iv_eql f11 (iv_lit (lo := 0) (hi := 0) (x := 0) rfl) c12 rfl
          unfold PX12_findAhead_147 FX12_findAhead_147
          refine sf_n (iv_in f6 rfl) ?_
          have I14 : IM z (hs h 39 ((301 * x3) + x1).toNatClampNeg (vp_nar .boolean 0)) := IMs I (k := 39) (i := ((301 * x3) + x1).toNatClampNeg) (v := (vp_nar .boolean 0)) (nar_z 0) rfl
          have f15 : iv 2 300 (x3 + 1) := iv_add f3 (iv_lit (lo := 1) (hi := 1) (x := 1) rfl) rfl
          exact ih x1 x2 (x3 + 1) (hs h 39 ((301 * x3) + x1).toNatClampNeg (vp_nar .boolean 0)) I14 f_x1 (iv_w (c := 1) (d := 300) f4 rfl) (iv_w (c := 1) (d := 300) f15 rfl) m15 m53 (mu_up f3 mq rfl)
        · have f16 : iv 1 1 (h 39 (((301 * x3) + x2).toNatClampNeg)) := iv_nel f11 c12 rfl
          unfold PX12_findAhead_142 FX12_findAhead_142
          unfold PX12_findAhead_147 FX12_findAhead_147
          refine sf_n (iv_in f6 rfl) ?_
          have I17 : IM z (hs h 39 ((301 * x3) + x1).toNatClampNeg (vp_nar .boolean 1)) := IMs I (k := 39) (i := ((301 * x3) + x1).toNatClampNeg) (v := (vp_nar .boolean 1)) (nar_z 1) rfl
          have f18 : iv 2 300 (x3 + 1) := iv_add f3 (iv_lit (lo := 1) (hi := 1) (x := 1) rfl) rfl
          exact ih x1 x2 (x3 + 1) (hs h 39 ((301 * x3) + x1).toNatClampNeg (vp_nar .boolean 1)) I17 f_x1 (iv_w (c := 1) (d := 300) f4 rfl) (iv_w (c := 1) (d := 300) f18 rfl) m15 m53 (mu_up f3 mq rfl)
      · have f19 : iv 1 1 (h 39 (((301 * x3) + x1).toNatClampNeg)) := iv_nel f7 c8 rfl
        unfold PX12_findAhead_142 FX12_findAhead_142
        unfold PX12_findAhead_147 FX12_findAhead_147
        refine sf_n (iv_in f6 rfl) ?_
        have I20 : IM z (hs h 39 ((301 * x3) + x1).toNatClampNeg (vp_nar .boolean 1)) := IMs I (k := 39) (i := ((301 * x3) + x1).toNatClampNeg) (v := (vp_nar .boolean 1)) (nar_z 1) rfl
        have f21 : iv 2 300 (x3 + 1) := iv_add f3 (iv_lit (lo := 1) (hi := 1) (x := 1) rfl) rfl
        exact ih x1 x2 (x3 + 1) (hs h 39 ((301 * x3) + x1).toNatClampNeg (vp_nar .boolean 1)) I20 f_x1 (iv_w (c := 1) (d := 300) f4 rfl) (iv_w (c := 1) (d := 300) f21 rfl) m15 m53 (mu_up f3 mq rfl)
set_option maxRecDepth 100000 in
set_option maxHeartbeats 4000000 in
theorem SX12_findAhead_53 {z : zT} (L15 : Int32 → ph_H → ph_H) (LP15 : Int32 → ph_H → Prop) (q15 : Nat) (hL15 : ∀ (x1 : Int32) (h : ph_H), IM z h → iv 1 301 x1 → 301 - (x1).toInt < ((q15 : Nat) : Int) → LP15 x1 h ∧ IM z (L15 x1 h)) : ∀ (q : Nat) (x1 : Int32) (x2 : Int32) (h : ph_H), IM z h → iv 1 300 x1 → iv 0 299 x2 → 301 - (x1).toInt < ((q15 + 1 : Nat) : Int) → (x2).toInt - 0 < ((q : Nat) : Int) → PX12_findAhead_53 LP15 q x1 x2 h ∧ IM z (FX12_findAhead_53 L15 q x1 x2 h) := by
  intro q
  induction q with
  | zero =>
    intro x1 x2 h I f_x1 f_x2 m15 mq
    exact mu_zd f_x2 mq rfl
  | succ q ih =>
    intro x1 x2 h I f_x1 f_x2 m15 mq
    unfold PX12_findAhead_53 FX12_findAhead_53
    refine sf_if (fun c1 => ?_) (fun c1 => ?_)
    · have f2 : iv 0 0 x2 := iv_lel f_x2 (iv_lit (lo := 0) (hi := 0) (x := 0) rfl) c1 rfl
      have f3 : iv 2 301 (x1 + 1) := iv_add f_x1 (iv_lit (lo := 1) (hi := 1) (x := 1) rfl) rfl
      exact hL15 (x1 + 1) h I (iv_w (c := 1) (d := 301) f3 rfl) (mu_up f_x1 m15 rfl)
    · have f4 : iv 1 299 x2 := iv_ltr f_x2 (iv_lit (lo := 0) (hi := 0) (x := 0) rfl) (nle c1) rfl
      have f5 : iv 301 89999 (301 * x2) := iv_mul (c := 301) rfl f4 rfl
      have f6 : iv 302 90299 ((301 * x2) + x1) := iv_add f5 f_x1 rfl
      refine sf_n (iv_in f6 rfl) ?_
      have f7 : iv 0 1 (h 39 (((301 * x2) + x1).toNatClampNeg)) := IMv I 39 _
      refine sf_if (fun c8 => ?_) (fun c8 => ?_)
      · have f9 : iv 0 0 (h 39 (((301 * x2) + x1).toNatClampNeg)) := iv_eql f7 (iv_lit (lo := 0) (hi := 0) (x := 0) rfl) c8 rfl
        have s10 := SX12_isDirect (z := z) x2 x1 h I (iv_w (c := 1) (d := 300) f4 rfl) f_x1
        refine sf_n s10.1 ?_
        refine sf_if (fun c11 => ?_) (fun c11 => ?_)
        · have f12 : iv 0 0 (FX12_isDirect x2 x1 h) := iv_eql s10.2 (iv_lit (lo := 0) (hi := 0) (x := 0) rfl) c11 rfl
          unfold PX12_findAhead_154 FX12_findAhead_154
          have f13 : iv 0 298 (x2 + (-1)) := iv_add f4 (iv_lit (lo := (-1)) (hi := (-1)) (x := (-1)) rfl) rfl
          exact ih x1 (x2 + (-1)) h I f_x1 (iv_w (c := 0) (d := 299) f13 rfl) m15 (mu_dn f4 mq rfl)
        · have f14 : iv 1 1 (FX12_isDirect x2 x1 h) := iv_nel s10.2 c11 rfl
          refine sf_n (iv_in f6 rfl) ?_
          have I15 : IM z (hs h 39 ((301 * x2) + x1).toNatClampNeg (vp_nar .boolean 1)) := IMs I (k := 39) (i := ((301 * x2) + x1).toNatClampNeg) (v := (vp_nar .boolean 1)) (nar_z 1) rfl
          exact SX12_findAhead_96 L15 LP15 q15 hL15 (FX12_findAhead_53 L15 q) (PX12_findAhead_53 LP15 q) q (fun x1 x2 h p0 p1 p2 o15 pm => ih x1 x2 h p0 p1 p2 o15 pm) 2000 x1 x2 1 (hs h 39 ((301 * x2) + x1).toNatClampNeg (vp_nar .boolean 1)) I15 f_x1 (iv_w (c := 1) (d := 300) f4 rfl) (iv_w (c := 1) (d := 300) (iv_lit (lo := 1) (hi := 1) (x := 1) rfl) rfl) m15 mq (mu_0u (iv_lit (lo := 1) (hi := 1) (x := 1) rfl) rfl)
      · have f16 : iv 1 1 (h 39 (((301 * x2) + x1).toNatClampNeg)) := iv_nel f7 c8 rfl
        unfold PX12_findAhead_154 FX12_findAhead_154
        have f17 : iv 0 298 (x2 + (-1)) := iv_add f4 (iv_lit (lo := (-1)) (hi := (-1)) (x := (-1)) rfl) rfl
        exact ih x1 (x2 + (-1)) h I f_x1 (iv_w (c := 0) (d := 299) f17 rfl) m15 (mu_dn f4 mq rfl)
set_option maxRecDepth 100000 in
set_option maxHeartbeats 4000000 in
theorem SX12_findAhead_25 {z : zT} (L15 : Int32 → ph_H → ph_H) (LP15 : Int32 → ph_H → Prop) (q15 : Nat) (hL15 : ∀ (x1 : Int32) (h : ph_H), IM z h → iv 1 301 x1 → 301 - (x1).toInt < ((q15 : Nat) : Int) → LP15 x1 h ∧ IM z (L15 x1 h)) : ∀ (q : Nat) (x1 : Int32) (x2 : Int32) (h : ph_H), IM z h → iv 1 300 x1 → iv 1 300 x2 → 301 - (x1).toInt < ((q15 + 1 : Nat) : Int) → 300 - (x2).toInt < ((q : Nat) : Int) → PX12_findAhead_25 LP15 q x1 x2 h ∧ IM z (FX12_findAhead_25 L15 q x1 x2 h) := by
  intro q
  induction q with
  | zero =>
    intro x1 x2 h I f_x1 f_x2 m15 mq
    exact mu_zu f_x2 mq rfl
  | succ q ih =>
    intro x1 x2 h I f_x1 f_x2 m15 mq
    unfold PX12_findAhead_25 FX12_findAhead_25
    refine sf_if (fun c1 => ?_) (fun c1 => ?_)
    · have f2 : iv 0 299 (x1 - 1) := iv_sub f_x1 (iv_lit (lo := 1) (hi := 1) (x := 1) rfl) rfl
      exact SX12_findAhead_53 L15 LP15 q15 hL15 2000 x1 (x1 - 1) h I f_x1 f2 m15 (mu_0d f2 rfl)
    · have f3 : iv 1 299 x2 := iv_ltl f_x2 f_x1 (nle c1) rfl
      have f4 : iv 2 300 x1 := iv_ltr f_x1 f_x2 (nle c1) rfl
      have f5 : iv 301 89999 (301 * x2) := iv_mul (c := 301) rfl f3 rfl
      have f6 : iv 303 90299 ((301 * x2) + x1) := iv_add f5 f4 rfl
      refine sf_n (iv_in f6 rfl) ?_
      have I7 : IM z (hs h 39 ((301 * x2) + x1).toNatClampNeg (vp_nar .boolean 0)) := IMs I (k := 39) (i := ((301 * x2) + x1).toNatClampNeg) (v := (vp_nar .boolean 0)) (nar_z 0) rfl
      have f8 : iv 2 300 (x2 + 1) := iv_add f3 (iv_lit (lo := 1) (hi := 1) (x := 1) rfl) rfl
      exact ih x1 (x2 + 1) (hs h 39 ((301 * x2) + x1).toNatClampNeg (vp_nar .boolean 0)) I7 (iv_w (c := 1) (d := 300) f4 rfl) (iv_w (c := 1) (d := 300) f8 rfl) m15 (mu_up f3 mq rfl)
set_option maxRecDepth 100000 in
set_option maxHeartbeats 4000000 in
theorem SX12_findAhead_15 {z : zT} : ∀ (q : Nat) (x1 : Int32) (h : ph_H), IM z h → iv 1 301 x1 → 301 - (x1).toInt < ((q : Nat) : Int) → PX12_findAhead_15  q x1 h ∧ IM z (FX12_findAhead_15  q x1 h) := by
  intro q
  induction q with
  | zero =>
    intro x1 h I f_x1 mq
    exact mu_zu f_x1 mq rfl
  | succ q ih =>
    intro x1 h I f_x1 mq
    unfold PX12_findAhead_15 FX12_findAhead_15
    have f1 : iv 0 300 (h 0 38) := IMv I 0 _
    refine sf_if (fun c2 => ?_) (fun c2 => ?_)
    · exact ⟨trivial, I⟩
    · have f3 : iv 1 300 x1 := iv_lel f_x1 f1 (nlt c2) rfl
      have f4 : iv 1 300 (h 0 38) := iv_ler f1 f_x1 (nlt c2) rfl
      exact SX12_findAhead_25 (FX12_findAhead_15  q) (PX12_findAhead_15  q) q (fun x1 h p0 p1 pm => ih x1 h p0 p1 pm) 2000 x1 1 h I f3 (iv_w (c := 1) (d := 300) (iv_lit (lo := 1) (hi := 1) (x := 1) rfl) rfl) mq (mu_0u (iv_lit (lo := 1) (hi := 1) (x := 1) rfl) rfl)
set_option maxRecDepth 100000 in
set_option maxHeartbeats 4000000 in
theorem SX12_findAhead {z : zT} (h : ph_H) (I : IM z h) : PX12_findAhead h ∧ IM z (FX12_findAhead h) := by
  unfold PX12_findAhead FX12_findAhead
  have f1 : iv 0 1 (h 0 64) := IMv I 0 _
  refine sf_if (fun c2 => ?_) (fun c2 => ?_)
  · have f3 : iv 0 0 (h 0 64) := iv_eql f1 (iv_lit (lo := 0) (hi := 0) (x := 0) rfl) c2 rfl
    have I4 : IM z (hs h 0 64 1) := IMs I (k := 0) (i := 64) (v := 1) (iv_w (c := 0) (d := 1) (iv_lit (lo := 1) (hi := 1) (x := 1) rfl) rfl) rfl
    exact SX12_findAhead_15 2000 1 (hs h 0 64 1) I4 (iv_w (c := 1) (d := 301) (iv_lit (lo := 1) (hi := 1) (x := 1) rfl) rfl) (mu_0u (iv_lit (lo := 1) (hi := 1) (x := 1) rfl) rfl)
  · have f5 : iv 1 1 (h 0 64) := iv_nel f1 c2 rfl
    exact ⟨trivial, I⟩

-- X12_ahead
set_option maxRecDepth 100000 in
set_option maxHeartbeats 4000000 in
theorem SX12_ahead {z : zT} (a0 : Int32) (a1 : Int32) (h : ph_H) (I : IM z h) : PX12_ahead a0 a1 h ∧ Qi z (-2) 1 (FX12_ahead a0 a1 h) := by
  unfold PX12_ahead FX12_ahead
  have I1 : IM z (hs h 0 0 0) := IMs I (k := 0) (i := 0) (v := 0) (iv_any 0) rfl
  have f2 : iv 0 1 (h 0 36) := IMv I 0 _
  refine sf_if (fun c3 => ?_) (fun c3 => ?_)
  · have f4 : iv 0 0 (h 0 36) := iv_eql f2 (iv_lit (lo := 0) (hi := 0) (x := 0) rfl) c3 rfl
    exact ⟨trivial, Qi_mk (iv_w (c := (-2)) (d := 1) (iv_lit (lo := (-2)) (hi := (-2)) (x := (-2)) rfl) rfl) I1⟩
  · have f5 : iv 1 1 (h 0 36) := iv_nel f2 c3 rfl
    have f6 : iv 0 300 (h 0 38) := IMv I 0 _
    refine sf_n isIn_p ?_
    refine sf_if (fun c7 => ?_) (fun c7 => ?_)
    · have f8 : iv 0 0 (FX12_isIn a1.toInt64 1 ((h 0 38).toInt64)) := iv_eql (isIn_b (x := a1.toInt64) (l := 1) (u := (h 0 38).toInt64)) (iv_lit (lo := 0) (hi := 0) (x := 0) rfl) c7 rfl
      exact ⟨trivial, Qi_mk (iv_w (c := (-2)) (d := 1) (iv_lit (lo := (-1)) (hi := (-1)) (x := (-1)) rfl) rfl) I1⟩
    · have f9 : iv 1 300 a1 := isIn_iv (iv_any a1) (lw_lit (lo := 1) (hi := 1) (x := 1) rfl) (lw_of f6) c7 rfl
      have f10 : iv 1 1 (FX12_isIn a1.toInt64 1 ((h 0 38).toInt64)) := iv_nel (isIn_b (x := a1.toInt64) (l := 1) (u := (h 0 38).toInt64)) c7 rfl
      have f11 : iv 0 299 (a1 - 1) := iv_sub f9 (iv_lit (lo := 1) (hi := 1) (x := 1) rfl) rfl
      refine sf_n isIn_p ?_
      refine sf_if (fun c12 => ?_) (fun c12 => ?_)
      · have f13 : iv 0 0 (FX12_isIn a0.toInt64 1 ((a1 - 1).toInt64)) := iv_eql (isIn_b (x := a0.toInt64) (l := 1) (u := (a1 - 1).toInt64)) (iv_lit (lo := 0) (hi := 0) (x := 0) rfl) c12 rfl
        exact ⟨trivial, Qi_mk (iv_w (c := (-2)) (d := 1) (iv_lit (lo := (-1)) (hi := (-1)) (x := (-1)) rfl) rfl) I1⟩
      · have f14 : iv 1 299 a0 := isIn_iv (iv_any a0) (lw_lit (lo := 1) (hi := 1) (x := 1) rfl) (lw_of f11) c12 rfl
        have f15 : iv 1 1 (FX12_isIn a0.toInt64 1 ((a1 - 1).toInt64)) := iv_nel (isIn_b (x := a0.toInt64) (l := 1) (u := (a1 - 1).toInt64)) c12 rfl
        have s16 := SX12_findAhead (z := z) (hs h 0 0 0) I1
        refine sf_n s16.1 ?_
        unfold PX12_ahead_48 FX12_ahead_48
        have f17 : iv 301 89999 (301 * a0) := iv_mul (c := 301) rfl f14 rfl
        have f18 : iv 302 90299 ((301 * a0) + a1) := iv_add f17 f9 rfl
        refine sf_n (iv_in f18 rfl) ?_
        have f19 : iv 0 1 ((FX12_findAhead (hs h 0 0 0)) 39 (((301 * a0) + a1).toNatClampNeg)) := IMv s16.2 39 _
        refine sf_if (fun c20 => ?_) (fun c20 => ?_)
        · have f21 : iv 0 0 ((FX12_findAhead (hs h 0 0 0)) 39 (((301 * a0) + a1).toNatClampNeg)) := iv_eql f19 (iv_lit (lo := 0) (hi := 0) (x := 0) rfl) c20 rfl
          exact ⟨trivial, Qi_mk (iv_w (c := (-2)) (d := 1) (iv_lit (lo := 0) (hi := 0) (x := 0) rfl) rfl) s16.2⟩
        · have f22 : iv 1 1 ((FX12_findAhead (hs h 0 0 0)) 39 (((301 * a0) + a1).toNatClampNeg)) := iv_nel f19 c20 rfl
          exact ⟨trivial, Qi_mk (iv_w (c := (-2)) (d := 1) (iv_lit (lo := 1) (hi := 1) (x := 1) rfl) rfl) s16.2⟩

-- X12_racing
set_option maxRecDepth 100000 in
set_option maxHeartbeats 4000000 in
theorem SX12_racing {z : zT} (a0 : Int32) (a1 : Int32) (h : ph_H) (I : IM z h) (f_a0 : iv 1 300 a0) (f_a1 : iv 1 300 a1) : PX12_racing a0 a1 h ∧ iv (-1) 2147483647 (FX12_racing a0 a1 h) := by
  unfold PX12_racing FX12_racing
  refine sf_n (iv_in f_a0 rfl) ?_
  refine sf_n (iv_in f_a1 rfl) ?_
  refine sf_if (fun c1 => ?_) (fun c1 => ?_)
  · exact ⟨trivial, (iv_w (c := (-1)) (d := 2147483647) (iv_lit (lo := (-1)) (hi := (-1)) (x := (-1)) rfl) rfl)⟩
  · have f2 : iv 301 90300 (301 * a0) := iv_mul (c := 301) rfl f_a0 rfl
    have f3 : iv 302 90600 ((301 * a0) + a1) := iv_add f2 f_a1 rfl
    refine sf_n (iv_in f3 rfl) ?_
    have f4 : iv 0 1 (h 39 (((301 * a0) + a1).toNatClampNeg)) := IMv I 39 _
    refine sf_if (fun c5 => ?_) (fun c5 => ?_)
    · have f6 : iv 0 0 (h 39 (((301 * a0) + a1).toNatClampNeg)) := iv_eql f4 (iv_lit (lo := 0) (hi := 0) (x := 0) rfl) c5 rfl
      refine sf_n (iv_in f_a0 rfl) ?_
      refine sf_if (fun c7 => ?_) (fun c7 => ?_)
      · have f8 : iv (-2147483648) (-1) (h 33 (a0.toNatClampNeg)) := iv_ltl (iv_any (h 33 (a0.toNatClampNeg))) (iv_lit (lo := 0) (hi := 0) (x := 0) rfl) c7 rfl
        refine sf_n (iv_in f_a0 rfl) ?_
        unfold PX12_racing_56 FX12_racing_56
        refine sf_n (iv_in f_a0 rfl) ?_
        refine sf_if (fun c9 => ?_) (fun c9 => ?_)
        · have f10 : iv 0 (-1) 0 := iv_lel (iv_lit (lo := 0) (hi := 0) (x := 0) rfl) f8 c9 rfl
          exact iv_no f10 rfl
        · refine sf_n (iv_in f_a1 rfl) ?_
          refine sf_if (fun c11 => ?_) (fun c11 => ?_)
          · have f12 : iv (-2147483648) (-1) (h 33 (a1.toNatClampNeg)) := iv_ltl (iv_any (h 33 (a1.toNatClampNeg))) (iv_lit (lo := 0) (hi := 0) (x := 0) rfl) c11 rfl
            unfold PX12_racing_80 FX12_racing_80
            refine sf_if (fun c13 => ?_) (fun c13 => ?_)
            · have f14 : iv (-2147483648) (-1) (h 32 (a0.toNatClampNeg)) := iv_ltl (iv_any (h 32 (a0.toNatClampNeg))) (iv_lit (lo := 0) (hi := 0) (x := 0) rfl) c13 rfl
              exact ⟨trivial, (iv_w (c := (-1)) (d := 2147483647) (iv_lit (lo := (-1)) (hi := (-1)) (x := (-1)) rfl) rfl)⟩
            · have f15 : iv 0 2147483647 (h 32 (a0.toNatClampNeg)) := iv_ler (iv_any (h 32 (a0.toNatClampNeg))) (iv_lit (lo := 0) (hi := 0) (x := 0) rfl) (nlt c13) rfl
              refine sf_if (fun c16 => ?_) (fun c16 => ?_)
              · exact ⟨trivial, (iv_w (c := (-1)) (d := 2147483647) (iv_lit (lo := (-1)) (hi := (-1)) (x := (-1)) rfl) rfl)⟩
              · exact absurd rfl c16
          · have f17 : iv 0 2147483647 (h 33 (a1.toNatClampNeg)) := iv_ler (iv_any (h 33 (a1.toNatClampNeg))) (iv_lit (lo := 0) (hi := 0) (x := 0) rfl) (nlt c11) rfl
            unfold PX12_racing_75 FX12_racing_75
            unfold PX12_racing_80 FX12_racing_80
            refine sf_if (fun c18 => ?_) (fun c18 => ?_)
            · have f19 : iv (-2147483648) (-1) (h 32 (a0.toNatClampNeg)) := iv_ltl (iv_any (h 32 (a0.toNatClampNeg))) (iv_lit (lo := 0) (hi := 0) (x := 0) rfl) c18 rfl
              exact ⟨trivial, (iv_w (c := (-1)) (d := 2147483647) (iv_lit (lo := (-1)) (hi := (-1)) (x := (-1)) rfl) rfl)⟩
            · have f20 : iv 0 2147483647 (h 32 (a0.toNatClampNeg)) := iv_ler (iv_any (h 32 (a0.toNatClampNeg))) (iv_lit (lo := 0) (hi := 0) (x := 0) rfl) (nlt c18) rfl
              refine sf_if (fun c21 => ?_) (fun c21 => ?_)
              · have f22 : iv 1 0 1 := iv_eql (iv_lit (lo := 1) (hi := 1) (x := 1) rfl) (iv_lit (lo := 0) (hi := 0) (x := 0) rfl) c21 rfl
                exact iv_no f22 rfl
              · refine sf_n (iv_in f_a1 rfl) ?_
                refine sf_if (fun c23 => ?_) (fun c23 => ?_)
                · unfold PX12_racing_111 FX12_racing_111
                  exact ⟨trivial, (iv_w (c := (-1)) (d := 2147483647) f20 rfl)⟩
                · refine sf_n (iv_in f_a1 rfl) ?_
                  refine sf_if (fun c24 => ?_) (fun c24 => ?_)
                  · have f25 : iv 0 2147483647 (h 32 (a1.toNatClampNeg)) := iv_eql (iv_any (h 32 (a1.toNatClampNeg))) f20 c24 rfl
                    unfold PX12_racing_111 FX12_racing_111
                    exact ⟨trivial, (iv_w (c := (-1)) (d := 2147483647) f20 rfl)⟩
                  · exact ⟨trivial, (iv_w (c := (-1)) (d := 2147483647) (iv_lit (lo := (-1)) (hi := (-1)) (x := (-1)) rfl) rfl)⟩
      · have f26 : iv 0 2147483647 (h 33 (a0.toNatClampNeg)) := iv_ler (iv_any (h 33 (a0.toNatClampNeg))) (iv_lit (lo := 0) (hi := 0) (x := 0) rfl) (nlt c7) rfl
        refine sf_n (iv_in f_a0 rfl) ?_
        unfold PX12_racing_56 FX12_racing_56
        refine sf_n (iv_in f_a0 rfl) ?_
        refine sf_if (fun c27 => ?_) (fun c27 => ?_)
        · unfold PX12_racing_75 FX12_racing_75
          unfold PX12_racing_80 FX12_racing_80
          refine sf_if (fun c28 => ?_) (fun c28 => ?_)
          · have f29 : iv 0 (-1) (h 33 (a0.toNatClampNeg)) := iv_ltl f26 (iv_lit (lo := 0) (hi := 0) (x := 0) rfl) c28 rfl
            exact iv_no f29 rfl
          · refine sf_if (fun c30 => ?_) (fun c30 => ?_)
            · have f31 : iv 1 0 1 := iv_eql (iv_lit (lo := 1) (hi := 1) (x := 1) rfl) (iv_lit (lo := 0) (hi := 0) (x := 0) rfl) c30 rfl
              exact iv_no f31 rfl
            · refine sf_n (iv_in f_a1 rfl) ?_
              refine sf_if (fun c32 => ?_) (fun c32 => ?_)
              · have f33 : iv 0 2147483647 (h 33 (a1.toNatClampNeg)) := iv_eql (iv_any (h 33 (a1.toNatClampNeg))) f26 c32 rfl
                unfold PX12_racing_111 FX12_racing_111
                exact ⟨trivial, (iv_w (c := (-1)) (d := 2147483647) f26 rfl)⟩
              · refine sf_n (iv_in f_a1 rfl) ?_
                refine sf_if (fun c34 => ?_) (fun c34 => ?_)
                · have f35 : iv 0 2147483647 (h 32 (a1.toNatClampNeg)) := iv_eql (iv_any (h 32 (a1.toNatClampNeg))) f26 c34 rfl
                  unfold PX12_racing_111 FX12_racing_111
                  exact ⟨trivial, (iv_w (c := (-1)) (d := 2147483647) f26 rfl)⟩
                · exact ⟨trivial, (iv_w (c := (-1)) (d := 2147483647) (iv_lit (lo := (-1)) (hi := (-1)) (x := (-1)) rfl) rfl)⟩
        · have f36 : iv 0 (-1) (h 33 (a0.toNatClampNeg)) := iv_ltl f26 (iv_lit (lo := 0) (hi := 0) (x := 0) rfl) (nle c27) rfl
          exact iv_no f36 rfl
    · have f37 : iv 1 1 (h 39 (((301 * a0) + a1).toNatClampNeg)) := iv_nel f4 c5 rfl
      exact ⟨trivial, (iv_w (c := (-1)) (d := 2147483647) (iv_lit (lo := (-1)) (hi := (-1)) (x := (-1)) rfl) rfl)⟩

-- X12_race
set_option maxRecDepth 100000 in
set_option maxHeartbeats 4000000 in
theorem SX12_race_50 {z : zT} (L38 : Int32 → Int32 → Int32 → Int32 → ph_H → Int32 × ph_H) (LP38 : Int32 → Int32 → Int32 → Int32 → ph_H → Prop) (q38 : Nat) (hL38 : ∀ (x1 : Int32) (x2 : Int32) (x3 : Int32) (x4 : Int32) (h : ph_H), IM z h → iv 0 3 x2 → iv 2 301 x4 → 301 - (x4).toInt < ((q38 : Nat) : Int) → LP38 x1 x2 x3 x4 h ∧ Qi z (-2147483648) 2147483647 (L38 x1 x2 x3 x4 h)) : ∀ (q : Nat) (x1 : Int32) (x2 : Int32) (x3 : Int32) (x4 : Int32) (x5 : Int32) (h : ph_H), IM z h → iv 0 3 x2 → iv 2 300 x4 → iv 1 300 x5 → 301 - (x4).toInt < ((q38 + 1 : Nat) : Int) → 300 - (x5).toInt < ((q : Nat) : Int) → PX12_race_50 LP38 q x1 x2 x3 x4 x5 h ∧ Qi z (-2147483648) 2147483647 (FX12_race_50 L38 q x1 x2 x3 x4 x5 h) := by
  intro q
  induction q with
  | zero =>
    intro x1 x2 x3 x4 x5 h I f_x2 f_x4 f_x5 m38 mq
    exact mu_zu f_x5 mq rfl
  | succ q ih =>
    intro x1 x2 x3 x4 x5 h I f_x2 f_x4 f_x5 m38 mq
    unfold PX12_race_50 FX12_race_50
    refine sf_if (fun c1 => ?_) (fun c1 => ?_)
    · have f2 : iv 2 300 x5 := iv_ler f_x5 f_x4 c1 rfl
      have f3 : iv 3 301 (x4 + 1) := iv_add f_x4 (iv_lit (lo := 1) (hi := 1) (x := 1) rfl) rfl
      exact hL38 x1 x2 x3 (x4 + 1) h I f_x2 (iv_w (c := 2) (d := 301) f3 rfl) (mu_up f_x4 m38 rfl)
    · have f4 : iv 1 299 x5 := iv_ltl f_x5 f_x4 (nle c1) rfl
      have s5 := SX12_racing (z := z) x5 x4 h I (iv_w (c := 1) (d := 300) f4 rfl) (iv_w (c := 1) (d := 300) f_x4 rfl)
      refine sf_n s5.1 ?_
      refine sf_if (fun c6 => ?_) (fun c6 => ?_)
      · have f7 : iv (-1) (-1) (FX12_racing x5 x4 h) := iv_ltl s5.2 (iv_lit (lo := 0) (hi := 0) (x := 0) rfl) c6 rfl
        unfold PX12_race_104 FX12_race_104
        refine sf_if (fun c8 => ?_) (fun c8 => ?_)
        · unfold PX12_race_115 FX12_race_115
          have f9 : iv 2 300 (x5 + 1) := iv_add f4 (iv_lit (lo := 1) (hi := 1) (x := 1) rfl) rfl
          exact ih x1 x2 (x3 + 0) x4 (x5 + 1) h I f_x2 f_x4 (iv_w (c := 1) (d := 300) f9 rfl) m38 (mu_up f4 mq rfl)
        · have f10 : iv 0 (-1) 0 := iv_lel (iv_lit (lo := 0) (hi := 0) (x := 0) rfl) f7 (nlt c8) rfl
          exact iv_no f10 rfl
      · have f11 : iv 0 2147483647 (FX12_racing x5 x4 h) := iv_ler s5.2 (iv_lit (lo := 0) (hi := 0) (x := 0) rfl) (nlt c6) rfl
        refine sf_if (fun c12 => ?_) (fun c12 => ?_)
        · refine sf_if (fun c13 => ?_) (fun c13 => ?_)
          · have f14 : iv 0 0 x2 := iv_lel f_x2 (iv_lit (lo := 0) (hi := 0) (x := 0) rfl) c13 rfl
            unfold PX12_race_104 FX12_race_104
            refine sf_if (fun c15 => ?_) (fun c15 => ?_)
            · have f16 : iv 0 (-1) (FX12_racing x5 x4 h) := iv_ltl f11 (iv_lit (lo := 0) (hi := 0) (x := 0) rfl) c15 rfl
              exact iv_no f16 rfl
            · unfold PX12_race_115 FX12_race_115
              have f17 : iv 2 300 (x5 + 1) := iv_add f4 (iv_lit (lo := 1) (hi := 1) (x := 1) rfl) rfl
              exact ih x1 x2 (x3 + 1) x4 (x5 + 1) h I (iv_w (c := 0) (d := 3) f14 rfl) f_x4 (iv_w (c := 1) (d := 300) f17 rfl) m38 (mu_up f4 mq rfl)
          · have f18 : iv 1 3 x2 := iv_ltr f_x2 (iv_lit (lo := 0) (hi := 0) (x := 0) rfl) (nle c13) rfl
            refine sf_if (fun c19 => ?_) (fun c19 => ?_)
            · have f20 : iv 1 1 x2 := iv_eql f18 (iv_lit (lo := 1) (hi := 1) (x := 1) rfl) c19 rfl
              exact ⟨trivial, Qi_mk (iv_any x5) I⟩
            · have f21 : iv 2 3 x2 := iv_nel f18 c19 rfl
              refine sf_if (fun c22 => ?_) (fun c22 => ?_)
              · have f23 : iv 2 2 x2 := iv_eql f21 (iv_lit (lo := 2) (hi := 2) (x := 2) rfl) c22 rfl
                exact ⟨trivial, Qi_mk (iv_any x4) I⟩
              · have f24 : iv 3 3 x2 := iv_nel f21 c22 rfl
                exact ⟨trivial, Qi_mk (iv_any (FX12_racing x5 x4 h)) I⟩
        · unfold PX12_race_104 FX12_race_104
          refine sf_if (fun c25 => ?_) (fun c25 => ?_)
          · have f26 : iv 0 (-1) (FX12_racing x5 x4 h) := iv_ltl f11 (iv_lit (lo := 0) (hi := 0) (x := 0) rfl) c25 rfl
            exact iv_no f26 rfl
          · unfold PX12_race_115 FX12_race_115
            have f27 : iv 2 300 (x5 + 1) := iv_add f4 (iv_lit (lo := 1) (hi := 1) (x := 1) rfl) rfl
            exact ih x1 x2 (x3 + 1) x4 (x5 + 1) h I f_x2 f_x4 (iv_w (c := 1) (d := 300) f27 rfl) m38 (mu_up f4 mq rfl)
set_option maxRecDepth 100000 in
set_option maxHeartbeats 4000000 in
theorem SX12_race_38 {z : zT} : ∀ (q : Nat) (x1 : Int32) (x2 : Int32) (x3 : Int32) (x4 : Int32) (h : ph_H), IM z h → iv 0 3 x2 → iv 2 301 x4 → 301 - (x4).toInt < ((q : Nat) : Int) → PX12_race_38  q x1 x2 x3 x4 h ∧ Qi z (-2147483648) 2147483647 (FX12_race_38  q x1 x2 x3 x4 h) := by
  intro q
  induction q with
  | zero =>
    intro x1 x2 x3 x4 h I f_x2 f_x4 mq
    exact mu_zu f_x4 mq rfl
  | succ q ih =>
    intro x1 x2 x3 x4 h I f_x2 f_x4 mq
    unfold PX12_race_38 FX12_race_38
    have f1 : iv 0 300 (h 0 38) := IMv I 0 _
    refine sf_if (fun c2 => ?_) (fun c2 => ?_)
    · refine sf_if (fun c3 => ?_) (fun c3 => ?_)
      · have f4 : iv 0 0 x2 := iv_eql f_x2 (iv_lit (lo := 0) (hi := 0) (x := 0) rfl) c3 rfl
        exact ⟨trivial, Qi_mk (iv_any x3) I⟩
      · have f5 : iv 1 3 x2 := iv_nel f_x2 c3 rfl
        exact ⟨trivial, Qi_mk (iv_any (-1)) I⟩
    · have f6 : iv 2 300 x4 := iv_lel f_x4 f1 (nlt c2) rfl
      have f7 : iv 2 300 (h 0 38) := iv_ler f1 f_x4 (nlt c2) rfl
      exact SX12_race_50 (FX12_race_38  q) (PX12_race_38  q) q (fun x1 x2 x3 x4 h p0 p1 p2 pm => ih x1 x2 x3 x4 h p0 p1 p2 pm) 2000 x1 x2 x3 x4 1 h I f_x2 f6 (iv_w (c := 1) (d := 300) (iv_lit (lo := 1) (hi := 1) (x := 1) rfl) rfl) mq (mu_0u (iv_lit (lo := 1) (hi := 1) (x := 1) rfl) rfl)
set_option maxRecDepth 100000 in
set_option maxHeartbeats 4000000 in
theorem SX12_race {z : zT} (a0 : Int32) (a1 : Int32) (h : ph_H) (I : IM z h) : PX12_race a0 a1 h ∧ Qi z (-2147483648) 2147483647 (FX12_race a0 a1 h) := by
  unfold PX12_race FX12_race
  have I1 : IM z (hs h 0 0 0) := IMs I (k := 0) (i := 0) (v := 0) (iv_any 0) rfl
  have f2 : iv 0 1 (h 0 36) := IMv I 0 _
  refine sf_if (fun c3 => ?_) (fun c3 => ?_)
  · have f4 : iv 0 0 (h 0 36) := iv_eql f2 (iv_lit (lo := 0) (hi := 0) (x := 0) rfl) c3 rfl
    exact ⟨trivial, Qi_mk (iv_any (-2)) I1⟩
  · have f5 : iv 1 1 (h 0 36) := iv_nel f2 c3 rfl
    refine sf_n isIn_p ?_
    refine sf_if (fun c6 => ?_) (fun c6 => ?_)
    · have f7 : iv 0 0 (FX12_isIn a1.toInt64 0 3) := iv_eql (isIn_b (x := a1.toInt64) (l := 0) (u := 3)) (iv_lit (lo := 0) (hi := 0) (x := 0) rfl) c6 rfl
      exact ⟨trivial, Qi_mk (iv_any (-1)) I1⟩
    · have f8 : iv 0 3 a1 := isIn_iv (iv_any a1) (lw_lit (lo := 0) (hi := 0) (x := 0) rfl) (lw_lit (lo := 3) (hi := 3) (x := 3) rfl) c6 rfl
      have f9 : iv 1 1 (FX12_isIn a1.toInt64 0 3) := iv_nel (isIn_b (x := a1.toInt64) (l := 0) (u := 3)) c6 rfl
      have s10 := SX12_findAhead (z := z) (hs h 0 0 0) I1
      refine sf_n s10.1 ?_
      unfold PX12_race_33 FX12_race_33
      exact SX12_race_38 2000 a0 a1 0 2 (FX12_findAhead (hs h 0 0 0)) s10.2 f8 (iv_w (c := 2) (d := 301) (iv_lit (lo := 2) (hi := 2) (x := 2) rfl) rfl) (mu_0u (iv_lit (lo := 2) (hi := 2) (x := 2) rfl) rfl)

-- X12_differ
set_option maxRecDepth 100000 in
set_option maxHeartbeats 4000000 in
theorem SX12_differ_128 {z : zT} : ∀ (q : Nat) (x1 : Int32) (x2 : Int32) (x3 : Int32) (x4 : Int32) (h : ph_H), IM z h → iv 0 300 x1 → iv 0 300 x2 → iv 0 4 x4 → 4 - (x4).toInt < ((q : Nat) : Int) → PX12_differ_128  q x1 x2 x3 x4 h ∧ Qi z (-2147483648) 2147483647 (FX12_differ_128  q x1 x2 x3 x4 h) := by
  intro q
  induction q with
  | zero =>
    intro x1 x2 x3 x4 h I f_x1 f_x2 f_x4 mq
    exact mu_zu f_x4 mq rfl
  | succ q ih =>
    intro x1 x2 x3 x4 h I f_x1 f_x2 f_x4 mq
    unfold PX12_differ_128 FX12_differ_128
    refine sf_if (fun c1 => ?_) (fun c1 => ?_)
    · have f2 : iv 4 4 x4 := iv_ler f_x4 (iv_lit (lo := 4) (hi := 4) (x := 4) rfl) c1 rfl
      exact ⟨trivial, Qi_mk (iv_any x3) I⟩
    · have f3 : iv 0 3 x4 := iv_ltl f_x4 (iv_lit (lo := 4) (hi := 4) (x := 4) rfl) (nle c1) rfl
      have f4 : iv 0 1200 (4 * x1) := iv_mul (c := 4) rfl f_x1 rfl
      have f5 : iv 0 1203 ((4 * x1) + x4) := iv_add f4 f3 rfl
      refine sf_n (iv_in f5 rfl) ?_
      have f6 : iv 0 1200 (4 * x2) := iv_mul (c := 4) rfl f_x2 rfl
      have f7 : iv 0 1203 ((4 * x2) + x4) := iv_add f6 f3 rfl
      refine sf_n (iv_in f7 rfl) ?_
      refine sf_if (fun c8 => ?_) (fun c8 => ?_)
      · unfold PX12_differ_165 FX12_differ_165
        have f9 : iv 1 4 (x4 + 1) := iv_add f3 (iv_lit (lo := 1) (hi := 1) (x := 1) rfl) rfl
        exact ih x1 x2 (x3 + 0) (x4 + 1) h I f_x1 f_x2 (iv_w (c := 0) (d := 4) f9 rfl) (mu_up f3 mq rfl)
      · unfold PX12_differ_165 FX12_differ_165
        have f10 : iv 1 4 (x4 + 1) := iv_add f3 (iv_lit (lo := 1) (hi := 1) (x := 1) rfl) rfl
        exact ih x1 x2 (x3 + 1) (x4 + 1) h I f_x1 f_x2 (iv_w (c := 0) (d := 4) f10 rfl) (mu_up f3 mq rfl)
set_option maxRecDepth 100000 in
set_option maxHeartbeats 4000000 in
theorem SX12_differ_50 {z : zT} : ∀ (q : Nat) (x1 : Int32) (x2 : Int32) (x3 : Int32) (x4 : Int32) (h : ph_H), IM z h → iv 0 300 x1 → iv 0 300 x2 → iv 0 28 x4 → 28 - (x4).toInt < ((q : Nat) : Int) → PX12_differ_50  q x1 x2 x3 x4 h ∧ Qi z (-2147483648) 2147483647 (FX12_differ_50  q x1 x2 x3 x4 h) := by
  intro q
  induction q with
  | zero =>
    intro x1 x2 x3 x4 h I f_x1 f_x2 f_x4 mq
    exact mu_zu f_x4 mq rfl
  | succ q ih =>
    intro x1 x2 x3 x4 h I f_x1 f_x2 f_x4 mq
    unfold PX12_differ_50 FX12_differ_50
    refine sf_if (fun c1 => ?_) (fun c1 => ?_)
    · have f2 : iv 28 28 x4 := iv_ler f_x4 (iv_lit (lo := 28) (hi := 28) (x := 28) rfl) c1 rfl
      exact SX12_differ_128 2000 x1 x2 x3 0 h I f_x1 f_x2 (iv_w (c := 0) (d := 4) (iv_lit (lo := 0) (hi := 0) (x := 0) rfl) rfl) (mu_0u (iv_lit (lo := 0) (hi := 0) (x := 0) rfl) rfl)
    · have f3 : iv 0 27 x4 := iv_ltl f_x4 (iv_lit (lo := 28) (hi := 28) (x := 28) rfl) (nle c1) rfl
      have f4 : iv 0 8400 (28 * x1) := iv_mul (c := 28) rfl f_x1 rfl
      have f5 : iv 0 8427 ((28 * x1) + x4) := iv_add f4 f3 rfl
      refine sf_n (iv_in f5 rfl) ?_
      have f6 : iv 0 8400 (28 * x2) := iv_mul (c := 28) rfl f_x2 rfl
      have f7 : iv 0 8427 ((28 * x2) + x4) := iv_add f6 f3 rfl
      refine sf_n (iv_in f7 rfl) ?_
      refine sf_if (fun c8 => ?_) (fun c8 => ?_)
      · refine sf_n (iv_in f5 rfl) ?_
        refine sf_n (iv_in f7 rfl) ?_
        refine sf_if (fun c9 => ?_) (fun c9 => ?_)
        · unfold PX12_differ_117 FX12_differ_117
          have f10 : iv 1 28 (x4 + 1) := iv_add f3 (iv_lit (lo := 1) (hi := 1) (x := 1) rfl) rfl
          exact ih x1 x2 (x3 + 0) (x4 + 1) h I f_x1 f_x2 (iv_w (c := 0) (d := 28) f10 rfl) (mu_up f3 mq rfl)
        · unfold PX12_differ_112 FX12_differ_112
          unfold PX12_differ_117 FX12_differ_117
          have f11 : iv 1 28 (x4 + 1) := iv_add f3 (iv_lit (lo := 1) (hi := 1) (x := 1) rfl) rfl
          exact ih x1 x2 (x3 + 1) (x4 + 1) h I f_x1 f_x2 (iv_w (c := 0) (d := 28) f11 rfl) (mu_up f3 mq rfl)
      · unfold PX12_differ_112 FX12_differ_112
        unfold PX12_differ_117 FX12_differ_117
        have f12 : iv 1 28 (x4 + 1) := iv_add f3 (iv_lit (lo := 1) (hi := 1) (x := 1) rfl) rfl
        exact ih x1 x2 (x3 + 1) (x4 + 1) h I f_x1 f_x2 (iv_w (c := 0) (d := 28) f12 rfl) (mu_up f3 mq rfl)
set_option maxRecDepth 100000 in
set_option maxHeartbeats 4000000 in
theorem SX12_differ {z : zT} (a0 : Int32) (a1 : Int32) (h : ph_H) (I : IM z h) : PX12_differ a0 a1 h ∧ Qi z (-2147483648) 2147483647 (FX12_differ a0 a1 h) := by
  unfold PX12_differ FX12_differ
  have I1 : IM z (hs h 0 0 0) := IMs I (k := 0) (i := 0) (v := 0) (iv_any 0) rfl
  have f2 : iv 0 1 (h 0 36) := IMv I 0 _
  refine sf_if (fun c3 => ?_) (fun c3 => ?_)
  · have f4 : iv 0 0 (h 0 36) := iv_eql f2 (iv_lit (lo := 0) (hi := 0) (x := 0) rfl) c3 rfl
    exact ⟨trivial, Qi_mk (iv_any (-2)) I1⟩
  · have f5 : iv 1 1 (h 0 36) := iv_nel f2 c3 rfl
    have f6 : iv 0 300 (h 0 38) := IMv I 0 _
    refine sf_n isIn_p ?_
    refine sf_if (fun c7 => ?_) (fun c7 => ?_)
    · have f8 : iv 0 0 (FX12_isIn a0.toInt64 0 ((h 0 38).toInt64)) := iv_eql (isIn_b (x := a0.toInt64) (l := 0) (u := (h 0 38).toInt64)) (iv_lit (lo := 0) (hi := 0) (x := 0) rfl) c7 rfl
      exact ⟨trivial, Qi_mk (iv_any (-1)) I1⟩
    · have f9 : iv 0 300 a0 := isIn_iv (iv_any a0) (lw_lit (lo := 0) (hi := 0) (x := 0) rfl) (lw_of f6) c7 rfl
      have f10 : iv 1 1 (FX12_isIn a0.toInt64 0 ((h 0 38).toInt64)) := iv_nel (isIn_b (x := a0.toInt64) (l := 0) (u := (h 0 38).toInt64)) c7 rfl
      refine sf_n isIn_p ?_
      refine sf_if (fun c11 => ?_) (fun c11 => ?_)
      · have f12 : iv 0 0 (FX12_isIn a1.toInt64 0 ((h 0 38).toInt64)) := iv_eql (isIn_b (x := a1.toInt64) (l := 0) (u := (h 0 38).toInt64)) (iv_lit (lo := 0) (hi := 0) (x := 0) rfl) c11 rfl
        exact ⟨trivial, Qi_mk (iv_any (-1)) I1⟩
      · have f13 : iv 0 300 a1 := isIn_iv (iv_any a1) (lw_lit (lo := 0) (hi := 0) (x := 0) rfl) (lw_of f6) c11 rfl
        have f14 : iv 1 1 (FX12_isIn a1.toInt64 0 ((h 0 38).toInt64)) := iv_nel (isIn_b (x := a1.toInt64) (l := 0) (u := (h 0 38).toInt64)) c11 rfl
        exact SX12_differ_50 2000 a0 a1 0 0 (hs h 0 0 0) I1 f9 f13 (iv_w (c := 0) (d := 28) (iv_lit (lo := 0) (hi := 0) (x := 0) rfl) rfl) (mu_0u (iv_lit (lo := 0) (hi := 0) (x := 0) rfl) rfl)

-- X12_isOver
set_option maxRecDepth 100000 in
set_option maxHeartbeats 4000000 in
theorem SX12_isOver_42 {z : zT} : ∀ (q : Nat) (x1 : Int32) (h : ph_H), IM z h → iv 0 2 x1 → 2 - (x1).toInt < ((q : Nat) : Int) → PX12_isOver_42  q x1 h ∧ Qi z 0 1 (FX12_isOver_42  q x1 h) := by
  intro q
  induction q with
  | zero =>
    intro x1 h I f_x1 mq
    exact mu_zu f_x1 mq rfl
  | succ q ih =>
    intro x1 h I f_x1 mq
    unfold PX12_isOver_42 FX12_isOver_42
    refine sf_if (fun c1 => ?_) (fun c1 => ?_)
    · have f2 : iv 2 2 x1 := iv_ler f_x1 (iv_lit (lo := 2) (hi := 2) (x := 2) rfl) c1 rfl
      have I3 : IM z (hs h 0 73 (h 0 25)) := IMs I (k := 0) (i := 73) (v := (h 0 25)) (iv_any (h 0 25)) rfl
      unfold PX12_isOver_85 FX12_isOver_85
      refine sf_if (fun c4 => ?_) (fun c4 => ?_)
      · have f5 : iv 1 2147483647 ((hs h 0 73 (h 0 25)) 0 69) := iv_ltr (iv_any ((hs h 0 73 (h 0 25)) 0 69)) (iv_lit (lo := 0) (hi := 0) (x := 0) rfl) c4 rfl
        unfold PX12_isOver_103 FX12_isOver_103
        exact ⟨trivial, Qi_mk (iv_w (c := 0) (d := 1) (iv_lit (lo := 1) (hi := 1) (x := 1) rfl) rfl) I3⟩
      · have f6 : iv (-2147483648) 0 ((hs h 0 73 (h 0 25)) 0 69) := iv_lel (iv_any ((hs h 0 73 (h 0 25)) 0 69)) (iv_lit (lo := 0) (hi := 0) (x := 0) rfl) (nlt c4) rfl
        refine sf_if (fun c7 => ?_) (fun c7 => ?_)
        · unfold PX12_isOver_103 FX12_isOver_103
          exact ⟨trivial, Qi_mk (iv_w (c := 0) (d := 1) (iv_lit (lo := 1) (hi := 1) (x := 1) rfl) rfl) I3⟩
        · exact ⟨trivial, Qi_mk (iv_w (c := 0) (d := 1) (iv_lit (lo := 0) (hi := 0) (x := 0) rfl) rfl) I3⟩
    · have f8 : iv 0 1 x1 := iv_ltl f_x1 (iv_lit (lo := 2) (hi := 2) (x := 2) rfl) (nle c1) rfl
      refine sf_n (iv_in f8 rfl) ?_
      refine sf_n (iv_in f8 rfl) ?_
      have I9 : IM z (hs h 40 x1.toNatClampNeg (h 42 (x1.toNatClampNeg))) := IMs I (k := 40) (i := x1.toNatClampNeg) (v := (h 42 (x1.toNatClampNeg))) (iv_any (h 42 (x1.toNatClampNeg))) rfl
      refine sf_n (iv_in f8 rfl) ?_
      have f10 : iv 0 3 (h 43 (x1.toNatClampNeg)) := IMv I 43 _
      refine sf_n (iv_in f8 rfl) ?_
      have I11 : IM z (hs (hs h 40 x1.toNatClampNeg (h 42 (x1.toNatClampNeg))) 41 x1.toNatClampNeg (h 43 (x1.toNatClampNeg))) := IMs I9 (k := 41) (i := x1.toNatClampNeg) (v := (h 43 (x1.toNatClampNeg))) (iv_any (h 43 (x1.toNatClampNeg))) rfl
      have f12 : iv 1 2 (x1 + 1) := iv_add f8 (iv_lit (lo := 1) (hi := 1) (x := 1) rfl) rfl
      exact ih (x1 + 1) (hs (hs h 40 x1.toNatClampNeg (h 42 (x1.toNatClampNeg))) 41 x1.toNatClampNeg (h 43 (x1.toNatClampNeg))) I11 (iv_w (c := 0) (d := 2) f12 rfl) (mu_up f8 mq rfl)
set_option maxRecDepth 100000 in
set_option maxHeartbeats 4000000 in
theorem SX12_isOver {z : zT} (h : ph_H) (I : IM z h) : PX12_isOver h ∧ Qi z 0 1 (FX12_isOver h) := by
  unfold PX12_isOver FX12_isOver
  have I1 : IM z (hs h 0 67 ((h 0 67) + 1)) := IMs I (k := 0) (i := 67) (v := ((h 0 67) + 1)) (iv_any ((h 0 67) + 1)) rfl
  refine sf_if (fun c2 => ?_) (fun c2 => ?_)
  · have f3 : iv (-2147483648) 0 (h 0 25) := iv_lel (iv_any (h 0 25)) (iv_lit (lo := 0) (hi := 0) (x := 0) rfl) c2 rfl
    unfold PX12_isOver_85 FX12_isOver_85
    refine sf_if (fun c4 => ?_) (fun c4 => ?_)
    · have f5 : iv 1 2147483647 ((hs h 0 67 ((h 0 67) + 1)) 0 69) := iv_ltr (iv_any ((hs h 0 67 ((h 0 67) + 1)) 0 69)) (iv_lit (lo := 0) (hi := 0) (x := 0) rfl) c4 rfl
      unfold PX12_isOver_103 FX12_isOver_103
      exact ⟨trivial, Qi_mk (iv_w (c := 0) (d := 1) (iv_lit (lo := 1) (hi := 1) (x := 1) rfl) rfl) I1⟩
    · have f6 : iv (-2147483648) 0 ((hs h 0 67 ((h 0 67) + 1)) 0 69) := iv_lel (iv_any ((hs h 0 67 ((h 0 67) + 1)) 0 69)) (iv_lit (lo := 0) (hi := 0) (x := 0) rfl) (nlt c4) rfl
      refine sf_if (fun c7 => ?_) (fun c7 => ?_)
      · unfold PX12_isOver_103 FX12_isOver_103
        exact ⟨trivial, Qi_mk (iv_w (c := 0) (d := 1) (iv_lit (lo := 1) (hi := 1) (x := 1) rfl) rfl) I1⟩
      · exact ⟨trivial, Qi_mk (iv_w (c := 0) (d := 1) (iv_lit (lo := 0) (hi := 0) (x := 0) rfl) rfl) I1⟩
  · have f8 : iv 1 2147483647 (h 0 25) := iv_ltr (iv_any (h 0 25)) (iv_lit (lo := 0) (hi := 0) (x := 0) rfl) (nle c2) rfl
    refine sf_if (fun c9 => ?_) (fun c9 => ?_)
    · have f10 : iv 0 0 (h 0 69) := iv_eql (iv_any (h 0 69)) (iv_lit (lo := 0) (hi := 0) (x := 0) rfl) c9 rfl
      have I11 : IM z (hs (hs h 0 67 ((h 0 67) + 1)) 0 69 ((h 0 67) + 1)) := IMs I1 (k := 0) (i := 69) (v := ((h 0 67) + 1)) (iv_any ((h 0 67) + 1)) rfl
      have f12 : iv 0 2 (h 0 74) := IMv I 0 _
      have I13 : IM z (hs (hs (hs h 0 67 ((h 0 67) + 1)) 0 69 ((h 0 67) + 1)) 0 70 (h 0 74)) := IMs I11 (k := 0) (i := 70) (v := (h 0 74)) (iv_any (h 0 74)) rfl
      exact SX12_isOver_42 2000 0 (hs (hs (hs h 0 67 ((h 0 67) + 1)) 0 69 ((h 0 67) + 1)) 0 70 (h 0 74)) I13 (iv_w (c := 0) (d := 2) (iv_lit (lo := 0) (hi := 0) (x := 0) rfl) rfl) (mu_0u (iv_lit (lo := 0) (hi := 0) (x := 0) rfl) rfl)
    · unfold PX12_isOver_85 FX12_isOver_85
      refine sf_if (fun c14 => ?_) (fun c14 => ?_)
      · have f15 : iv 1 2147483647 ((hs h 0 67 ((h 0 67) + 1)) 0 69) := iv_ltr (iv_any ((hs h 0 67 ((h 0 67) + 1)) 0 69)) (iv_lit (lo := 0) (hi := 0) (x := 0) rfl) c14 rfl
        unfold PX12_isOver_103 FX12_isOver_103
        exact ⟨trivial, Qi_mk (iv_w (c := 0) (d := 1) (iv_lit (lo := 1) (hi := 1) (x := 1) rfl) rfl) I1⟩
      · have f16 : iv (-2147483648) 0 ((hs h 0 67 ((h 0 67) + 1)) 0 69) := iv_lel (iv_any ((hs h 0 67 ((h 0 67) + 1)) 0 69)) (iv_lit (lo := 0) (hi := 0) (x := 0) rfl) (nlt c14) rfl
        refine sf_if (fun c17 => ?_) (fun c17 => ?_)
        · unfold PX12_isOver_103 FX12_isOver_103
          exact ⟨trivial, Qi_mk (iv_w (c := 0) (d := 1) (iv_lit (lo := 1) (hi := 1) (x := 1) rfl) rfl) I1⟩
        · exact ⟨trivial, Qi_mk (iv_w (c := 0) (d := 1) (iv_lit (lo := 0) (hi := 0) (x := 0) rfl) rfl) I1⟩

-- X12_found
set_option maxRecDepth 100000 in
set_option maxHeartbeats 4000000 in
theorem SX12_found {z : zT} (a0 : Int32) (h : ph_H) (I : IM z h) : PX12_found a0 h ∧ Qi z (-2147483648) 2147483647 (FX12_found a0 h) := by
  unfold PX12_found FX12_found
  have I1 : IM z (hs h 0 0 0) := IMs I (k := 0) (i := 0) (v := 0) (iv_any 0) rfl
  refine sf_n isIn_p ?_
  refine sf_if (fun c2 => ?_) (fun c2 => ?_)
  · have f3 : iv 0 0 (FX12_isIn a0.toInt64 0 6) := iv_eql (isIn_b (x := a0.toInt64) (l := 0) (u := 6)) (iv_lit (lo := 0) (hi := 0) (x := 0) rfl) c2 rfl
    exact ⟨trivial, Qi_mk (iv_any (-1)) I1⟩
  · have f4 : iv 0 6 a0 := isIn_iv (iv_any a0) (lw_lit (lo := 0) (hi := 0) (x := 0) rfl) (lw_lit (lo := 6) (hi := 6) (x := 6) rfl) c2 rfl
    have f5 : iv 1 1 (FX12_isIn a0.toInt64 0 6) := iv_nel (isIn_b (x := a0.toInt64) (l := 0) (u := 6)) c2 rfl
    refine sf_if (fun c6 => ?_) (fun c6 => ?_)
    · have f7 : iv 6 6 a0 := iv_eql f4 (iv_lit (lo := 6) (hi := 6) (x := 6) rfl) c6 rfl
      exact ⟨trivial, Qi_mk (iv_any (h 0 67)) I1⟩
    · have f8 : iv 0 5 a0 := iv_nel f4 c6 rfl
      refine sf_if (fun c9 => ?_) (fun c9 => ?_)
      · have f10 : iv 0 0 (h 0 69) := iv_eql (iv_any (h 0 69)) (iv_lit (lo := 0) (hi := 0) (x := 0) rfl) c9 rfl
        exact ⟨trivial, Qi_mk (iv_any (-2)) I1⟩
      · refine sf_if (fun c11 => ?_) (fun c11 => ?_)
        · have f12 : iv 0 0 a0 := iv_eql f8 (iv_lit (lo := 0) (hi := 0) (x := 0) rfl) c11 rfl
          unfold PX12_found_49 FX12_found_49
          refine sf_if (fun c13 => ?_) (fun c13 => ?_)
          · exact ⟨trivial, Qi_mk (iv_any ((hs h 0 0 0) 0 70)) I1⟩
          · have f14 : iv 0 (-1) a0 := iv_nel f12 c13 rfl
            exact iv_no f14 rfl
        · have f15 : iv 1 5 a0 := iv_nel f8 c11 rfl
          refine sf_if (fun c16 => ?_) (fun c16 => ?_)
          · have f17 : iv 5 5 a0 := iv_eql f15 (iv_lit (lo := 5) (hi := 5) (x := 5) rfl) c16 rfl
            unfold PX12_found_49 FX12_found_49
            refine sf_if (fun c18 => ?_) (fun c18 => ?_)
            · have f19 : iv 5 0 a0 := iv_eql f17 (iv_lit (lo := 0) (hi := 0) (x := 0) rfl) c18 rfl
              exact iv_no f19 rfl
            · exact ⟨trivial, Qi_mk (iv_any ((hs h 0 0 0) 0 73)) I1⟩
          · have f20 : iv 1 4 a0 := iv_nel f15 c16 rfl
            refine sf_if (fun c21 => ?_) (fun c21 => ?_)
            · have f22 : iv 3 4 a0 := iv_ler f20 (iv_lit (lo := 3) (hi := 3) (x := 3) rfl) c21 rfl
              unfold PX12_found_75 FX12_found_75
              refine sf_if (fun c23 => ?_) (fun c23 => ?_)
              · have f24 : iv 2 2147483647 ((hs h 0 0 0) 0 70) := iv_ltr (iv_any ((hs h 0 0 0) 0 70)) (iv_lit (lo := 1) (hi := 1) (x := 1) rfl) c23 rfl
                refine sf_if (fun c25 => ?_) (fun c25 => ?_)
                · have f26 : iv 1 1 (a0 - a0 / 2 * 2) := iv_eql (iv_any (a0 - a0 / 2 * 2)) (iv_lit (lo := 1) (hi := 1) (x := 1) rfl) c25 rfl
                  refine sf_n (iv_in (iv_lit (lo := 1) (hi := 1) (x := 1) rfl) rfl) ?_
                  exact ⟨trivial, Qi_mk (iv_any ((hs h 0 0 0) 40 ((1 : Int32).toNatClampNeg))) I1⟩
                · refine sf_n (iv_in (iv_lit (lo := 1) (hi := 1) (x := 1) rfl) rfl) ?_
                  exact ⟨trivial, Qi_mk (iv_any ((hs h 0 0 0) 41 ((1 : Int32).toNatClampNeg))) I1⟩
              · have f27 : iv (-2147483648) 1 ((hs h 0 0 0) 0 70) := iv_lel (iv_any ((hs h 0 0 0) 0 70)) (iv_lit (lo := 1) (hi := 1) (x := 1) rfl) (nlt c23) rfl
                exact ⟨trivial, Qi_mk (iv_any (-2)) I1⟩
            · have f28 : iv 1 2 a0 := iv_ltl f20 (iv_lit (lo := 3) (hi := 3) (x := 3) rfl) (nle c21) rfl
              unfold PX12_found_75 FX12_found_75
              refine sf_if (fun c29 => ?_) (fun c29 => ?_)
              · have f30 : iv 1 2147483647 ((hs h 0 0 0) 0 70) := iv_ltr (iv_any ((hs h 0 0 0) 0 70)) (iv_lit (lo := 0) (hi := 0) (x := 0) rfl) c29 rfl
                refine sf_if (fun c31 => ?_) (fun c31 => ?_)
                · have f32 : iv 1 1 (a0 - a0 / 2 * 2) := iv_eql (iv_any (a0 - a0 / 2 * 2)) (iv_lit (lo := 1) (hi := 1) (x := 1) rfl) c31 rfl
                  refine sf_n (iv_in (iv_lit (lo := 0) (hi := 0) (x := 0) rfl) rfl) ?_
                  exact ⟨trivial, Qi_mk (iv_any ((hs h 0 0 0) 40 ((0 : Int32).toNatClampNeg))) I1⟩
                · refine sf_n (iv_in (iv_lit (lo := 0) (hi := 0) (x := 0) rfl) rfl) ?_
                  exact ⟨trivial, Qi_mk (iv_any ((hs h 0 0 0) 41 ((0 : Int32).toNatClampNeg))) I1⟩
              · have f33 : iv (-2147483648) 0 ((hs h 0 0 0) 0 70) := iv_lel (iv_any ((hs h 0 0 0) 0 70)) (iv_lit (lo := 0) (hi := 0) (x := 0) rfl) (nlt c29) rfl
                exact ⟨trivial, Qi_mk (iv_any (-2)) I1⟩

-- X12_isShelf
set_option maxRecDepth 100000 in
set_option maxHeartbeats 4000000 in
theorem SX12_isShelf  (a0 : Int32) : PX12_isShelf a0 ∧ Qc 0 1 (fun r => ¬ r = 0 → iv 0 7 a0) (FX12_isShelf a0) := by
  unfold PX12_isShelf FX12_isShelf
  refine sf_if (fun c1 => ?_) (fun c1 => ?_)
  · have f2 : iv (-2147483648) (-1) a0 := iv_ltl (iv_any a0) (iv_lit (lo := 0) (hi := 0) (x := 0) rfl) c1 rfl
    exact ⟨trivial, (iv_w (c := 0) (d := 1) (iv_lit (lo := 0) (hi := 0) (x := 0) rfl) rfl), fun z => absurd rfl z⟩
  · have f3 : iv 0 2147483647 a0 := iv_ler (iv_any a0) (iv_lit (lo := 0) (hi := 0) (x := 0) rfl) (nlt c1) rfl
    refine sf_if (fun c4 => ?_) (fun c4 => ?_)
    · have f5 : iv 8 2147483647 a0 := iv_ler f3 (iv_lit (lo := 8) (hi := 8) (x := 8) rfl) c4 rfl
      exact ⟨trivial, (iv_w (c := 0) (d := 1) (iv_lit (lo := 0) (hi := 0) (x := 0) rfl) rfl), fun z => absurd rfl z⟩
    · have f6 : iv 0 7 a0 := iv_ltl f3 (iv_lit (lo := 8) (hi := 8) (x := 8) rfl) (nle c4) rfl
      exact ⟨trivial, (iv_w (c := 0) (d := 1) (iv_lit (lo := 1) (hi := 1) (x := 1) rfl) rfl), fun _ => f6⟩

-- X12_make
set_option maxRecDepth 100000 in
set_option maxHeartbeats 4000000 in
theorem SX12_make_58 {z : zT} : ∀ (q : Nat) (x1 : Int32) (x3 : Int32) (x4 : Int32) (h : ph_H), IM z h → iv 0 7 x1 → iv 0 60 x3 → iv 0 60 x4 → 60 - (x4).toInt < ((q : Nat) : Int) → PX12_make_58  q x1 x3 x4 h ∧ Qi z (-14) 0 (FX12_make_58  q x1 x3 x4 h) := by
  intro q
  induction q with
  | zero =>
    intro x1 x3 x4 h I f_x1 f_x3 f_x4 mq
    exact mu_zu f_x4 mq rfl
  | succ q ih =>
    intro x1 x3 x4 h I f_x1 f_x3 f_x4 mq
    unfold PX12_make_58 FX12_make_58
    refine sf_if (fun c1 => ?_) (fun c1 => ?_)
    · exact ⟨trivial, Qi_mk (iv_w (c := (-14)) (d := 0) (iv_lit (lo := 0) (hi := 0) (x := 0) rfl) rfl) I⟩
    · have f2 : iv 0 59 x4 := iv_ltl f_x4 f_x3 (nle c1) rfl
      have f3 : iv 1 60 x3 := iv_ltr f_x3 f_x4 (nle c1) rfl
      have f4 : iv 0 420 (60 * x1) := iv_mul (c := 60) rfl f_x1 rfl
      have f5 : iv 0 479 ((60 * x1) + x4) := iv_add f4 f2 rfl
      refine sf_n (iv_in f5 rfl) ?_
      have I6 : IM z (hs h 48 ((60 * x1) + x4).toNatClampNeg 0) := IMs I (k := 48) (i := ((60 * x1) + x4).toNatClampNeg) (v := 0) (iv_any 0) rfl
      have f7 : iv 1 60 (x4 + 1) := iv_add f2 (iv_lit (lo := 1) (hi := 1) (x := 1) rfl) rfl
      exact ih x1 x3 (x4 + 1) (hs h 48 ((60 * x1) + x4).toNatClampNeg 0) I6 f_x1 (iv_w (c := 0) (d := 60) f3 rfl) (iv_w (c := 0) (d := 60) f7 rfl) (mu_up f2 mq rfl)
set_option maxRecDepth 100000 in
set_option maxHeartbeats 4000000 in
theorem SX12_make {z : zT} (a0 : Int32) (a1 : Int32) (a2 : Int32) (h : ph_H) (I : IM z h) : PX12_make a0 a1 a2 h ∧ Qi z (-14) 0 (FX12_make a0 a1 a2 h) := by
  unfold PX12_make FX12_make
  have I1 : IM z (hs h 0 0 0) := IMs I (k := 0) (i := 0) (v := 0) (iv_any 0) rfl
  have s2 := SX12_isShelf a0 
  refine sf_n s2.1 ?_
  refine sf_if (fun c3 => ?_) (fun c3 => ?_)
  · have f4 : iv 0 0 (FX12_isShelf a0) := iv_eql s2.2.1 (iv_lit (lo := 0) (hi := 0) (x := 0) rfl) c3 rfl
    exact ⟨trivial, Qi_mk (iv_w (c := (-14)) (d := 0) (iv_lit (lo := (-1)) (hi := (-1)) (x := (-1)) rfl) rfl) I1⟩
  · have f5 : iv 0 7 a0 := iv_and (iv_any _) (s2.2.2 c3) rfl
    have f6 : iv 1 1 (FX12_isShelf a0) := iv_nel s2.2.1 c3 rfl
    refine sf_n isIn_p ?_
    refine sf_if (fun c7 => ?_) (fun c7 => ?_)
    · have f8 : iv 0 0 (FX12_isIn a1.toInt64 2 3) := iv_eql (isIn_b (x := a1.toInt64) (l := 2) (u := 3)) (iv_lit (lo := 0) (hi := 0) (x := 0) rfl) c7 rfl
      exact ⟨trivial, Qi_mk (iv_w (c := (-14)) (d := 0) (iv_lit (lo := (-1)) (hi := (-1)) (x := (-1)) rfl) rfl) I1⟩
    · have f9 : iv 2 3 a1 := isIn_iv (iv_any a1) (lw_lit (lo := 2) (hi := 2) (x := 2) rfl) (lw_lit (lo := 3) (hi := 3) (x := 3) rfl) c7 rfl
      have f10 : iv 1 1 (FX12_isIn a1.toInt64 2 3) := iv_nel (isIn_b (x := a1.toInt64) (l := 2) (u := 3)) c7 rfl
      refine sf_if (fun c11 => ?_) (fun c11 => ?_)
      · have f12 : iv (-2147483648) 60 a2 := iv_lel (iv_any a2) (iv_lit (lo := 60) (hi := 60) (x := 60) rfl) c11 rfl
        refine sf_if (fun c13 => ?_) (fun c13 => ?_)
        · have f14 : iv 0 60 a2 := iv_ler f12 (iv_lit (lo := 0) (hi := 0) (x := 0) rfl) c13 rfl
          refine sf_n (iv_in f5 rfl) ?_
          have I15 : IM z (hs (hs h 0 0 0) 44 a0.toNatClampNeg a1) := IMs I1 (k := 44) (i := a0.toNatClampNeg) (v := a1) (iv_any a1) rfl
          refine sf_n (iv_in f5 rfl) ?_
          have I16 : IM z (hs (hs (hs h 0 0 0) 44 a0.toNatClampNeg a1) 45 a0.toNatClampNeg a2) := IMs I15 (k := 45) (i := a0.toNatClampNeg) (v := a2) f14 rfl
          exact SX12_make_58 2000 a0 a2 0 (hs (hs (hs h 0 0 0) 44 a0.toNatClampNeg a1) 45 a0.toNatClampNeg a2) I16 f5 f14 (iv_w (c := 0) (d := 60) (iv_lit (lo := 0) (hi := 0) (x := 0) rfl) rfl) (mu_0u (iv_lit (lo := 0) (hi := 0) (x := 0) rfl) rfl)
        · have f17 : iv (-2147483648) (-1) a2 := iv_ltl f12 (iv_lit (lo := 0) (hi := 0) (x := 0) rfl) (nle c13) rfl
          exact ⟨trivial, Qi_mk (iv_w (c := (-14)) (d := 0) (iv_lit (lo := (-14)) (hi := (-14)) (x := (-14)) rfl) rfl) I1⟩
      · have f18 : iv 61 2147483647 a2 := iv_ltr (iv_any a2) (iv_lit (lo := 60) (hi := 60) (x := 60) rfl) (nle c11) rfl
        exact ⟨trivial, Qi_mk (iv_w (c := (-14)) (d := 0) (iv_lit (lo := (-1)) (hi := (-1)) (x := (-1)) rfl) rfl) I1⟩

-- X12_element
set_option maxRecDepth 100000 in
set_option maxHeartbeats 4000000 in
theorem SX12_element {z : zT} (a0 : Int32) (a1 : Int32) (h : ph_H) (I : IM z h) : PX12_element a0 a1 h ∧ Qi z (-2147483648) 2147483647 (FX12_element a0 a1 h) := by
  unfold PX12_element FX12_element
  have s1 := SX12_isShelf a0 
  refine sf_n s1.1 ?_
  refine sf_if (fun c2 => ?_) (fun c2 => ?_)
  · have f3 : iv 0 0 (FX12_isShelf a0) := iv_eql s1.2.1 (iv_lit (lo := 0) (hi := 0) (x := 0) rfl) c2 rfl
    unfold PX12_element_39 FX12_element_39
    unfold PX12_element_40 FX12_element_40
    have s4 := SX12_isShelf a0 
    refine sf_n s4.1 ?_
    refine sf_if (fun c5 => ?_) (fun c5 => ?_)
    · have f6 : iv 0 0 (FX12_isShelf a0) := iv_eql s4.2.1 (iv_lit (lo := 0) (hi := 0) (x := 0) rfl) c5 rfl
      unfold PX12_element_62 FX12_element_62
      have I7 : IM z (hs h 0 0 1) := IMs I (k := 0) (i := 0) (v := 1) (iv_any 1) rfl
      refine sf_if (fun c8 => ?_) (fun c8 => ?_)
      · exact ⟨trivial, Qi_mk (iv_any 0) I7⟩
      · exact absurd rfl c8
    · have f9 : iv 0 7 a0 := iv_and (iv_any _) (s4.2.2 c5) rfl
      have f10 : iv 1 1 (FX12_isShelf a0) := iv_nel s4.2.1 c5 rfl
      refine sf_if (fun c11 => ?_) (fun c11 => ?_)
      · unfold PX12_element_62 FX12_element_62
        have I12 : IM z (hs h 0 0 2) := IMs I (k := 0) (i := 0) (v := 2) (iv_any 2) rfl
        refine sf_if (fun c13 => ?_) (fun c13 => ?_)
        · exact ⟨trivial, Qi_mk (iv_any 0) I12⟩
        · exact absurd rfl c13
      · exact absurd rfl c11
  · have f14 : iv 0 7 a0 := iv_and (iv_any _) (s1.2.2 c2) rfl
    have f15 : iv 1 1 (FX12_isShelf a0) := iv_nel s1.2.1 c2 rfl
    refine sf_n (iv_in f14 rfl) ?_
    refine sf_if (fun c16 => ?_) (fun c16 => ?_)
    · have f17 : iv (-2147483648) 1 (h 44 (a0.toNatClampNeg)) := iv_lel (iv_any (h 44 (a0.toNatClampNeg))) (iv_lit (lo := 1) (hi := 1) (x := 1) rfl) c16 rfl
      unfold PX12_element_39 FX12_element_39
      unfold PX12_element_40 FX12_element_40
      have s18 := SX12_isShelf a0 
      refine sf_n s18.1 ?_
      refine sf_if (fun c19 => ?_) (fun c19 => ?_)
      · have f20 : iv 0 0 (FX12_isShelf a0) := iv_eql s18.2.1 (iv_lit (lo := 0) (hi := 0) (x := 0) rfl) c19 rfl
        unfold PX12_element_62 FX12_element_62
        have I21 : IM z (hs h 0 0 1) := IMs I (k := 0) (i := 0) (v := 1) (iv_any 1) rfl
        refine sf_if (fun c22 => ?_) (fun c22 => ?_)
        · exact ⟨trivial, Qi_mk (iv_any 0) I21⟩
        · exact absurd rfl c22
      · have f23 : iv 1 1 (FX12_isShelf a0) := iv_nel s18.2.1 c19 rfl
        refine sf_if (fun c24 => ?_) (fun c24 => ?_)
        · unfold PX12_element_62 FX12_element_62
          have I25 : IM z (hs h 0 0 2) := IMs I (k := 0) (i := 0) (v := 2) (iv_any 2) rfl
          refine sf_if (fun c26 => ?_) (fun c26 => ?_)
          · exact ⟨trivial, Qi_mk (iv_any 0) I25⟩
          · exact absurd rfl c26
        · exact absurd rfl c24
    · have f27 : iv 2 2147483647 (h 44 (a0.toNatClampNeg)) := iv_ltr (iv_any (h 44 (a0.toNatClampNeg))) (iv_lit (lo := 1) (hi := 1) (x := 1) rfl) (nle c16) rfl
      refine sf_n (iv_in f14 rfl) ?_
      have f28 : iv 0 60 (h 45 (a0.toNatClampNeg)) := IMv I 45 _
      have f29 : iv (-1) 59 ((h 45 (a0.toNatClampNeg)) - 1) := iv_sub f28 (iv_lit (lo := 1) (hi := 1) (x := 1) rfl) rfl
      refine sf_n isIn_p ?_
      refine sf_if (fun c30 => ?_) (fun c30 => ?_)
      · have f31 : iv 0 0 (FX12_isIn a1.toInt64 0 (((h 45 (a0.toNatClampNeg)) - 1).toInt64)) := iv_eql (isIn_b (x := a1.toInt64) (l := 0) (u := ((h 45 (a0.toNatClampNeg)) - 1).toInt64)) (iv_lit (lo := 0) (hi := 0) (x := 0) rfl) c30 rfl
        unfold PX12_element_39 FX12_element_39
        unfold PX12_element_40 FX12_element_40
        have s32 := SX12_isShelf a0 
        refine sf_n s32.1 ?_
        refine sf_if (fun c33 => ?_) (fun c33 => ?_)
        · have f34 : iv 0 0 (FX12_isShelf a0) := iv_eql s32.2.1 (iv_lit (lo := 0) (hi := 0) (x := 0) rfl) c33 rfl
          unfold PX12_element_62 FX12_element_62
          have I35 : IM z (hs h 0 0 1) := IMs I (k := 0) (i := 0) (v := 1) (iv_any 1) rfl
          refine sf_if (fun c36 => ?_) (fun c36 => ?_)
          · exact ⟨trivial, Qi_mk (iv_any 0) I35⟩
          · exact absurd rfl c36
        · have f37 : iv 1 1 (FX12_isShelf a0) := iv_nel s32.2.1 c33 rfl
          refine sf_if (fun c38 => ?_) (fun c38 => ?_)
          · unfold PX12_element_62 FX12_element_62
            have I39 : IM z (hs h 0 0 2) := IMs I (k := 0) (i := 0) (v := 2) (iv_any 2) rfl
            refine sf_if (fun c40 => ?_) (fun c40 => ?_)
            · exact ⟨trivial, Qi_mk (iv_any 0) I39⟩
            · exact absurd rfl c40
          · exact absurd rfl c38
      · have f41 : iv 0 59 a1 := isIn_iv (iv_any a1) (lw_lit (lo := 0) (hi := 0) (x := 0) rfl) (lw_of f29) c30 rfl
        have f42 : iv 1 1 (FX12_isIn a1.toInt64 0 (((h 45 (a0.toNatClampNeg)) - 1).toInt64)) := iv_nel (isIn_b (x := a1.toInt64) (l := 0) (u := ((h 45 (a0.toNatClampNeg)) - 1).toInt64)) c30 rfl
        unfold PX12_element_40 FX12_element_40
        have s43 := SX12_isShelf a0 
        refine sf_n s43.1 ?_
        refine sf_if (fun c44 => ?_) (fun c44 => ?_)
        · have f45 : iv 0 0 (FX12_isShelf a0) := iv_eql s43.2.1 (iv_lit (lo := 0) (hi := 0) (x := 0) rfl) c44 rfl
          unfold PX12_element_62 FX12_element_62
          have I46 : IM z (hs h 0 0 1) := IMs I (k := 0) (i := 0) (v := 1) (iv_any 1) rfl
          refine sf_if (fun c47 => ?_) (fun c47 => ?_)
          · have f48 : iv 1 0 1 := iv_eql (iv_lit (lo := 1) (hi := 1) (x := 1) rfl) (iv_lit (lo := 0) (hi := 0) (x := 0) rfl) c47 rfl
            exact iv_no f48 rfl
          · have f49 : iv 0 420 (60 * a0) := iv_mul (c := 60) rfl f14 rfl
            have f50 : iv 0 479 ((60 * a0) + a1) := iv_add f49 f41 rfl
            refine sf_n (iv_in f50 rfl) ?_
            exact ⟨trivial, Qi_mk (iv_any (h 48 (((60 * a0) + a1).toNatClampNeg))) I46⟩
        · have f51 : iv 1 1 (FX12_isShelf a0) := iv_nel s43.2.1 c44 rfl
          refine sf_if (fun c52 => ?_) (fun c52 => ?_)
          · have f53 : iv 1 0 1 := iv_eql (iv_lit (lo := 1) (hi := 1) (x := 1) rfl) (iv_lit (lo := 0) (hi := 0) (x := 0) rfl) c52 rfl
            exact iv_no f53 rfl
          · unfold PX12_element_62 FX12_element_62
            have I54 : IM z (hs h 0 0 0) := IMs I (k := 0) (i := 0) (v := 0) (iv_any 0) rfl
            refine sf_if (fun c55 => ?_) (fun c55 => ?_)
            · have f56 : iv 1 0 1 := iv_eql (iv_lit (lo := 1) (hi := 1) (x := 1) rfl) (iv_lit (lo := 0) (hi := 0) (x := 0) rfl) c55 rfl
              exact iv_no f56 rfl
            · have f57 : iv 0 420 (60 * a0) := iv_mul (c := 60) rfl f14 rfl
              have f58 : iv 0 479 ((60 * a0) + a1) := iv_add f57 f41 rfl
              refine sf_n (iv_in f58 rfl) ?_
              exact ⟨trivial, Qi_mk (iv_any (h 48 (((60 * a0) + a1).toNatClampNeg))) I54⟩

-- X12_hasPlaces
set_option maxRecDepth 100000 in
set_option maxHeartbeats 4000000 in
theorem SX12_hasPlaces {z : zT} (a0 : Int32) (a1 : Int32) (a2 : Int32) (h : ph_H) (I : IM z h) (f_a0 : iv 0 7 a0) : PX12_hasPlaces a0 a1 a2 h ∧ iv 0 1 (FX12_hasPlaces a0 a1 a2 h) := by
  unfold PX12_hasPlaces FX12_hasPlaces
  refine sf_if (fun c1 => ?_) (fun c1 => ?_)
  · have f2 : iv (-2147483648) (-1) a2 := iv_ltl (iv_any a2) (iv_lit (lo := 0) (hi := 0) (x := 0) rfl) c1 rfl
    exact ⟨trivial, (iv_w (c := 0) (d := 1) (iv_lit (lo := 0) (hi := 0) (x := 0) rfl) rfl)⟩
  · have f3 : iv 0 2147483647 a2 := iv_ler (iv_any a2) (iv_lit (lo := 0) (hi := 0) (x := 0) rfl) (nlt c1) rfl
    refine sf_if (fun c4 => ?_) (fun c4 => ?_)
    · have f5 : iv (-2147483648) (-1) a1 := iv_ltl (iv_any a1) (iv_lit (lo := 0) (hi := 0) (x := 0) rfl) c4 rfl
      exact ⟨trivial, (iv_w (c := 0) (d := 1) (iv_lit (lo := 0) (hi := 0) (x := 0) rfl) rfl)⟩
    · have f6 : iv 0 2147483647 a1 := iv_ler (iv_any a1) (iv_lit (lo := 0) (hi := 0) (x := 0) rfl) (nlt c4) rfl
      refine sf_n (iv_in f_a0 rfl) ?_
      have f7 : iv 0 60 (h 45 (a0.toNatClampNeg)) := IMv I 45 _
      refine sf_if (fun c8 => ?_) (fun c8 => ?_)
      · have f9 : iv 1 2147483647 a1 := iv_ltr f6 f7 c8 rfl
        exact ⟨trivial, (iv_w (c := 0) (d := 1) (iv_lit (lo := 0) (hi := 0) (x := 0) rfl) rfl)⟩
      · have f10 : iv 0 60 a1 := iv_lel f6 f7 (nlt c8) rfl
        refine sf_n (iv_in f_a0 rfl) ?_
        have f11 : iv 0 60 ((h 45 (a0.toNatClampNeg)) - a1) := iv_subo f7 f10 (nlt c8) rfl
        refine sf_if (fun c12 => ?_) (fun c12 => ?_)
        · have f13 : iv 1 2147483647 a2 := iv_ltr f3 f11 c12 rfl
          exact ⟨trivial, (iv_w (c := 0) (d := 1) (iv_lit (lo := 0) (hi := 0) (x := 0) rfl) rfl)⟩
        · have f14 : iv 0 60 a2 := iv_lel f3 f11 (nlt c12) rfl
          exact ⟨trivial, (iv_w (c := 0) (d := 1) (iv_lit (lo := 1) (hi := 1) (x := 1) rfl) rfl)⟩

-- X12_denied
set_option maxRecDepth 100000 in
set_option maxHeartbeats 4000000 in
theorem SX12_denied {z : zT} (a0 : Int32) (h : ph_H) (I : IM z h) : PX12_denied a0 h ∧ Qc (-12) 0 (fun r => ¬ r < 0 → iv 0 7 a0) (FX12_denied a0 h) := by
  unfold PX12_denied FX12_denied
  have s1 := SX12_isShelf a0 
  refine sf_n s1.1 ?_
  refine sf_if (fun c2 => ?_) (fun c2 => ?_)
  · have f3 : iv 0 0 (FX12_isShelf a0) := iv_eql s1.2.1 (iv_lit (lo := 0) (hi := 0) (x := 0) rfl) c2 rfl
    exact ⟨trivial, (iv_w (c := (-12)) (d := 0) (iv_lit (lo := (-1)) (hi := (-1)) (x := (-1)) rfl) rfl), fun z => absurd (by decide) z⟩
  · have f4 : iv 0 7 a0 := iv_and (iv_any _) (s1.2.2 c2) rfl
    have f5 : iv 1 1 (FX12_isShelf a0) := iv_nel s1.2.1 c2 rfl
    refine sf_n (iv_in f4 rfl) ?_
    refine sf_if (fun c6 => ?_) (fun c6 => ?_)
    · have f7 : iv 0 0 (h 44 (a0.toNatClampNeg)) := iv_eql (iv_any (h 44 (a0.toNatClampNeg))) (iv_lit (lo := 0) (hi := 0) (x := 0) rfl) c6 rfl
      exact ⟨trivial, (iv_w (c := (-12)) (d := 0) (iv_lit (lo := (-11)) (hi := (-11)) (x := (-11)) rfl) rfl), fun z => absurd (by decide) z⟩
    · refine sf_n (iv_in f4 rfl) ?_
      refine sf_if (fun c8 => ?_) (fun c8 => ?_)
      · have f9 : iv (-2147483648) 1 (h 44 (a0.toNatClampNeg)) := iv_lel (iv_any (h 44 (a0.toNatClampNeg))) (iv_lit (lo := 1) (hi := 1) (x := 1) rfl) c8 rfl
        exact ⟨trivial, (iv_w (c := (-12)) (d := 0) (iv_lit (lo := 0) (hi := 0) (x := 0) rfl) rfl), fun _ => f4⟩
      · have f10 : iv 2 2147483647 (h 44 (a0.toNatClampNeg)) := iv_ltr (iv_any (h 44 (a0.toNatClampNeg))) (iv_lit (lo := 1) (hi := 1) (x := 1) rfl) (nle c8) rfl
        exact ⟨trivial, (iv_w (c := (-12)) (d := 0) (iv_lit (lo := (-12)) (hi := (-12)) (x := (-12)) rfl) rfl), fun z => absurd (by decide) z⟩

-- X12_weight
set_option maxRecDepth 100000 in
set_option maxHeartbeats 4000000 in
theorem SX12_weight {z : zT} (a0 : Int32) (h : ph_H) (I : IM z h) : PX12_weight a0 h ∧ Qi z (-2147483648) 2147483647 (FX12_weight a0 h) := by
  unfold PX12_weight FX12_weight
  have I1 : IM z (hs h 0 0 0) := IMs I (k := 0) (i := 0) (v := 0) (iv_any 0) rfl
  have s2 := SX12_denied (z := z) a0 (hs h 0 0 0) I1
  refine sf_n s2.1 ?_
  refine sf_if (fun c3 => ?_) (fun c3 => ?_)
  · have f4 : iv 0 7 a0 := iv_and (iv_any _) (s2.2.2 (nn_of c3)) rfl
    have f5 : iv 0 0 (FX12_denied a0 (hs h 0 0 0)) := iv_ler s2.2.1 (iv_lit (lo := 0) (hi := 0) (x := 0) rfl) c3 rfl
    refine sf_n (iv_in f4 rfl) ?_
    refine sf_n (iv_in f4 rfl) ?_
    refine sf_if (fun c6 => ?_) (fun c6 => ?_)
    · have f7 : iv 1 1 (h 47 (a0.toNatClampNeg)) := iv_eql (iv_any (h 47 (a0.toNatClampNeg))) (iv_lit (lo := 1) (hi := 1) (x := 1) rfl) c6 rfl
      refine sf_n (iv_in f4 rfl) ?_
      have f8 : iv 0 60 (h 45 (a0.toNatClampNeg)) := IMv I 45 _
      have f9 : iv 0 600 (10 * (h 45 (a0.toNatClampNeg))) := iv_mul (c := 10) rfl f8 rfl
      exact ⟨trivial, Qi_mk (iv_any (((h 46 (a0.toNatClampNeg)) + 1) + (10 * (h 45 (a0.toNatClampNeg))))) I1⟩
    · refine sf_n (iv_in f4 rfl) ?_
      refine sf_if (fun c10 => ?_) (fun c10 => ?_)
      · have f11 : iv 2 2 (h 47 (a0.toNatClampNeg)) := iv_eql (iv_any (h 47 (a0.toNatClampNeg))) (iv_lit (lo := 2) (hi := 2) (x := 2) rfl) c10 rfl
        exact ⟨trivial, Qi_mk (iv_any (((h 46 (a0.toNatClampNeg)) + 1) + 100)) I1⟩
      · exact ⟨trivial, Qi_mk (iv_any (2 * (((h 46 (a0.toNatClampNeg)) + 1) + 100))) I1⟩
  · have f12 : iv (-12) (-1) (FX12_denied a0 (hs h 0 0 0)) := iv_ltl s2.2.1 (iv_lit (lo := 0) (hi := 0) (x := 0) rfl) (nle c3) rfl
    exact ⟨trivial, Qi_mk (iv_any (FX12_denied a0 (hs h 0 0 0))) I1⟩

-- X12_toss
set_option maxRecDepth 100000 in
set_option maxHeartbeats 4000000 in
theorem SX12_toss {z : zT} (a0 : Int32) (h : ph_H) (I : IM z h) : PX12_toss a0 h ∧ Qi z (-2147483648) 2147483647 (FX12_toss a0 h) := by
  unfold PX12_toss FX12_toss
  have I1 : IM z (hs h 0 0 0) := IMs I (k := 0) (i := 0) (v := 0) (iv_any 0) rfl
  have s2 := SX12_denied (z := z) a0 (hs h 0 0 0) I1
  refine sf_n s2.1 ?_
  refine sf_if (fun c3 => ?_) (fun c3 => ?_)
  · have f4 : iv 0 7 a0 := iv_and (iv_any _) (s2.2.2 (nn_of c3)) rfl
    have f5 : iv 0 0 (FX12_denied a0 (hs h 0 0 0)) := iv_ler s2.2.1 (iv_lit (lo := 0) (hi := 0) (x := 0) rfl) c3 rfl
    refine sf_n (iv_in f4 rfl) ?_
    refine sf_if (fun c6 => ?_) (fun c6 => ?_)
    · have f7 : iv 1 1 (h 47 (a0.toNatClampNeg)) := iv_eql (iv_any (h 47 (a0.toNatClampNeg))) (iv_lit (lo := 1) (hi := 1) (x := 1) rfl) c6 rfl
      exact ⟨trivial, Qi_mk (iv_any (-15)) I1⟩
    · refine sf_n (iv_in f4 rfl) ?_
      exact ⟨trivial, Qi_mk (iv_any (h 46 (a0.toNatClampNeg))) I1⟩
  · have f8 : iv (-12) (-1) (FX12_denied a0 (hs h 0 0 0)) := iv_ltl s2.2.1 (iv_lit (lo := 0) (hi := 0) (x := 0) rfl) (nle c3) rfl
    exact ⟨trivial, Qi_mk (iv_any (FX12_denied a0 (hs h 0 0 0))) I1⟩
