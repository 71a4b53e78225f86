-- X3_go_s
set_option maxRecDepth 100000 in
set_option maxHeartbeats 4000000 in
theorem SX3_go_s {z : zT} (a0 : Int32) (h : ph_H) (I : IC z h) (f_a0 : iv 0 3 a0) : PX3_go_s a0 h ∧ QC z (-1) 19 (FX3_go_s a0 h) := by
  unfold PX3_go_s FX3_go_s
  have s1 := SX3_canGo_s (z := z) a0 h I f_a0
  refine sf_n s1.1 ?_
  refine sf_if (fun c2 => ?_) (fun c2 => ?_)
  · have f3 : iv 0 0 (FX3_canGo_s a0 h) := iv_eql s1.2.1 (iv_lit (lo := 0) (hi := 0) (x := 0) rfl) c2 rfl
    exact ⟨trivial, QC_mk (iv_w (c := (-1)) (d := 19) (iv_lit (lo := (-1)) (hi := (-1)) (x := (-1)) rfl) rfl) I⟩
  · have f4 : iv 0 23 (h 18 (a0.toNatClampNeg)) := iv_and (iv_any _) (s1.2.2 c2) rfl
    have f5 : iv 1 1 (FX3_canGo_s a0 h) := iv_nel s1.2.1 c2 rfl
    have I6 : IC z (hs h 15 14 (-2)) := ICs I (k := 15) (i := 14) (v := (-2)) (iv_any (-2)) rfl
    have I7 : IC z (hs (hs h 15 14 (-2)) 15 15 (-2)) := ICs I6 (k := 15) (i := 15) (v := (-2)) (iv_any (-2)) rfl
    have I8 : IC z (hs (hs (hs h 15 14 (-2)) 15 15 (-2)) 15 16 0) := ICm1 I7 (iv_w (c := 0) (d := 4) (iv_lit (lo := 0) (hi := 0) (x := 0) rfl) rfl) (by decide)
    have I9 : IC z (hs (hs (hs (hs h 15 14 (-2)) 15 15 (-2)) 15 16 0) 15 17 0) := ICmm I7 (iv_w (c := 0) (d := 4) (iv_lit (lo := 0) (hi := 0) (x := 0) rfl) rfl) (iv_w (c := 0) (d := 11) (iv_lit (lo := 0) (hi := 0) (x := 0) rfl) rfl) (fun e => absurd e (by decide))
    refine sf_n (iv_in f_a0 rfl) ?_
    have f10 : iv 1 24 ((h 18 (a0.toNatClampNeg)) + 1) := iv_add f4 (iv_lit (lo := 1) (hi := 1) (x := 1) rfl) rfl
    have I11 : IC z (hs (hs (hs (hs (hs h 15 14 (-2)) 15 15 (-2)) 15 16 0) 15 17 0) 15 13 ((h 18 (a0.toNatClampNeg)) + 1)) := ICs I9 (k := 15) (i := 13) (v := ((h 18 (a0.toNatClampNeg)) + 1)) (iv_any ((h 18 (a0.toNatClampNeg)) + 1)) rfl
    refine sf_n (iv_in f_a0 rfl) ?_
    refine sf_if (fun c12 => ?_) (fun c12 => ?_)
    · have f13 : iv 3 3 (h 19 (a0.toNatClampNeg)) := iv_eql (iv_any (h 19 (a0.toNatClampNeg))) (iv_lit (lo := 3) (hi := 3) (x := 3) rfl) c12 rfl
      have s14 := SX3_rise_s (z := z) a0 (hs (hs (hs (hs (hs h 15 14 (-2)) 15 15 (-2)) 15 16 0) 15 17 0) 15 13 ((h 18 (a0.toNatClampNeg)) + 1)) I11 f_a0
      refine sf_n s14.1 ?_
      unfold PX3_go_s_59 FX3_go_s_59
      unfold PX3_go_s_67 FX3_go_s_67
      refine sf_if (fun c15 => ?_) (fun c15 => ?_)
      · refine sf_n (iv_in f_a0 rfl) ?_
        have I16 : IC z (hs (FX3_rise_s a0 (hs (hs (hs (hs (hs h 15 14 (-2)) 15 15 (-2)) 15 16 0) 15 17 0) 15 13 ((h 18 (a0.toNatClampNeg)) + 1))).2 18 a0.toNatClampNeg ((FX3_rise_s a0 (hs (hs (hs (hs (hs h 15 14 (-2)) 15 15 (-2)) 15 16 0) 15 17 0) 15 13 ((h 18 (a0.toNatClampNeg)) + 1))).2 15 13)) := ICs s14.2.2 (k := 18) (i := a0.toNatClampNeg) (v := ((FX3_rise_s a0 (hs (hs (hs (hs (hs h 15 14 (-2)) 15 15 (-2)) 15 16 0) 15 17 0) 15 13 ((h 18 (a0.toNatClampNeg)) + 1))).2 15 13)) (iv_any ((FX3_rise_s a0 (hs (hs (hs (hs (hs h 15 14 (-2)) 15 15 (-2)) 15 16 0) 15 17 0) 15 13 ((h 18 (a0.toNatClampNeg)) + 1))).2 15 13)) rfl
        exact ⟨trivial, QC_mk (iv_w (c := (-1)) (d := 19) s14.2.1 rfl) I16⟩
      · have f17 : iv 0 (-1) ((FX3_rise_s a0 (hs (hs (hs (hs (hs h 15 14 (-2)) 15 15 (-2)) 15 16 0) 15 17 0) 15 13 ((h 18 (a0.toNatClampNeg)) + 1))).1) := iv_nel s14.2.1 c15 rfl
        exact iv_no f17 rfl
    · have s18 := SX3_perform_s (z := z) a0 (hs (hs (hs (hs (hs h 15 14 (-2)) 15 15 (-2)) 15 16 0) 15 17 0) 15 13 ((h 18 (a0.toNatClampNeg)) + 1)) I11 f_a0 (iv_r ((hz_k (by decide)).trans ((hz_k (by decide)).trans ((hz_k (by decide)).trans ((hz_k (by decide)).trans (hz_k (by decide)))))) f4)
      refine sf_n s18.1 ?_
      unfold PX3_go_s_67 FX3_go_s_67
      refine sf_if (fun c19 => ?_) (fun c19 => ?_)
      · have f20 : iv 0 0 ((FX3_perform_s a0 (hs (hs (hs (hs (hs h 15 14 (-2)) 15 15 (-2)) 15 16 0) 15 17 0) 15 13 ((h 18 (a0.toNatClampNeg)) + 1))).1) := iv_eql s18.2.1 (iv_lit (lo := 0) (hi := 0) (x := 0) rfl) c19 rfl
        refine sf_n (iv_in f_a0 rfl) ?_
        have I21 : IC z (hs (FX3_perform_s a0 (hs (hs (hs (hs (hs h 15 14 (-2)) 15 15 (-2)) 15 16 0) 15 17 0) 15 13 ((h 18 (a0.toNatClampNeg)) + 1))).2 18 a0.toNatClampNeg ((FX3_perform_s a0 (hs (hs (hs (hs (hs h 15 14 (-2)) 15 15 (-2)) 15 16 0) 15 17 0) 15 13 ((h 18 (a0.toNatClampNeg)) + 1))).2 15 13)) := ICs s18.2.2 (k := 18) (i := a0.toNatClampNeg) (v := ((FX3_perform_s a0 (hs (hs (hs (hs (hs h 15 14 (-2)) 15 15 (-2)) 15 16 0) 15 17 0) 15 13 ((h 18 (a0.toNatClampNeg)) + 1))).2 15 13)) (iv_any ((FX3_perform_s a0 (hs (hs (hs (hs (hs h 15 14 (-2)) 15 15 (-2)) 15 16 0) 15 17 0) 15 13 ((h 18 (a0.toNatClampNeg)) + 1))).2 15 13)) rfl
        exact ⟨trivial, QC_mk (iv_w (c := (-1)) (d := 19) f20 rfl) I21⟩
      · have f22 : iv 1 19 ((FX3_perform_s a0 (hs (hs (hs (hs (hs h 15 14 (-2)) 15 15 (-2)) 15 16 0) 15 17 0) 15 13 ((h 18 (a0.toNatClampNeg)) + 1))).1) := iv_nel s18.2.1 c19 rfl
        exact ⟨trivial, QC_mk (iv_w (c := (-1)) (d := 19) f22 rfl) s18.2.2⟩

-- X3_go_oc1
set_option maxRecDepth 100000 in
set_option maxHeartbeats 4000000 in
theorem SX3_go_oc1 {z : zT} (a0 : Int32) (h : ph_H) (I : IC z h) (f_a0 : iv 0 3 a0) : PX3_go_oc1 a0 h ∧ QC z (-1) 19 (FX3_go_oc1 a0 h) := by
  unfold PX3_go_oc1 FX3_go_oc1
  have s1 := SX3_canGo_oc1 (z := z) a0 h I f_a0
  refine sf_n s1.1 ?_
  refine sf_if (fun c2 => ?_) (fun c2 => ?_)
  · have f3 : iv 0 0 (FX3_canGo_oc1 a0 h) := iv_eql s1.2.1 (iv_lit (lo := 0) (hi := 0) (x := 0) rfl) c2 rfl
    exact ⟨trivial, QC_mk (iv_w (c := (-1)) (d := 19) (iv_lit (lo := (-1)) (hi := (-1)) (x := (-1)) rfl) rfl) I⟩
  · have f4 : iv 0 23 (h 28 (a0.toNatClampNeg)) := iv_and (iv_any _) (s1.2.2 c2) rfl
    have f5 : iv 1 1 (FX3_canGo_oc1 a0 h) := iv_nel s1.2.1 c2 rfl
    have I6 : IC z (hs h 25 14 (-2)) := ICs I (k := 25) (i := 14) (v := (-2)) (iv_any (-2)) rfl
    have I7 : IC z (hs (hs h 25 14 (-2)) 25 15 (-2)) := ICs I6 (k := 25) (i := 15) (v := (-2)) (iv_any (-2)) rfl
    have I8 : IC z (hs (hs (hs h 25 14 (-2)) 25 15 (-2)) 25 16 0) := ICs I7 (k := 25) (i := 16) (v := 0) (iv_w (c := 0) (d := 4) (iv_lit (lo := 0) (hi := 0) (x := 0) rfl) rfl) rfl
    have I9 : IC z (hs (hs (hs (hs h 25 14 (-2)) 25 15 (-2)) 25 16 0) 25 17 0) := ICs I8 (k := 25) (i := 17) (v := 0) (iv_w (c := 0) (d := 11) (iv_lit (lo := 0) (hi := 0) (x := 0) rfl) rfl) rfl
    refine sf_n (iv_in f_a0 rfl) ?_
    have f10 : iv 1 24 ((h 28 (a0.toNatClampNeg)) + 1) := iv_add f4 (iv_lit (lo := 1) (hi := 1) (x := 1) rfl) rfl
    have I11 : IC z (hs (hs (hs (hs (hs h 25 14 (-2)) 25 15 (-2)) 25 16 0) 25 17 0) 25 13 ((h 28 (a0.toNatClampNeg)) + 1)) := ICs I9 (k := 25) (i := 13) (v := ((h 28 (a0.toNatClampNeg)) + 1)) (iv_any ((h 28 (a0.toNatClampNeg)) + 1)) rfl
    refine sf_n (iv_in f_a0 rfl) ?_
    refine sf_if (fun c12 => ?_) (fun c12 => ?_)
    · have f13 : iv 3 3 (h 29 (a0.toNatClampNeg)) := iv_eql (iv_any (h 29 (a0.toNatClampNeg))) (iv_lit (lo := 3) (hi := 3) (x := 3) rfl) c12 rfl
      have s14 := SX3_rise_oc1 (z := z) a0 (hs (hs (hs (hs (hs h 25 14 (-2)) 25 15 (-2)) 25 16 0) 25 17 0) 25 13 ((h 28 (a0.toNatClampNeg)) + 1)) I11 f_a0
      refine sf_n s14.1 ?_
      unfold PX3_go_oc1_59 FX3_go_oc1_59
      unfold PX3_go_oc1_67 FX3_go_oc1_67
      refine sf_if (fun c15 => ?_) (fun c15 => ?_)
      · refine sf_n (iv_in f_a0 rfl) ?_
        have I16 : IC z (hs (FX3_rise_oc1 a0 (hs (hs (hs (hs (hs h 25 14 (-2)) 25 15 (-2)) 25 16 0) 25 17 0) 25 13 ((h 28 (a0.toNatClampNeg)) + 1))).2 28 a0.toNatClampNeg ((FX3_rise_oc1 a0 (hs (hs (hs (hs (hs h 25 14 (-2)) 25 15 (-2)) 25 16 0) 25 17 0) 25 13 ((h 28 (a0.toNatClampNeg)) + 1))).2 25 13)) := ICs s14.2.2 (k := 28) (i := a0.toNatClampNeg) (v := ((FX3_rise_oc1 a0 (hs (hs (hs (hs (hs h 25 14 (-2)) 25 15 (-2)) 25 16 0) 25 17 0) 25 13 ((h 28 (a0.toNatClampNeg)) + 1))).2 25 13)) (iv_any ((FX3_rise_oc1 a0 (hs (hs (hs (hs (hs h 25 14 (-2)) 25 15 (-2)) 25 16 0) 25 17 0) 25 13 ((h 28 (a0.toNatClampNeg)) + 1))).2 25 13)) rfl
        exact ⟨trivial, QC_mk (iv_w (c := (-1)) (d := 19) s14.2.1 rfl) I16⟩
      · have f17 : iv 0 (-1) ((FX3_rise_oc1 a0 (hs (hs (hs (hs (hs h 25 14 (-2)) 25 15 (-2)) 25 16 0) 25 17 0) 25 13 ((h 28 (a0.toNatClampNeg)) + 1))).1) := iv_nel s14.2.1 c15 rfl
        exact iv_no f17 rfl
    · have s18 := SX3_perform_oc1 (z := z) a0 (hs (hs (hs (hs (hs h 25 14 (-2)) 25 15 (-2)) 25 16 0) 25 17 0) 25 13 ((h 28 (a0.toNatClampNeg)) + 1)) I11 f_a0 (iv_r ((hz_k (by decide)).trans ((hz_k (by decide)).trans ((hz_k (by decide)).trans ((hz_k (by decide)).trans (hz_k (by decide)))))) f4)
      refine sf_n s18.1 ?_
      unfold PX3_go_oc1_67 FX3_go_oc1_67
      refine sf_if (fun c19 => ?_) (fun c19 => ?_)
      · have f20 : iv 0 0 ((FX3_perform_oc1 a0 (hs (hs (hs (hs (hs h 25 14 (-2)) 25 15 (-2)) 25 16 0) 25 17 0) 25 13 ((h 28 (a0.toNatClampNeg)) + 1))).1) := iv_eql s18.2.1 (iv_lit (lo := 0) (hi := 0) (x := 0) rfl) c19 rfl
        refine sf_n (iv_in f_a0 rfl) ?_
        have I21 : IC z (hs (FX3_perform_oc1 a0 (hs (hs (hs (hs (hs h 25 14 (-2)) 25 15 (-2)) 25 16 0) 25 17 0) 25 13 ((h 28 (a0.toNatClampNeg)) + 1))).2 28 a0.toNatClampNeg ((FX3_perform_oc1 a0 (hs (hs (hs (hs (hs h 25 14 (-2)) 25 15 (-2)) 25 16 0) 25 17 0) 25 13 ((h 28 (a0.toNatClampNeg)) + 1))).2 25 13)) := ICs s18.2.2 (k := 28) (i := a0.toNatClampNeg) (v := ((FX3_perform_oc1 a0 (hs (hs (hs (hs (hs h 25 14 (-2)) 25 15 (-2)) 25 16 0) 25 17 0) 25 13 ((h 28 (a0.toNatClampNeg)) + 1))).2 25 13)) (iv_any ((FX3_perform_oc1 a0 (hs (hs (hs (hs (hs h 25 14 (-2)) 25 15 (-2)) 25 16 0) 25 17 0) 25 13 ((h 28 (a0.toNatClampNeg)) + 1))).2 25 13)) rfl
        exact ⟨trivial, QC_mk (iv_w (c := (-1)) (d := 19) f20 rfl) I21⟩
      · have f22 : iv 1 19 ((FX3_perform_oc1 a0 (hs (hs (hs (hs (hs h 25 14 (-2)) 25 15 (-2)) 25 16 0) 25 17 0) 25 13 ((h 28 (a0.toNatClampNeg)) + 1))).1) := iv_nel s18.2.1 c19 rfl
        exact ⟨trivial, QC_mk (iv_w (c := (-1)) (d := 19) f22 rfl) s18.2.2⟩

-- X11_replay_s
set_option maxRecDepth 100000 in
set_option maxHeartbeats 4000000 in
theorem SX11_replay_s_3 {z : zT} : ∀ (q : Nat) (x3 : Int32) (x4 : Int32) (h : ph_H), IC z h → iv 0 300 x4 → 300 - (x4).toInt < ((q : Nat) : Int) → PX11_replay_s_3  q x3 x4 h ∧ IC z (FX11_replay_s_3  q x3 x4 h) := by
  intro q
  induction q with
  | zero =>
    intro x3 x4 h I f_x4 mq
    exact mu_zu f_x4 mq rfl
  | succ q ih =>
    intro x3 x4 h I f_x4 mq
    unfold PX11_replay_s_3 FX11_replay_s_3
    refine sf_if (fun c1 => ?_) (fun c1 => ?_)
    · have f2 : iv (-2147483648) 300 x3 := iv_lel (iv_any x3) f_x4 c1 rfl
      exact ⟨trivial, I⟩
    · have f3 : iv 1 2147483647 x3 := iv_ltr (iv_any x3) f_x4 (nle c1) rfl
      refine sf_if (fun c4 => ?_) (fun c4 => ?_)
      · have f5 : iv 300 300 x4 := iv_ler f_x4 (iv_lit (lo := 300) (hi := 300) (x := 300) rfl) c4 rfl
        exact ⟨trivial, I⟩
      · have f6 : iv 0 299 x4 := iv_ltl f_x4 (iv_lit (lo := 300) (hi := 300) (x := 300) rfl) (nle c4) rfl
        have f7 : iv 1 300 (x4 + 1) := iv_add f6 (iv_lit (lo := 1) (hi := 1) (x := 1) rfl) rfl
        refine sf_n (iv_in f7 rfl) ?_
        have f8 : iv 0 3 (h 36 ((x4 + 1).toNatClampNeg)) := ICv I 36 _
        have s9 := SX3_go_s (z := z) (h 36 ((x4 + 1).toNatClampNeg)) h I f8
        refine sf_n s9.1 ?_
        unfold PX11_replay_s_33 FX11_replay_s_33
        exact ih x3 (x4 + 1) ((FX3_go_s (h 36 ((x4 + 1).toNatClampNeg)) h).2) s9.2.2 (iv_w (c := 0) (d := 300) f7 rfl) (mu_up f6 mq rfl)
set_option maxRecDepth 100000 in
set_option maxHeartbeats 4000000 in
theorem SX11_replay_s {z : zT} (a1 : Int32) (a2 : Int32) (h : ph_H) (I : IC z h) (f_a1 : iv 0 300 a1) : PX11_replay_s a1 a2 h ∧ IC z (FX11_replay_s a1 a2 h) := by
  unfold PX11_replay_s FX11_replay_s
  exact SX11_replay_s_3 2000 a2 a1 h I f_a1 (mu_0u f_a1 rfl)

-- X4_learn
set_option maxRecDepth 100000 in
set_option maxHeartbeats 4000000 in
theorem SX4_learn {z : zT} (a0 : Int32) (h : ph_H) (I : IC z h) (f_a0 : iv 1 300 a0) : PX4_learn a0 h ∧ IC z (FX4_learn a0 h) := by
  unfold PX4_learn FX4_learn
  refine sf_n (iv_in f_a0 rfl) ?_
  have f1 : iv 0 3 (h 36 (a0.toNatClampNeg)) := ICv I 36 _
  have f2 : iv 0 12 ((h 36 (a0.toNatClampNeg)) * 4) := iv_mulr (c := 4) rfl f1 rfl
  refine sf_n (iv_in f_a0 rfl) ?_
  have f3 : iv 0 11 (h 44 (a0.toNatClampNeg)) := ICv I 44 _
  have f4 : iv 0 44 ((h 44 (a0.toNatClampNeg)) * 4) := iv_mulr (c := 4) rfl f3 rfl
  refine sf_n (iv_in f_a0 rfl) ?_
  have f5 : iv 0 15 (((h 36 (a0.toNatClampNeg)) * 4) + (h 36 (a0.toNatClampNeg))) := iv_add f2 f1 rfl
  refine sf_n (iv_in f5 rfl) ?_
  have I6 : IC z (hs h 49 (((h 36 (a0.toNatClampNeg)) * 4) + (h 36 (a0.toNatClampNeg))).toNatClampNeg a0) := ICs I (k := 49) (i := (((h 36 (a0.toNatClampNeg)) * 4) + (h 36 (a0.toNatClampNeg))).toNatClampNeg) (v := a0) (iv_any a0) rfl
  refine sf_n (iv_in f_a0 rfl) ?_
  have f7 : iv 0 4 (h 43 (a0.toNatClampNeg)) := ICv I 43 _
  refine sf_if (fun c8 => ?_) (fun c8 => ?_)
  · have f9 : iv 1 1 (h 43 (a0.toNatClampNeg)) := iv_eql f7 (iv_lit (lo := 1) (hi := 1) (x := 1) rfl) c8 rfl
    have s10 := SX4_join_k50k49 (z := z) ((h 44 (a0.toNatClampNeg)) * 4) ((h 36 (a0.toNatClampNeg)) * 4) (hs h 49 (((h 36 (a0.toNatClampNeg)) * 4) + (h 36 (a0.toNatClampNeg))).toNatClampNeg a0) I6 f4 f2
    refine sf_n s10.1 ?_
    unfold PX4_learn_67 FX4_learn_67
    unfold PX4_learn_125 FX4_learn_125
    have f11 : iv 4 1200 (a0 * 4) := iv_mulr (c := 4) rfl f_a0 rfl
    refine sf_n (cpok_iv f2 f11 (iv_lit (lo := 4) (hi := 4) (x := 4) rfl) rfl) ?_
    have I12 : IC z (hc (FX4_join_k50k49 ((h 44 (a0.toNatClampNeg)) * 4) ((h 36 (a0.toNatClampNeg)) * 4) (hs h 49 (((h 36 (a0.toNatClampNeg)) * 4) + (h 36 (a0.toNatClampNeg))).toNatClampNeg a0)) 49 48 ((h 36 (a0.toNatClampNeg)) * 4) (a0 * 4) 4) := ICcp s10.2 (k0 := 49) (k1 := 48) (fun _ => rfl) (fun _ => rfl) (fun _ => rfl)
    exact ⟨trivial, I12⟩
  · refine sf_n (iv_in f_a0 rfl) ?_
    refine sf_if (fun c13 => ?_) (fun c13 => ?_)
    · have f14 : iv 2 2 (h 43 (a0.toNatClampNeg)) := iv_eql f7 (iv_lit (lo := 2) (hi := 2) (x := 2) rfl) c13 rfl
      have s15 := SX4_join_k49k50 (z := z) ((h 36 (a0.toNatClampNeg)) * 4) ((h 44 (a0.toNatClampNeg)) * 4) (hs h 49 (((h 36 (a0.toNatClampNeg)) * 4) + (h 36 (a0.toNatClampNeg))).toNatClampNeg a0) I6 f2 f4
      refine sf_n s15.1 ?_
      unfold PX4_learn_96 FX4_learn_96
      unfold PX4_learn_125 FX4_learn_125
      have f16 : iv 4 1200 (a0 * 4) := iv_mulr (c := 4) rfl f_a0 rfl
      refine sf_n (cpok_iv f2 f16 (iv_lit (lo := 4) (hi := 4) (x := 4) rfl) rfl) ?_
      have I17 : IC z (hc (FX4_join_k49k50 ((h 36 (a0.toNatClampNeg)) * 4) ((h 44 (a0.toNatClampNeg)) * 4) (hs h 49 (((h 36 (a0.toNatClampNeg)) * 4) + (h 36 (a0.toNatClampNeg))).toNatClampNeg a0)) 49 48 ((h 36 (a0.toNatClampNeg)) * 4) (a0 * 4) 4) := ICcp s15.2 (k0 := 49) (k1 := 48) (fun _ => rfl) (fun _ => rfl) (fun _ => rfl)
      exact ⟨trivial, I17⟩
    · refine sf_n (iv_in f_a0 rfl) ?_
      refine sf_if (fun c18 => ?_) (fun c18 => ?_)
      · have f19 : iv 0 3 (h 44 (a0.toNatClampNeg)) := iv_and f3 (I.2.1.2.2.2 _ c18) rfl
        have f20 : iv 0 12 ((h 44 (a0.toNatClampNeg)) * 4) := iv_and f4 (iv_mulr (c := 4) (lo := 0) (hi := 12) rfl (I.2.1.2.2.2 _ c18) rfl) rfl
        have f21 : iv 4 4 (h 43 (a0.toNatClampNeg)) := iv_eql f7 (iv_lit (lo := 4) (hi := 4) (x := 4) rfl) c18 rfl
        have s22 := SX4_join_k49k49 (z := z) ((h 36 (a0.toNatClampNeg)) * 4) ((h 44 (a0.toNatClampNeg)) * 4) (hs h 49 (((h 36 (a0.toNatClampNeg)) * 4) + (h 36 (a0.toNatClampNeg))).toNatClampNeg a0) I6 f2 f20
        refine sf_n s22.1 ?_
        unfold PX4_learn_125 FX4_learn_125
        have f23 : iv 4 1200 (a0 * 4) := iv_mulr (c := 4) rfl f_a0 rfl
        refine sf_n (cpok_iv f2 f23 (iv_lit (lo := 4) (hi := 4) (x := 4) rfl) rfl) ?_
        have I24 : IC z (hc (FX4_join_k49k49 ((h 36 (a0.toNatClampNeg)) * 4) ((h 44 (a0.toNatClampNeg)) * 4) (hs h 49 (((h 36 (a0.toNatClampNeg)) * 4) + (h 36 (a0.toNatClampNeg))).toNatClampNeg a0)) 49 48 ((h 36 (a0.toNatClampNeg)) * 4) (a0 * 4) 4) := ICcp s22.2 (k0 := 49) (k1 := 48) (fun _ => rfl) (fun _ => rfl) (fun _ => rfl)
        exact ⟨trivial, I24⟩
      · have f25 : iv 0 3 (h 43 (a0.toNatClampNeg)) := iv_nel f7 c18 rfl
        unfold PX4_learn_125 FX4_learn_125
        have f26 : iv 4 1200 (a0 * 4) := iv_mulr (c := 4) rfl f_a0 rfl
        refine sf_n (cpok_iv f2 f26 (iv_lit (lo := 4) (hi := 4) (x := 4) rfl) rfl) ?_
        have I27 : IC z (hc (hs h 49 (((h 36 (a0.toNatClampNeg)) * 4) + (h 36 (a0.toNatClampNeg))).toNatClampNeg a0) 49 48 ((h 36 (a0.toNatClampNeg)) * 4) (a0 * 4) 4) := ICcp I6 (k0 := 49) (k1 := 48) (fun _ => rfl) (fun _ => rfl) (fun _ => rfl)
        exact ⟨trivial, I27⟩

-- X4_prepare
set_option maxRecDepth 100000 in
set_option maxHeartbeats 4000000 in
theorem SX4_prepare_31 {z : zT} : ∀ (q : Nat) (x1 : Int32) (h : ph_H), IC z h → iv 1 301 x1 → 301 - (x1).toInt < ((q : Nat) : Int) → PX4_prepare_31  q x1 h ∧ IC z (FX4_prepare_31  q x1 h) := by
  intro q
  induction q with
  | zero =>
    intro x1 h I f_x1 mq
    exact mu_zu f_x1 mq rfl
  | succ q ih =>
    intro x1 h I f_x1 mq
    unfold PX4_prepare_31 FX4_prepare_31
    have f1 : iv 0 300 (h 35 11) := ICv I 35 _
    refine sf_if (fun c2 => ?_) (fun c2 => ?_)
    · have I3 : IC z (hs h 47 6 1) := ICs I (k := 47) (i := 6) (v := 1) (iv_w (c := 0) (d := 1) (iv_lit (lo := 1) (hi := 1) (x := 1) rfl) rfl) rfl
      exact ⟨trivial, I3⟩
    · have f4 : iv 1 300 x1 := iv_lel f_x1 f1 (nlt c2) rfl
      have f5 : iv 1 300 (h 35 11) := iv_ler f1 f_x1 (nlt c2) rfl
      have s6 := SX4_learn (z := z) x1 h I f4
      refine sf_n s6.1 ?_
      unfold PX4_prepare_47 FX4_prepare_47
      have s7 := SX4_countRaces (z := z) x1 (FX4_learn x1 h) s6.2 (iv_w (c := 0) (d := 300) f4 rfl)
      refine sf_n s7.1 ?_
      refine sf_n (iv_in f4 rfl) ?_
      have I8 : IC z (hs (FX4_learn x1 h) 51 x1.toNatClampNeg (FX4_countRaces x1 (FX4_learn x1 h))) := ICs s6.2 (k := 51) (i := x1.toNatClampNeg) (v := (FX4_countRaces x1 (FX4_learn x1 h))) s7.2 rfl
      refine sf_n (iv_in f4 rfl) ?_
      have I9 : IC z (hs (hs (FX4_learn x1 h) 51 x1.toNatClampNeg (FX4_countRaces x1 (FX4_learn x1 h))) 47 5 (((FX4_learn x1 h) 47 5) + ((hs (FX4_learn x1 h) 51 x1.toNatClampNeg (FX4_countRaces x1 (FX4_learn x1 h))) 51 (x1.toNatClampNeg)))) := ICs I8 (k := 47) (i := 5) (v := (((FX4_learn x1 h) 47 5) + ((hs (FX4_learn x1 h) 51 x1.toNatClampNeg (FX4_countRaces x1 (FX4_learn x1 h))) 51 (x1.toNatClampNeg)))) (iv_any (((FX4_learn x1 h) 47 5) + ((hs (FX4_learn x1 h) 51 x1.toNatClampNeg (FX4_countRaces x1 (FX4_learn x1 h))) 51 (x1.toNatClampNeg)))) rfl
      have f10 : iv 2 301 (x1 + 1) := iv_add f4 (iv_lit (lo := 1) (hi := 1) (x := 1) rfl) rfl
      exact ih (x1 + 1) (hs (hs (FX4_learn x1 h) 51 x1.toNatClampNeg (FX4_countRaces x1 (FX4_learn x1 h))) 47 5 (((FX4_learn x1 h) 47 5) + ((hs (FX4_learn x1 h) 51 x1.toNatClampNeg (FX4_countRaces x1 (FX4_learn x1 h))) 51 (x1.toNatClampNeg)))) I9 (iv_w (c := 1) (d := 301) f10 rfl) (mu_up f4 mq rfl)
set_option maxRecDepth 100000 in
set_option maxHeartbeats 4000000 in
theorem SX4_prepare {z : zT} (h : ph_H) (I : IC z h) : PX4_prepare h ∧ IC z (FX4_prepare h) := by
  unfold PX4_prepare FX4_prepare
  have f1 : iv 0 1 (h 47 6) := ICv I 47 _
  refine sf_if (fun c2 => ?_) (fun c2 => ?_)
  · have f3 : iv 0 0 (h 47 6) := iv_eql f1 (iv_lit (lo := 0) (hi := 0) (x := 0) rfl) c2 rfl
    have s4 := SJ7_fill_53178_k49 (z := z) 0 h I
    refine sf_n s4.1 ?_
    unfold PX4_prepare_16 FX4_prepare_16
    have s5 := SJ7_fill_53178_k50 (z := z) 0 (FJ7_fill_53178_k49 0 h) s4.2
    refine sf_n s5.1 ?_
    unfold PX4_prepare_24 FX4_prepare_24
    have I6 : IC z (hs (FJ7_fill_53178_k50 0 (FJ7_fill_53178_k49 0 h)) 47 5 0) := ICs s5.2 (k := 47) (i := 5) (v := 0) (iv_any 0) rfl
    exact SX4_prepare_31 2000 1 (hs (FJ7_fill_53178_k50 0 (FJ7_fill_53178_k49 0 h)) 47 5 0) I6 (iv_w (c := 1) (d := 301) (iv_lit (lo := 1) (hi := 1) (x := 1) rfl) rfl) (mu_0u (iv_lit (lo := 1) (hi := 1) (x := 1) rfl) rfl)
  · have f7 : iv 1 1 (h 47 6) := iv_nel f1 c2 rfl
    exact ⟨trivial, I⟩

-- X11_race
set_option maxRecDepth 100000 in
set_option maxHeartbeats 4000000 in
theorem SX11_race {z : zT} (a0 : Int32) (a1 : Int32) (h : ph_H) (I : IC z h) : PX11_race a0 a1 h ∧ QC z (-2147483648) 2147483647 (FX11_race a0 a1 h) := by
  unfold PX11_race FX11_race
  have f1 : iv 0 1 (h 0 8) := ICv I 0 _
  refine sf_if (fun c2 => ?_) (fun c2 => ?_)
  · have f3 : iv 0 0 (h 0 8) := iv_eql f1 (iv_lit (lo := 0) (hi := 0) (x := 0) rfl) c2 rfl
    exact ⟨trivial, QC_mk (iv_any (-2)) I⟩
  · have f4 : iv 1 1 (h 0 8) := iv_nel f1 c2 rfl
    refine sf_if (fun c5 => ?_) (fun c5 => ?_)
    · have f6 : iv (-2147483648) (-1) a1 := iv_ltl (iv_any a1) (iv_lit (lo := 0) (hi := 0) (x := 0) rfl) c5 rfl
      exact ⟨trivial, QC_mk (iv_any (-1)) I⟩
    · have f7 : iv 0 2147483647 a1 := iv_ler (iv_any a1) (iv_lit (lo := 0) (hi := 0) (x := 0) rfl) (nlt c5) rfl
      refine sf_if (fun c8 => ?_) (fun c8 => ?_)
      · have f9 : iv 0 3 a1 := iv_lel f7 (iv_lit (lo := 3) (hi := 3) (x := 3) rfl) c8 rfl
        have s10 := SX4_prepare (z := z) h I
        refine sf_n s10.1 ?_
        unfold PX11_race_28 FX11_race_28
        refine sf_if (fun c11 => ?_) (fun c11 => ?_)
        · have f12 : iv 0 0 a1 := iv_eql f9 (iv_lit (lo := 0) (hi := 0) (x := 0) rfl) c11 rfl
          exact ⟨trivial, QC_mk (iv_any ((FX4_prepare h) 47 5)) s10.2⟩
        · have f13 : iv 1 3 a1 := iv_nel f9 c11 rfl
          refine sf_if (fun c14 => ?_) (fun c14 => ?_)
          · have f15 : iv (-2147483648) (-1) a0 := iv_ltl (iv_any a0) (iv_lit (lo := 0) (hi := 0) (x := 0) rfl) c14 rfl
            exact ⟨trivial, QC_mk (iv_any (-1)) s10.2⟩
          · have f16 : iv 0 2147483647 a0 := iv_ler (iv_any a0) (iv_lit (lo := 0) (hi := 0) (x := 0) rfl) (nlt c14) rfl
            refine sf_if (fun c17 => ?_) (fun c17 => ?_)
            · have f18 : iv 0 2147483646 a0 := iv_ltl f16 (iv_any ((FX4_prepare h) 47 5)) c17 rfl
              have f19 : iv 1 2147483647 ((FX4_prepare h) 47 5) := iv_ltr (iv_any ((FX4_prepare h) 47 5)) f16 c17 rfl
              have s20 := SX4_laterOf (z := z) a0 (FX4_prepare h) s10.2
              refine sf_n s20.1 ?_
              refine sf_if (fun c21 => ?_) (fun c21 => ?_)
              · have f22 : iv 2 2 a1 := iv_eql f13 (iv_lit (lo := 2) (hi := 2) (x := 2) rfl) c21 rfl
                exact ⟨trivial, QC_mk (iv_any (FX4_laterOf a0 (FX4_prepare h))) s10.2⟩
              · refine sf_if (fun c23 => ?_) (fun c23 => ?_)
                · have f24 : iv 3 3 a1 := iv_eql f13 (iv_lit (lo := 3) (hi := 3) (x := 3) rfl) c23 rfl
                  have s25 := SX10_placeOf (z := z) (FX4_laterOf a0 (FX4_prepare h)) (FX4_prepare h) s10.2 s20.2
                  refine sf_n s25.1 ?_
                  exact ⟨trivial, QC_mk s25.2 s10.2⟩
                · have f26 : iv 1 2 a1 := iv_nel f13 c23 rfl
                  have s27 := SX4_earlierOf (z := z) a0 (FX4_laterOf a0 (FX4_prepare h)) (FX4_prepare h) s10.2 s20.2
                  refine sf_n s27.1 ?_
                  exact ⟨trivial, QC_mk (iv_any (FX4_earlierOf a0 (FX4_laterOf a0 (FX4_prepare h)) (FX4_prepare h))) s10.2⟩
            · exact ⟨trivial, QC_mk (iv_any (-1)) s10.2⟩
      · have f28 : iv 4 2147483647 a1 := iv_ltr f7 (iv_lit (lo := 3) (hi := 3) (x := 3) rfl) (nle c8) rfl
        exact ⟨trivial, QC_mk (iv_any (-1)) I⟩

-- X3_go_oc2
set_option maxRecDepth 100000 in
set_option maxHeartbeats 4000000 in
theorem SX3_go_oc2 {z : zT} (a0 : Int32) (h : ph_H) (I : IC z h) (f_a0 : iv 0 3 a0) : PX3_go_oc2 a0 h ∧ QC z (-1) 19 (FX3_go_oc2 a0 h) := by
  unfold PX3_go_oc2 FX3_go_oc2
  have s1 := SX3_canGo_oc2 (z := z) a0 h I f_a0
  refine sf_n s1.1 ?_
  refine sf_if (fun c2 => ?_) (fun c2 => ?_)
  · have f3 : iv 0 0 (FX3_canGo_oc2 a0 h) := iv_eql s1.2.1 (iv_lit (lo := 0) (hi := 0) (x := 0) rfl) c2 rfl
    exact ⟨trivial, QC_mk (iv_w (c := (-1)) (d := 19) (iv_lit (lo := (-1)) (hi := (-1)) (x := (-1)) rfl) rfl) I⟩
  · have f4 : iv 0 23 (h 28 (a0.toNatClampNeg)) := iv_and (iv_any _) (s1.2.2 c2) rfl
    have f5 : iv 1 1 (FX3_canGo_oc2 a0 h) := iv_nel s1.2.1 c2 rfl
    have I6 : IC z (hs h 25 14 (-2)) := ICs I (k := 25) (i := 14) (v := (-2)) (iv_any (-2)) rfl
    have I7 : IC z (hs (hs h 25 14 (-2)) 25 15 (-2)) := ICs I6 (k := 25) (i := 15) (v := (-2)) (iv_any (-2)) rfl
    have I8 : IC z (hs (hs (hs h 25 14 (-2)) 25 15 (-2)) 25 16 0) := ICs I7 (k := 25) (i := 16) (v := 0) (iv_w (c := 0) (d := 4) (iv_lit (lo := 0) (hi := 0) (x := 0) rfl) rfl) rfl
    have I9 : IC z (hs (hs (hs (hs h 25 14 (-2)) 25 15 (-2)) 25 16 0) 25 17 0) := ICs I8 (k := 25) (i := 17) (v := 0) (iv_w (c := 0) (d := 11) (iv_lit (lo := 0) (hi := 0) (x := 0) rfl) rfl) rfl
    refine sf_n (iv_in f_a0 rfl) ?_
    have f10 : iv 1 24 ((h 28 (a0.toNatClampNeg)) + 1) := iv_add f4 (iv_lit (lo := 1) (hi := 1) (x := 1) rfl) rfl
    have I11 : IC z (hs (hs (hs (hs (hs h 25 14 (-2)) 25 15 (-2)) 25 16 0) 25 17 0) 25 13 ((h 28 (a0.toNatClampNeg)) + 1)) := ICs I9 (k := 25) (i := 13) (v := ((h 28 (a0.toNatClampNeg)) + 1)) (iv_any ((h 28 (a0.toNatClampNeg)) + 1)) rfl
    refine sf_n (iv_in f_a0 rfl) ?_
    refine sf_if (fun c12 => ?_) (fun c12 => ?_)
    · have f13 : iv 3 3 (h 29 (a0.toNatClampNeg)) := iv_eql (iv_any (h 29 (a0.toNatClampNeg))) (iv_lit (lo := 3) (hi := 3) (x := 3) rfl) c12 rfl
      have s14 := SX3_rise_oc2 (z := z) a0 (hs (hs (hs (hs (hs h 25 14 (-2)) 25 15 (-2)) 25 16 0) 25 17 0) 25 13 ((h 28 (a0.toNatClampNeg)) + 1)) I11 f_a0
      refine sf_n s14.1 ?_
      unfold PX3_go_oc2_59 FX3_go_oc2_59
      unfold PX3_go_oc2_67 FX3_go_oc2_67
      refine sf_if (fun c15 => ?_) (fun c15 => ?_)
      · refine sf_n (iv_in f_a0 rfl) ?_
        have I16 : IC z (hs (FX3_rise_oc2 a0 (hs (hs (hs (hs (hs h 25 14 (-2)) 25 15 (-2)) 25 16 0) 25 17 0) 25 13 ((h 28 (a0.toNatClampNeg)) + 1))).2 28 a0.toNatClampNeg ((FX3_rise_oc2 a0 (hs (hs (hs (hs (hs h 25 14 (-2)) 25 15 (-2)) 25 16 0) 25 17 0) 25 13 ((h 28 (a0.toNatClampNeg)) + 1))).2 25 13)) := ICs s14.2.2 (k := 28) (i := a0.toNatClampNeg) (v := ((FX3_rise_oc2 a0 (hs (hs (hs (hs (hs h 25 14 (-2)) 25 15 (-2)) 25 16 0) 25 17 0) 25 13 ((h 28 (a0.toNatClampNeg)) + 1))).2 25 13)) (iv_any ((FX3_rise_oc2 a0 (hs (hs (hs (hs (hs h 25 14 (-2)) 25 15 (-2)) 25 16 0) 25 17 0) 25 13 ((h 28 (a0.toNatClampNeg)) + 1))).2 25 13)) rfl
        exact ⟨trivial, QC_mk (iv_w (c := (-1)) (d := 19) s14.2.1 rfl) I16⟩
      · have f17 : iv 0 (-1) ((FX3_rise_oc2 a0 (hs (hs (hs (hs (hs h 25 14 (-2)) 25 15 (-2)) 25 16 0) 25 17 0) 25 13 ((h 28 (a0.toNatClampNeg)) + 1))).1) := iv_nel s14.2.1 c15 rfl
        exact iv_no f17 rfl
    · have s18 := SX3_perform_oc2 (z := z) a0 (hs (hs (hs (hs (hs h 25 14 (-2)) 25 15 (-2)) 25 16 0) 25 17 0) 25 13 ((h 28 (a0.toNatClampNeg)) + 1)) I11 f_a0 (iv_r ((hz_k (by decide)).trans ((hz_k (by decide)).trans ((hz_k (by decide)).trans ((hz_k (by decide)).trans (hz_k (by decide)))))) f4)
      refine sf_n s18.1 ?_
      unfold PX3_go_oc2_67 FX3_go_oc2_67
      refine sf_if (fun c19 => ?_) (fun c19 => ?_)
      · have f20 : iv 0 0 ((FX3_perform_oc2 a0 (hs (hs (hs (hs (hs h 25 14 (-2)) 25 15 (-2)) 25 16 0) 25 17 0) 25 13 ((h 28 (a0.toNatClampNeg)) + 1))).1) := iv_eql s18.2.1 (iv_lit (lo := 0) (hi := 0) (x := 0) rfl) c19 rfl
        refine sf_n (iv_in f_a0 rfl) ?_
        have I21 : IC z (hs (FX3_perform_oc2 a0 (hs (hs (hs (hs (hs h 25 14 (-2)) 25 15 (-2)) 25 16 0) 25 17 0) 25 13 ((h 28 (a0.toNatClampNeg)) + 1))).2 28 a0.toNatClampNeg ((FX3_perform_oc2 a0 (hs (hs (hs (hs (hs h 25 14 (-2)) 25 15 (-2)) 25 16 0) 25 17 0) 25 13 ((h 28 (a0.toNatClampNeg)) + 1))).2 25 13)) := ICs s18.2.2 (k := 28) (i := a0.toNatClampNeg) (v := ((FX3_perform_oc2 a0 (hs (hs (hs (hs (hs h 25 14 (-2)) 25 15 (-2)) 25 16 0) 25 17 0) 25 13 ((h 28 (a0.toNatClampNeg)) + 1))).2 25 13)) (iv_any ((FX3_perform_oc2 a0 (hs (hs (hs (hs (hs h 25 14 (-2)) 25 15 (-2)) 25 16 0) 25 17 0) 25 13 ((h 28 (a0.toNatClampNeg)) + 1))).2 25 13)) rfl
        exact ⟨trivial, QC_mk (iv_w (c := (-1)) (d := 19) f20 rfl) I21⟩
      · have f22 : iv 1 19 ((FX3_perform_oc2 a0 (hs (hs (hs (hs (hs h 25 14 (-2)) 25 15 (-2)) 25 16 0) 25 17 0) 25 13 ((h 28 (a0.toNatClampNeg)) + 1))).1) := iv_nel s18.2.1 c19 rfl
        exact ⟨trivial, QC_mk (iv_w (c := (-1)) (d := 19) f22 rfl) s18.2.2⟩

-- X11_replay_oc2
set_option maxRecDepth 100000 in
set_option maxHeartbeats 4000000 in
theorem SX11_replay_oc2_3 {z : zT} : ∀ (q : Nat) (x3 : Int32) (x4 : Int32) (h : ph_H), IC z h → iv 0 300 x4 → 300 - (x4).toInt < ((q : Nat) : Int) → PX11_replay_oc2_3  q x3 x4 h ∧ IC z (FX11_replay_oc2_3  q x3 x4 h) := by
  intro q
  induction q with
  | zero =>
    intro x3 x4 h I f_x4 mq
    exact mu_zu f_x4 mq rfl
  | succ q ih =>
    intro x3 x4 h I f_x4 mq
    unfold PX11_replay_oc2_3 FX11_replay_oc2_3
    refine sf_if (fun c1 => ?_) (fun c1 => ?_)
    · have f2 : iv (-2147483648) 300 x3 := iv_lel (iv_any x3) f_x4 c1 rfl
      exact ⟨trivial, I⟩
    · have f3 : iv 1 2147483647 x3 := iv_ltr (iv_any x3) f_x4 (nle c1) rfl
      refine sf_if (fun c4 => ?_) (fun c4 => ?_)
      · have f5 : iv 300 300 x4 := iv_ler f_x4 (iv_lit (lo := 300) (hi := 300) (x := 300) rfl) c4 rfl
        exact ⟨trivial, I⟩
      · have f6 : iv 0 299 x4 := iv_ltl f_x4 (iv_lit (lo := 300) (hi := 300) (x := 300) rfl) (nle c4) rfl
        have f7 : iv 1 300 (x4 + 1) := iv_add f6 (iv_lit (lo := 1) (hi := 1) (x := 1) rfl) rfl
        refine sf_n (iv_in f7 rfl) ?_
        have f8 : iv 0 3 (h 36 ((x4 + 1).toNatClampNeg)) := ICv I 36 _
        have s9 := SX3_go_oc2 (z := z) (h 36 ((x4 + 1).toNatClampNeg)) h I f8
        refine sf_n s9.1 ?_
        unfold PX11_replay_oc2_33 FX11_replay_oc2_33
        exact ih x3 (x4 + 1) ((FX3_go_oc2 (h 36 ((x4 + 1).toNatClampNeg)) h).2) s9.2.2 (iv_w (c := 0) (d := 300) f7 rfl) (mu_up f6 mq rfl)
set_option maxRecDepth 100000 in
set_option maxHeartbeats 4000000 in
theorem SX11_replay_oc2 {z : zT} (a1 : Int32) (a2 : Int32) (h : ph_H) (I : IC z h) (f_a1 : iv 0 300 a1) : PX11_replay_oc2 a1 a2 h ∧ IC z (FX11_replay_oc2 a1 a2 h) := by
  unfold PX11_replay_oc2 FX11_replay_oc2
  exact SX11_replay_oc2_3 2000 a2 a1 h I f_a1 (mu_0u f_a1 rfl)
