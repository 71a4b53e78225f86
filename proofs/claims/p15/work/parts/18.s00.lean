-- X11_isThread
set_option maxRecDepth 100000 in
set_option maxHeartbeats 4000000 in
theorem SX11_isThread  (a0 : Int32) : PX11_isThread a0 ∧ Qc 0 1 (fun r => ¬ r = 0 → iv 0 3 a0) (FX11_isThread a0) := by
  unfold PX11_isThread FX11_isThread
  refine sf_if (fun c1 => ?_) (fun c1 => ?_)
  · have f2 : iv (-2147483648) (-1) a0 := iv_ltl (iv_any a0) (iv_lit (lo := 0) (hi := 0) (x := 0) rfl) c1 rfl
    exact ⟨trivial, (iv_w (c := 0) (d := 1) (iv_lit (lo := 0) (hi := 0) (x := 0) rfl) rfl), fun z => absurd rfl z⟩
  · have f3 : iv 0 2147483647 a0 := iv_ler (iv_any a0) (iv_lit (lo := 0) (hi := 0) (x := 0) rfl) (nlt c1) rfl
    refine sf_if (fun c4 => ?_) (fun c4 => ?_)
    · have f5 : iv 4 2147483647 a0 := iv_ler f3 (iv_lit (lo := 4) (hi := 4) (x := 4) rfl) c4 rfl
      exact ⟨trivial, (iv_w (c := 0) (d := 1) (iv_lit (lo := 0) (hi := 0) (x := 0) rfl) rfl), fun z => absurd rfl z⟩
    · have f6 : iv 0 3 a0 := iv_ltl f3 (iv_lit (lo := 4) (hi := 4) (x := 4) rfl) (nle c4) rfl
      exact ⟨trivial, (iv_w (c := 0) (d := 1) (iv_lit (lo := 1) (hi := 1) (x := 1) rfl) rfl), fun _ => f6⟩

-- X5_firstPart_n
set_option maxRecDepth 100000 in
set_option maxHeartbeats 4000000 in
theorem SX5_firstPart_n {z : zT} (a0 : Int32) (a1 : Int32) (h : ph_H) (I : IC z h) (f_a0 : iv 0 3 a0) (f_a1 : iv 0 23 a1) : PX5_firstPart_n a0 a1 h ∧ iv 0 380 (FX5_firstPart_n a0 a1 h) := by
  unfold PX5_firstPart_n FX5_firstPart_n
  have f1 : iv 0 72 (a0 * 24) := iv_mulr (c := 24) rfl f_a0 rfl
  have f2 : iv 0 95 ((a0 * 24) + a1) := iv_add f1 f_a1 rfl
  have f3 : iv 0 380 (((a0 * 24) + a1) * 4) := iv_mulr (c := 4) rfl f2 rfl
  exact ⟨trivial, f3⟩

-- X11_isCell
set_option maxRecDepth 100000 in
set_option maxHeartbeats 4000000 in
theorem SX11_isCell  (a0 : Int32) : PX11_isCell a0 ∧ Qc 0 1 (fun r => ¬ r = 0 → iv 0 11 a0) (FX11_isCell a0) := by
  unfold PX11_isCell FX11_isCell
  refine sf_if (fun c1 => ?_) (fun c1 => ?_)
  · have f2 : iv (-2147483648) (-1) a0 := iv_ltl (iv_any a0) (iv_lit (lo := 0) (hi := 0) (x := 0) rfl) c1 rfl
    exact ⟨trivial, (iv_w (c := 0) (d := 1) (iv_lit (lo := 0) (hi := 0) (x := 0) rfl) rfl), fun z => absurd rfl z⟩
  · have f3 : iv 0 2147483647 a0 := iv_ler (iv_any a0) (iv_lit (lo := 0) (hi := 0) (x := 0) rfl) (nlt c1) rfl
    refine sf_if (fun c4 => ?_) (fun c4 => ?_)
    · have f5 : iv 12 2147483647 a0 := iv_ler f3 (iv_lit (lo := 12) (hi := 12) (x := 12) rfl) c4 rfl
      exact ⟨trivial, (iv_w (c := 0) (d := 1) (iv_lit (lo := 0) (hi := 0) (x := 0) rfl) rfl), fun z => absurd rfl z⟩
    · have f6 : iv 0 11 a0 := iv_ltl f3 (iv_lit (lo := 12) (hi := 12) (x := 12) rfl) (nle c4) rfl
      exact ⟨trivial, (iv_w (c := 0) (d := 1) (iv_lit (lo := 1) (hi := 1) (x := 1) rfl) rfl), fun _ => f6⟩

-- X11_cell
set_option maxRecDepth 100000 in
set_option maxHeartbeats 4000000 in
theorem SX11_cell {z : zT} (a0 : Int32) (a1 : Int32) (h : ph_H) (I : IC z h) : PX11_cell a0 a1 h ∧ QC z (-1) 0 (FX11_cell a0 a1 h) := by
  unfold PX11_cell FX11_cell
  have s1 := SX11_isCell a0 
  refine sf_n s1.1 ?_
  refine sf_if (fun c2 => ?_) (fun c2 => ?_)
  · have f3 : iv 0 0 (FX11_isCell a0) := iv_eql s1.2.1 (iv_lit (lo := 0) (hi := 0) (x := 0) rfl) c2 rfl
    exact ⟨trivial, QC_mk (iv_w (c := (-1)) (d := 0) (iv_lit (lo := (-1)) (hi := (-1)) (x := (-1)) rfl) rfl) I⟩
  · have f4 : iv 0 11 a0 := iv_and (iv_any _) (s1.2.2 c2) rfl
    have f5 : iv 1 1 (FX11_isCell a0) := iv_nel s1.2.1 c2 rfl
    refine sf_n (iv_in f4 rfl) ?_
    have I6 : IC z (hs h 4 a0.toNatClampNeg a1) := ICs I (k := 4) (i := a0.toNatClampNeg) (v := a1) (iv_any a1) rfl
    exact ⟨trivial, QC_mk (iv_w (c := (-1)) (d := 0) (iv_lit (lo := 0) (hi := 0) (x := 0) rfl) rfl) I6⟩

-- X10_latestThread
set_option maxRecDepth 100000 in
set_option maxHeartbeats 4000000 in
theorem SX10_latestThread {z : zT} (h : ph_H) (I : IC z h) : PX10_latestThread h ∧ iv 0 3 (FX10_latestThread h) := by
  unfold PX10_latestThread FX10_latestThread
  have f1 : iv 0 300 (h 35 11) := ICv I 35 _
  refine sf_if (fun c2 => ?_) (fun c2 => ?_)
  · have f3 : iv 0 0 (h 35 11) := iv_lel f1 (iv_lit (lo := 0) (hi := 0) (x := 0) rfl) c2 rfl
    exact ⟨trivial, (iv_w (c := 0) (d := 3) (iv_lit (lo := 0) (hi := 0) (x := 0) rfl) rfl)⟩
  · have f4 : iv 1 300 (h 35 11) := iv_ltr f1 (iv_lit (lo := 0) (hi := 0) (x := 0) rfl) (nle c2) rfl
    refine sf_if (fun c5 => ?_) (fun c5 => ?_)
    · have f6 : iv 300 299 300 := iv_ltl (iv_lit (lo := 300) (hi := 300) (x := 300) rfl) f4 c5 rfl
      exact iv_no f6 rfl
    · refine sf_n (iv_in f4 rfl) ?_
      have f7 : iv 0 3 (h 36 ((h 35 11).toNatClampNeg)) := ICv I 36 _
      exact ⟨trivial, f7⟩

-- X10_noteEffects_s
set_option maxRecDepth 100000 in
set_option maxHeartbeats 4000000 in
theorem SX10_noteEffects_s {z : zT} (h : ph_H) (I : IC z h) : PX10_noteEffects_s h ∧ IC z (FX10_noteEffects_s h) := by
  unfold PX10_noteEffects_s FX10_noteEffects_s
  have f1 : iv 0 300 (h 35 11) := ICv I 35 _
  refine sf_n (iv_in f1 rfl) ?_
  have I2 : IC z (hs h 39 (h 35 11).toNatClampNeg (h 15 14)) := ICs I (k := 39) (i := (h 35 11).toNatClampNeg) (v := (h 15 14)) (iv_any (h 15 14)) rfl
  refine sf_n (iv_in f1 rfl) ?_
  have I3 : IC z (hs (hs h 39 (h 35 11).toNatClampNeg (h 15 14)) 40 (h 35 11).toNatClampNeg (h 15 15)) := ICs I2 (k := 40) (i := (h 35 11).toNatClampNeg) (v := (h 15 15)) (iv_any (h 15 15)) rfl
  refine sf_if (fun c4 => ?_) (fun c4 => ?_)
  · have f5 : iv (-2147483648) (-1) (h 15 15) := iv_ltl (iv_any (h 15 15)) (iv_lit (lo := 0) (hi := 0) (x := 0) rfl) c4 rfl
    unfold PX10_noteEffects_s_68 FX10_noteEffects_s_68
    have f6 : iv 0 300 ((hs (hs h 39 (h 35 11).toNatClampNeg (h 15 14)) 40 (h 35 11).toNatClampNeg (h 15 15)) 35 11) := ICv I3 35 _
    have f7 : iv 0 4 ((hs (hs h 39 (h 35 11).toNatClampNeg (h 15 14)) 40 (h 35 11).toNatClampNeg (h 15 15)) 15 16) := ICv I3 15 _
    refine sf_n (iv_in f6 rfl) ?_
    have f9 : iv 0 11 ((hs (hs h 39 (h 35 11).toNatClampNeg (h 15 14)) 40 (h 35 11).toNatClampNeg (h 15 15)) 15 17) := ICv I3 15 _
    refine sf_n (iv_in f6 rfl) ?_
    have I10 : IC z (hs (hs (hs (hs h 39 (h 35 11).toNatClampNeg (h 15 14)) 40 (h 35 11).toNatClampNeg (h 15 15)) 43 ((hs (hs h 39 (h 35 11).toNatClampNeg (h 15 14)) 40 (h 35 11).toNatClampNeg (h 15 15)) 35 11).toNatClampNeg ((hs (hs h 39 (h 35 11).toNatClampNeg (h 15 14)) 40 (h 35 11).toNatClampNeg (h 15 15)) 15 16)) 44 ((hs (hs h 39 (h 35 11).toNatClampNeg (h 15 14)) 40 (h 35 11).toNatClampNeg (h 15 15)) 35 11).toNatClampNeg ((hs (hs h 39 (h 35 11).toNatClampNeg (h 15 14)) 40 (h 35 11).toNatClampNeg (h 15 15)) 15 17)) := ICmt I3 (((hs (hs h 39 (h 35 11).toNatClampNeg (h 15 14)) 40 (h 35 11).toNatClampNeg (h 15 15)) 35 11).toNatClampNeg) f7 f9 I3.2.1.2.2.1
    exact ⟨trivial, I10⟩
  · have f11 : iv 0 2147483647 (h 15 15) := iv_ler (iv_any (h 15 15)) (iv_lit (lo := 0) (hi := 0) (x := 0) rfl) (nlt c4) rfl
    refine sf_if (fun c12 => ?_) (fun c12 => ?_)
    · have f13 : iv 12 2147483647 (h 15 15) := iv_ler f11 (iv_lit (lo := 12) (hi := 12) (x := 12) rfl) c12 rfl
      unfold PX10_noteEffects_s_68 FX10_noteEffects_s_68
      have f14 : iv 0 300 ((hs (hs h 39 (h 35 11).toNatClampNeg (h 15 14)) 40 (h 35 11).toNatClampNeg (h 15 15)) 35 11) := ICv I3 35 _
      have f15 : iv 0 4 ((hs (hs h 39 (h 35 11).toNatClampNeg (h 15 14)) 40 (h 35 11).toNatClampNeg (h 15 15)) 15 16) := ICv I3 15 _
      refine sf_n (iv_in f14 rfl) ?_
      have f17 : iv 0 11 ((hs (hs h 39 (h 35 11).toNatClampNeg (h 15 14)) 40 (h 35 11).toNatClampNeg (h 15 15)) 15 17) := ICv I3 15 _
      refine sf_n (iv_in f14 rfl) ?_
      have I18 : IC z (hs (hs (hs (hs h 39 (h 35 11).toNatClampNeg (h 15 14)) 40 (h 35 11).toNatClampNeg (h 15 15)) 43 ((hs (hs h 39 (h 35 11).toNatClampNeg (h 15 14)) 40 (h 35 11).toNatClampNeg (h 15 15)) 35 11).toNatClampNeg ((hs (hs h 39 (h 35 11).toNatClampNeg (h 15 14)) 40 (h 35 11).toNatClampNeg (h 15 15)) 15 16)) 44 ((hs (hs h 39 (h 35 11).toNatClampNeg (h 15 14)) 40 (h 35 11).toNatClampNeg (h 15 15)) 35 11).toNatClampNeg ((hs (hs h 39 (h 35 11).toNatClampNeg (h 15 14)) 40 (h 35 11).toNatClampNeg (h 15 15)) 15 17)) := ICmt I3 (((hs (hs h 39 (h 35 11).toNatClampNeg (h 15 14)) 40 (h 35 11).toNatClampNeg (h 15 15)) 35 11).toNatClampNeg) f15 f17 I3.2.1.2.2.1
      exact ⟨trivial, I18⟩
    · have f19 : iv 0 11 (h 15 15) := iv_ltl f11 (iv_lit (lo := 12) (hi := 12) (x := 12) rfl) (nle c12) rfl
      refine sf_n (iv_in f19 rfl) ?_
      have f20 : iv 0 3 (h 16 ((h 15 15).toNatClampNeg)) := ICv I 16 _
      refine sf_n (iv_in f1 rfl) ?_
      have I21 : IC z (hs (hs (hs h 39 (h 35 11).toNatClampNeg (h 15 14)) 40 (h 35 11).toNatClampNeg (h 15 15)) 41 (h 35 11).toNatClampNeg (h 16 ((h 15 15).toNatClampNeg))) := ICs I3 (k := 41) (i := (h 35 11).toNatClampNeg) (v := (h 16 ((h 15 15).toNatClampNeg))) (iv_any (h 16 ((h 15 15).toNatClampNeg))) rfl
      refine sf_n (iv_in f19 rfl) ?_
      refine sf_n (iv_in f1 rfl) ?_
      have I22 : IC z (hs (hs (hs (hs h 39 (h 35 11).toNatClampNeg (h 15 14)) 40 (h 35 11).toNatClampNeg (h 15 15)) 41 (h 35 11).toNatClampNeg (h 16 ((h 15 15).toNatClampNeg))) 42 (h 35 11).toNatClampNeg (h 17 ((h 15 15).toNatClampNeg))) := ICs I21 (k := 42) (i := (h 35 11).toNatClampNeg) (v := (h 17 ((h 15 15).toNatClampNeg))) (iv_any (h 17 ((h 15 15).toNatClampNeg))) rfl
      unfold PX10_noteEffects_s_68 FX10_noteEffects_s_68
      have f23 : iv 0 300 ((hs (hs (hs (hs h 39 (h 35 11).toNatClampNeg (h 15 14)) 40 (h 35 11).toNatClampNeg (h 15 15)) 41 (h 35 11).toNatClampNeg (h 16 ((h 15 15).toNatClampNeg))) 42 (h 35 11).toNatClampNeg (h 17 ((h 15 15).toNatClampNeg))) 35 11) := ICv I22 35 _
      have f24 : iv 0 4 ((hs (hs (hs (hs h 39 (h 35 11).toNatClampNeg (h 15 14)) 40 (h 35 11).toNatClampNeg (h 15 15)) 41 (h 35 11).toNatClampNeg (h 16 ((h 15 15).toNatClampNeg))) 42 (h 35 11).toNatClampNeg (h 17 ((h 15 15).toNatClampNeg))) 15 16) := ICv I22 15 _
      refine sf_n (iv_in f23 rfl) ?_
      have f26 : iv 0 11 ((hs (hs (hs (hs h 39 (h 35 11).toNatClampNeg (h 15 14)) 40 (h 35 11).toNatClampNeg (h 15 15)) 41 (h 35 11).toNatClampNeg (h 16 ((h 15 15).toNatClampNeg))) 42 (h 35 11).toNatClampNeg (h 17 ((h 15 15).toNatClampNeg))) 15 17) := ICv I22 15 _
      refine sf_n (iv_in f23 rfl) ?_
      have I27 : IC z (hs (hs (hs (hs (hs (hs h 39 (h 35 11).toNatClampNeg (h 15 14)) 40 (h 35 11).toNatClampNeg (h 15 15)) 41 (h 35 11).toNatClampNeg (h 16 ((h 15 15).toNatClampNeg))) 42 (h 35 11).toNatClampNeg (h 17 ((h 15 15).toNatClampNeg))) 43 ((hs (hs (hs (hs h 39 (h 35 11).toNatClampNeg (h 15 14)) 40 (h 35 11).toNatClampNeg (h 15 15)) 41 (h 35 11).toNatClampNeg (h 16 ((h 15 15).toNatClampNeg))) 42 (h 35 11).toNatClampNeg (h 17 ((h 15 15).toNatClampNeg))) 35 11).toNatClampNeg ((hs (hs (hs (hs h 39 (h 35 11).toNatClampNeg (h 15 14)) 40 (h 35 11).toNatClampNeg (h 15 15)) 41 (h 35 11).toNatClampNeg (h 16 ((h 15 15).toNatClampNeg))) 42 (h 35 11).toNatClampNeg (h 17 ((h 15 15).toNatClampNeg))) 15 16)) 44 ((hs (hs (hs (hs h 39 (h 35 11).toNatClampNeg (h 15 14)) 40 (h 35 11).toNatClampNeg (h 15 15)) 41 (h 35 11).toNatClampNeg (h 16 ((h 15 15).toNatClampNeg))) 42 (h 35 11).toNatClampNeg (h 17 ((h 15 15).toNatClampNeg))) 35 11).toNatClampNeg ((hs (hs (hs (hs h 39 (h 35 11).toNatClampNeg (h 15 14)) 40 (h 35 11).toNatClampNeg (h 15 15)) 41 (h 35 11).toNatClampNeg (h 16 ((h 15 15).toNatClampNeg))) 42 (h 35 11).toNatClampNeg (h 17 ((h 15 15).toNatClampNeg))) 15 17)) := ICmt I22 (((hs (hs (hs (hs h 39 (h 35 11).toNatClampNeg (h 15 14)) 40 (h 35 11).toNatClampNeg (h 15 15)) 41 (h 35 11).toNatClampNeg (h 16 ((h 15 15).toNatClampNeg))) 42 (h 35 11).toNatClampNeg (h 17 ((h 15 15).toNatClampNeg))) 35 11).toNatClampNeg) f24 f26 I22.2.1.2.2.1
      exact ⟨trivial, I27⟩

-- X5_has_t
set_option maxRecDepth 100000 in
set_option maxHeartbeats 4000000 in
theorem SX5_has_t {z : zT} (a0 : Int32) (a1 : Int32) (h : ph_H) (I : IC z h) (f_a0 : iv 0 3 a0) : PX5_has_t a0 a1 h ∧ Qc 0 1 (fun r => ¬ r = 0 → iv 0 23 a1) (FX5_has_t a0 a1 h) := by
  unfold PX5_has_t FX5_has_t
  refine sf_if (fun c1 => ?_) (fun c1 => ?_)
  · have f2 : iv (-2147483648) (-1) a1 := iv_ltl (iv_any a1) (iv_lit (lo := 0) (hi := 0) (x := 0) rfl) c1 rfl
    exact ⟨trivial, (iv_w (c := 0) (d := 1) (iv_lit (lo := 0) (hi := 0) (x := 0) rfl) rfl), fun z => absurd rfl z⟩
  · have f3 : iv 0 2147483647 a1 := iv_ler (iv_any a1) (iv_lit (lo := 0) (hi := 0) (x := 0) rfl) (nlt c1) rfl
    refine sf_if (fun c4 => ?_) (fun c4 => ?_)
    · have f5 : iv 24 2147483647 a1 := iv_ler f3 (iv_lit (lo := 24) (hi := 24) (x := 24) rfl) c4 rfl
      exact ⟨trivial, (iv_w (c := 0) (d := 1) (iv_lit (lo := 0) (hi := 0) (x := 0) rfl) rfl), fun z => absurd rfl z⟩
    · have f6 : iv 0 23 a1 := iv_ltl f3 (iv_lit (lo := 24) (hi := 24) (x := 24) rfl) (nle c4) rfl
      refine sf_n (iv_in f_a0 rfl) ?_
      have f7 : iv 0 24 (h 9 (a0.toNatClampNeg)) := ICv I 9 _
      refine sf_if (fun c8 => ?_) (fun c8 => ?_)
      · have f9 : iv 0 23 (h 9 (a0.toNatClampNeg)) := iv_lel f7 f6 c8 rfl
        exact ⟨trivial, (iv_w (c := 0) (d := 1) (iv_lit (lo := 0) (hi := 0) (x := 0) rfl) rfl), fun z => absurd rfl z⟩
      · have f10 : iv 1 24 (h 9 (a0.toNatClampNeg)) := iv_ltr f7 f6 (nle c8) rfl
        exact ⟨trivial, (iv_w (c := 0) (d := 1) (iv_lit (lo := 1) (hi := 1) (x := 1) rfl) rfl), fun _ => f6⟩

-- X3_hasEnded_s
set_option maxRecDepth 100000 in
set_option maxHeartbeats 4000000 in
theorem SX3_hasEnded_s {z : zT} (a0 : Int32) (h : ph_H) (I : IC z h) (f_a0 : iv 0 3 a0) : PX3_hasEnded_s a0 h ∧ Qc 0 1 (fun r => r = 0 → iv 0 23 (h 18 (a0.toNatClampNeg))) (FX3_hasEnded_s a0 h) := by
  unfold PX3_hasEnded_s FX3_hasEnded_s
  refine sf_n (iv_in f_a0 rfl) ?_
  have s1 := SX5_has_t (z := z) a0 (h 18 (a0.toNatClampNeg)) h I f_a0
  refine sf_n s1.1 ?_
  refine sf_if (fun c2 => ?_) (fun c2 => ?_)
  · have f3 : iv 0 0 (FX5_has_t a0 (h 18 (a0.toNatClampNeg)) h) := iv_eql s1.2.1 (iv_lit (lo := 0) (hi := 0) (x := 0) rfl) c2 rfl
    exact ⟨trivial, (iv_w (c := 0) (d := 1) (iv_lit (lo := 1) (hi := 1) (x := 1) rfl) rfl), fun z => absurd z (by decide)⟩
  · have f4 : iv 0 23 (h 18 (a0.toNatClampNeg)) := iv_and (iv_any _) (s1.2.2 c2) rfl
    have f5 : iv 1 1 (FX5_has_t a0 (h 18 (a0.toNatClampNeg)) h) := iv_nel s1.2.1 c2 rfl
    exact ⟨trivial, (iv_w (c := 0) (d := 1) (iv_lit (lo := 0) (hi := 0) (x := 0) rfl) rfl), fun _ => f4⟩

-- X3_lockIn_s
set_option maxRecDepth 100000 in
set_option maxHeartbeats 4000000 in
theorem SX3_lockIn_s {z : zT} (a0 : Int32) (h : ph_H) (I : IC z h) (f_a0 : iv 0 27 a0) : PX3_lockIn_s a0 h ∧ iv (-1) 11 (FX3_lockIn_s a0 h) := by
  unfold PX3_lockIn_s FX3_lockIn_s
  refine sf_n (iv_in f_a0 rfl) ?_
  have f1 : iv 0 3 (h 16 (a0.toNatClampNeg)) := ICv I 16 _
  refine sf_if (fun c2 => ?_) (fun c2 => ?_)
  · have f3 : iv 2 2 (h 16 (a0.toNatClampNeg)) := iv_eql f1 (iv_lit (lo := 2) (hi := 2) (x := 2) rfl) c2 rfl
    have f4 : iv 0 11 (h 17 (a0.toNatClampNeg)) := KVn_s I f3 rfl
    unfold PX3_lockIn_s_20 FX3_lockIn_s_20
    refine sf_n (iv_in f_a0 rfl) ?_
    exact ⟨trivial, (iv_w (c := (-1)) (d := 11) f4 rfl)⟩
  · refine sf_n (iv_in f_a0 rfl) ?_
    refine sf_if (fun c5 => ?_) (fun c5 => ?_)
    · have f6 : iv 3 3 (h 16 (a0.toNatClampNeg)) := iv_eql f1 (iv_lit (lo := 3) (hi := 3) (x := 3) rfl) c5 rfl
      have f7 : iv 0 11 (h 17 (a0.toNatClampNeg)) := KVn_s I f6 rfl
      unfold PX3_lockIn_s_20 FX3_lockIn_s_20
      refine sf_n (iv_in f_a0 rfl) ?_
      exact ⟨trivial, (iv_w (c := (-1)) (d := 11) f7 rfl)⟩
    · have f8 : iv 0 2 (h 16 (a0.toNatClampNeg)) := iv_nel f1 c5 rfl
      exact ⟨trivial, (iv_w (c := (-1)) (d := 11) (iv_lit (lo := (-1)) (hi := (-1)) (x := (-1)) rfl) rfl)⟩

-- X3_slotOf
set_option maxRecDepth 100000 in
set_option maxHeartbeats 4000000 in
theorem SX3_slotOf  (a0 : Int32) (a1 : Int32) (f_a0 : iv 0 3 a0) : PX3_slotOf a0 a1 ∧ iv 12 27 (FX3_slotOf a0 a1) := by
  unfold PX3_slotOf FX3_slotOf
  have f1 : iv 0 12 (a0 * 4) := iv_mulr (c := 4) rfl f_a0 rfl
  have f2 : iv 12 24 (12 + (a0 * 4)) := iv_add (iv_lit (lo := 12) (hi := 12) (x := 12) rfl) f1 rfl
  refine sf_n (fmod_p (m := 4) (by decide) (by decide)) ?_
  have f3 : iv 0 3 (FJ9_floorMod_7cf53 a1 4) := fmod_iv (m := 4) rfl
  have f4 : iv 12 27 ((12 + (a0 * 4)) + (FJ9_floorMod_7cf53 a1 4)) := iv_add f2 f3 rfl
  exact ⟨trivial, f4⟩

-- X5_firstPart_t
set_option maxRecDepth 100000 in
set_option maxHeartbeats 4000000 in
theorem SX5_firstPart_t {z : zT} (a0 : Int32) (a1 : Int32) (h : ph_H) (I : IC z h) (f_a0 : iv 0 3 a0) (f_a1 : iv 0 23 a1) : PX5_firstPart_t a0 a1 h ∧ iv 0 380 (FX5_firstPart_t a0 a1 h) := by
  unfold PX5_firstPart_t FX5_firstPart_t
  have f1 : iv 0 72 (a0 * 24) := iv_mulr (c := 24) rfl f_a0 rfl
  have f2 : iv 0 95 ((a0 * 24) + a1) := iv_add f1 f_a1 rfl
  have f3 : iv 0 380 (((a0 * 24) + a1) * 4) := iv_mulr (c := 4) rfl f2 rfl
  exact ⟨trivial, f3⟩

-- X3_canGo_s
set_option maxRecDepth 100000 in
set_option maxHeartbeats 4000000 in
theorem SX3_canGo_s {z : zT} (a0 : Int32) (h : ph_H) (I : IC z h) (f_a0 : iv 0 3 a0) : PX3_canGo_s a0 h ∧ Qc 0 1 (fun r => ¬ r = 0 → iv 0 23 (h 18 (a0.toNatClampNeg))) (FX3_canGo_s a0 h) := by
  unfold PX3_canGo_s FX3_canGo_s
  refine sf_n (iv_in f_a0 rfl) ?_
  refine sf_if (fun c1 => ?_) (fun c1 => ?_)
  · have f2 : iv 0 0 (h 19 (a0.toNatClampNeg)) := iv_eql (iv_any (h 19 (a0.toNatClampNeg))) (iv_lit (lo := 0) (hi := 0) (x := 0) rfl) c1 rfl
    exact ⟨trivial, (iv_w (c := 0) (d := 1) (iv_lit (lo := 0) (hi := 0) (x := 0) rfl) rfl), fun z => absurd rfl z⟩
  · refine sf_n (iv_in f_a0 rfl) ?_
    refine sf_if (fun c3 => ?_) (fun c3 => ?_)
    · have f4 : iv 2 2 (h 19 (a0.toNatClampNeg)) := iv_eql (iv_any (h 19 (a0.toNatClampNeg))) (iv_lit (lo := 2) (hi := 2) (x := 2) rfl) c3 rfl
      exact ⟨trivial, (iv_w (c := 0) (d := 1) (iv_lit (lo := 0) (hi := 0) (x := 0) rfl) rfl), fun z => absurd rfl z⟩
    · have s5 := SX3_hasEnded_s (z := z) a0 h I f_a0
      refine sf_n s5.1 ?_
      refine sf_if (fun c6 => ?_) (fun c6 => ?_)
      · have f7 : iv 0 23 (h 18 (a0.toNatClampNeg)) := iv_and (iv_any _) (s5.2.2 c6) rfl
        have f8 : iv 0 0 (FX3_hasEnded_s a0 h) := iv_eql s5.2.1 (iv_lit (lo := 0) (hi := 0) (x := 0) rfl) c6 rfl
        refine sf_n (iv_in f_a0 rfl) ?_
        refine sf_if (fun c9 => ?_) (fun c9 => ?_)
        · have f10 : iv 3 3 (h 19 (a0.toNatClampNeg)) := iv_eql (iv_any (h 19 (a0.toNatClampNeg))) (iv_lit (lo := 3) (hi := 3) (x := 3) rfl) c9 rfl
          refine sf_n (iv_in f_a0 rfl) ?_
          have f11 : iv 0 11 (h 20 (a0.toNatClampNeg)) := ICv I 20 _
          refine sf_n (iv_in f11 rfl) ?_
          refine sf_if (fun c12 => ?_) (fun c12 => ?_)
          · have f13 : iv (-2) (-2) (h 23 ((h 20 (a0.toNatClampNeg)).toNatClampNeg)) := iv_eql (iv_any (h 23 ((h 20 (a0.toNatClampNeg)).toNatClampNeg))) (iv_lit (lo := (-2)) (hi := (-2)) (x := (-2)) rfl) c12 rfl
            exact ⟨trivial, (iv_w (c := 0) (d := 1) (iv_lit (lo := 1) (hi := 1) (x := 1) rfl) rfl), fun _ => f7⟩
          · exact ⟨trivial, (iv_w (c := 0) (d := 1) (iv_lit (lo := 0) (hi := 0) (x := 0) rfl) rfl), fun z => absurd rfl z⟩
        · refine sf_n (iv_in f_a0 rfl) ?_
          have s14 := SX5_firstPart_t (z := z) a0 (h 18 (a0.toNatClampNeg)) h I f_a0 f7
          refine sf_n s14.1 ?_
          refine sf_n (iv_in s14.2 rfl) ?_
          refine sf_if (fun c15 => ?_) (fun c15 => ?_)
          · have f16 : iv 12 12 (h 10 ((FX5_firstPart_t a0 (h 18 (a0.toNatClampNeg)) h).toNatClampNeg)) := iv_eql (iv_any (h 10 ((FX5_firstPart_t a0 (h 18 (a0.toNatClampNeg)) h).toNatClampNeg))) (iv_lit (lo := 12) (hi := 12) (x := 12) rfl) c15 rfl
            have f17 : iv 1 381 ((FX5_firstPart_t a0 (h 18 (a0.toNatClampNeg)) h) + 1) := iv_add s14.2 (iv_lit (lo := 1) (hi := 1) (x := 1) rfl) rfl
            refine sf_n (iv_in f17 rfl) ?_
            have s18 := SX3_slotOf a0 (h 10 (((FX5_firstPart_t a0 (h 18 (a0.toNatClampNeg)) h) + 1).toNatClampNeg)) f_a0
            refine sf_n s18.1 ?_
            have s19 := SX3_lockIn_s (z := z) (FX3_slotOf a0 (h 10 (((FX5_firstPart_t a0 (h 18 (a0.toNatClampNeg)) h) + 1).toNatClampNeg))) h I (iv_w (c := 0) (d := 27) s18.2 rfl)
            refine sf_n s19.1 ?_
            refine sf_if (fun c20 => ?_) (fun c20 => ?_)
            · have f21 : iv (-1) (-1) (FX3_lockIn_s (FX3_slotOf a0 (h 10 (((FX5_firstPart_t a0 (h 18 (a0.toNatClampNeg)) h) + 1).toNatClampNeg))) h) := iv_ltl s19.2 (iv_lit (lo := 0) (hi := 0) (x := 0) rfl) c20 rfl
              unfold PX3_canGo_s_137 FX3_canGo_s_137
              exact ⟨trivial, (iv_w (c := 0) (d := 1) (iv_lit (lo := 1) (hi := 1) (x := 1) rfl) rfl), fun _ => f7⟩
            · have f22 : iv 0 11 (FX3_lockIn_s (FX3_slotOf a0 (h 10 (((FX5_firstPart_t a0 (h 18 (a0.toNatClampNeg)) h) + 1).toNatClampNeg))) h) := iv_ler s19.2 (iv_lit (lo := 0) (hi := 0) (x := 0) rfl) (nlt c20) rfl
              refine sf_n (iv_in f22 rfl) ?_
              refine sf_if (fun c23 => ?_) (fun c23 => ?_)
              · have f24 : iv (-2) (-2) (h 23 ((FX3_lockIn_s (FX3_slotOf a0 (h 10 (((FX5_firstPart_t a0 (h 18 (a0.toNatClampNeg)) h) + 1).toNatClampNeg))) h).toNatClampNeg)) := iv_eql (iv_any (h 23 ((FX3_lockIn_s (FX3_slotOf a0 (h 10 (((FX5_firstPart_t a0 (h 18 (a0.toNatClampNeg)) h) + 1).toNatClampNeg))) h).toNatClampNeg))) (iv_lit (lo := (-2)) (hi := (-2)) (x := (-2)) rfl) c23 rfl
                unfold PX3_canGo_s_137 FX3_canGo_s_137
                exact ⟨trivial, (iv_w (c := 0) (d := 1) (iv_lit (lo := 1) (hi := 1) (x := 1) rfl) rfl), fun _ => f7⟩
              · refine sf_n (iv_in f22 rfl) ?_
                refine sf_if (fun c25 => ?_) (fun c25 => ?_)
                · have f26 : iv 0 3 (h 23 ((FX3_lockIn_s (FX3_slotOf a0 (h 10 (((FX5_firstPart_t a0 (h 18 (a0.toNatClampNeg)) h) + 1).toNatClampNeg))) h).toNatClampNeg)) := iv_eql (iv_any (h 23 ((FX3_lockIn_s (FX3_slotOf a0 (h 10 (((FX5_firstPart_t a0 (h 18 (a0.toNatClampNeg)) h) + 1).toNatClampNeg))) h).toNatClampNeg))) f_a0 c25 rfl
                  unfold PX3_canGo_s_137 FX3_canGo_s_137
                  exact ⟨trivial, (iv_w (c := 0) (d := 1) (iv_lit (lo := 1) (hi := 1) (x := 1) rfl) rfl), fun _ => f7⟩
                · exact ⟨trivial, (iv_w (c := 0) (d := 1) (iv_lit (lo := 0) (hi := 0) (x := 0) rfl) rfl), fun z => absurd rfl z⟩
          · exact ⟨trivial, (iv_w (c := 0) (d := 1) (iv_lit (lo := 1) (hi := 1) (x := 1) rfl) rfl), fun _ => f7⟩
      · have f27 : iv 1 1 (FX3_hasEnded_s a0 h) := iv_nel s5.2.1 c6 rfl
        exact ⟨trivial, (iv_w (c := 0) (d := 1) (iv_lit (lo := 0) (hi := 0) (x := 0) rfl) rfl), fun z => absurd rfl z⟩

-- X3_hold_s
set_option maxRecDepth 100000 in
set_option maxHeartbeats 4000000 in
theorem SX3_hold_s {z : zT} (a0 : Int32) (a1 : Int32) (a2 : Int32) (h : ph_H) (I : IC z h) (f_a0 : iv 0 27 a0) (f_a1 : iv 0 3 a1) (q : a1 = 0 ∨ iv 0 11 a2) : PX3_hold_s a0 a1 a2 h ∧ QC z 0 0 (FX3_hold_s a0 a1 a2 h) := by
  unfold PX3_hold_s FX3_hold_s
  refine sf_n (iv_in f_a0 rfl) ?_
  refine sf_n (iv_in f_a0 rfl) ?_
  have I2 : IC z (hs (hs h 16 a0.toNatClampNeg a1) 17 a0.toNatClampNeg a2) := ICkv_s I a0.toNatClampNeg f_a1 q
  exact ⟨trivial, QC_mk (iv_lit (lo := 0) (hi := 0) (x := 0) rfl) I2⟩

-- X3_getCell_s
set_option maxRecDepth 100000 in
set_option maxHeartbeats 4000000 in
theorem SX3_getCell_s {z : zT} (a0 : Int32) (a1 : Int32) (h : ph_H) (I : IC z h) (f_a0 : iv 0 27 a0) (f_a1 : iv 0 11 a1) : PX3_getCell_s a0 a1 h ∧ QC z 0 0 (FX3_getCell_s a0 a1 h) := by
  unfold PX3_getCell_s FX3_getCell_s
  have I1 : IC z (hs h 15 14 a1) := ICs I (k := 15) (i := 14) (v := a1) (iv_any a1) rfl
  refine sf_n (iv_in f_a1 rfl) ?_
  have f2 : iv 0 3 (h 16 (a1.toNatClampNeg)) := ICv I 16 _
  refine sf_n (iv_in f_a1 rfl) ?_
  have s3 := SX3_hold_s (z := z) a0 (h 16 (a1.toNatClampNeg)) (h 17 (a1.toNatClampNeg)) (hs h 15 14 a1) I1 f_a0 f2 (I.2.1.1 _)
  refine sf_n s3.1 ?_
  exact ⟨trivial, QC_mk s3.2.1 s3.2.2⟩

-- X3_goTo_s
set_option maxRecDepth 100000 in
set_option maxHeartbeats 4000000 in
theorem SX3_goTo_s {z : zT} (a0 : Int32) (h : ph_H) (I : IC z h) : PX3_goTo_s a0 h ∧ QC z 0 0 (FX3_goTo_s a0 h) := by
  unfold PX3_goTo_s FX3_goTo_s
  have I1 : IC z (hs h 15 13 a0) := ICs I (k := 15) (i := 13) (v := a0) (iv_any a0) rfl
  exact ⟨trivial, QC_mk (iv_lit (lo := 0) (hi := 0) (x := 0) rfl) I1⟩

-- X3_goUnless_s
set_option maxRecDepth 100000 in
set_option maxHeartbeats 4000000 in
theorem SX3_goUnless_s {z : zT} (a0 : Int32) (a1 : Int32) (h : ph_H) (I : IC z h) (f_a0 : iv 0 27 a0) : PX3_goUnless_s a0 a1 h ∧ QC z 0 1 (FX3_goUnless_s a0 a1 h) := by
  unfold PX3_goUnless_s FX3_goUnless_s
  refine sf_n (iv_in f_a0 rfl) ?_
  have f1 : iv 0 3 (h 16 (a0.toNatClampNeg)) := ICv I 16 _
  refine sf_if (fun c2 => ?_) (fun c2 => ?_)
  · have f3 : iv 0 0 (h 16 (a0.toNatClampNeg)) := iv_eql f1 (iv_lit (lo := 0) (hi := 0) (x := 0) rfl) c2 rfl
    refine sf_n (iv_in f_a0 rfl) ?_
    refine sf_if (fun c4 => ?_) (fun c4 => ?_)
    · have f5 : iv 0 0 (h 17 (a0.toNatClampNeg)) := iv_eql (iv_any (h 17 (a0.toNatClampNeg))) (iv_lit (lo := 0) (hi := 0) (x := 0) rfl) c4 rfl
      have s6 := SX3_goTo_s (z := z) a1 h I
      refine sf_n s6.1 ?_
      unfold PX3_goUnless_s_25 FX3_goUnless_s_25
      exact ⟨trivial, QC_mk (iv_w (c := 0) (d := 1) s6.2.1 rfl) s6.2.2⟩
    · exact ⟨trivial, QC_mk (iv_w (c := 0) (d := 1) (iv_lit (lo := 0) (hi := 0) (x := 0) rfl) rfl) I⟩
  · have f7 : iv 1 3 (h 16 (a0.toNatClampNeg)) := iv_nel f1 c2 rfl
    have f8 : iv 0 11 (h 17 (a0.toNatClampNeg)) := KVn_s I f7 rfl
    exact ⟨trivial, QC_mk (iv_w (c := 0) (d := 1) (iv_lit (lo := 1) (hi := 1) (x := 1) rfl) rfl) I⟩

-- X3_free_s
set_option maxRecDepth 100000 in
set_option maxHeartbeats 4000000 in
theorem SX3_free_s {z : zT} (a0 : Int32) (h : ph_H) (I : IC z h) (f_a0 : iv 0 11 a0) : PX3_free_s a0 h ∧ QC z 0 0 (FX3_free_s a0 h) := by
  unfold PX3_free_s FX3_free_s
  refine sf_n (iv_in f_a0 rfl) ?_
  have I1 : IC z (hs h 23 a0.toNatClampNeg (-2)) := ICs I (k := 23) (i := a0.toNatClampNeg) (v := (-2)) (iv_any (-2)) rfl
  have I2 : IC z (hs (hs h 23 a0.toNatClampNeg (-2)) 15 16 2) := ICm1 I1 (iv_w (c := 0) (d := 4) (iv_lit (lo := 2) (hi := 2) (x := 2) rfl) rfl) (by decide)
  have I3 : IC z (hs (hs (hs h 23 a0.toNatClampNeg (-2)) 15 16 2) 15 17 a0) := ICmm I1 (iv_w (c := 0) (d := 4) (iv_lit (lo := 2) (hi := 2) (x := 2) rfl) rfl) f_a0 (fun e => absurd e (by decide))
  exact ⟨trivial, QC_mk (iv_lit (lo := 0) (hi := 0) (x := 0) rfl) I3⟩

-- X3_leaveLock_s
set_option maxRecDepth 100000 in
set_option maxHeartbeats 4000000 in
theorem SX3_leaveLock_s {z : zT} (a0 : Int32) (a1 : Int32) (h : ph_H) (I : IC z h) (f_a1 : iv 0 27 a1) : PX3_leaveLock_s a0 a1 h ∧ QC z 0 6 (FX3_leaveLock_s a0 a1 h) := by
  unfold PX3_leaveLock_s FX3_leaveLock_s
  have s1 := SX3_lockIn_s (z := z) a1 h I f_a1
  refine sf_n s1.1 ?_
  refine sf_if (fun c2 => ?_) (fun c2 => ?_)
  · have f3 : iv 0 11 (FX3_lockIn_s a1 h) := iv_ler s1.2 (iv_lit (lo := 0) (hi := 0) (x := 0) rfl) c2 rfl
    refine sf_n (iv_in f3 rfl) ?_
    refine sf_if (fun c4 => ?_) (fun c4 => ?_)
    · have s5 := SX3_free_s (z := z) (FX3_lockIn_s a1 h) h I f3
      refine sf_n s5.1 ?_
      exact ⟨trivial, QC_mk (iv_w (c := 0) (d := 6) s5.2.1 rfl) s5.2.2⟩
    · exact ⟨trivial, QC_mk (iv_w (c := 0) (d := 6) (iv_lit (lo := 6) (hi := 6) (x := 6) rfl) rfl) I⟩
  · have f6 : iv (-1) (-1) (FX3_lockIn_s a1 h) := iv_ltl s1.2 (iv_lit (lo := 0) (hi := 0) (x := 0) rfl) (nle c2) rfl
    exact ⟨trivial, QC_mk (iv_w (c := 0) (d := 6) (iv_lit (lo := 1) (hi := 1) (x := 1) rfl) rfl) I⟩

-- X3_gateIn_s
set_option maxRecDepth 100000 in
set_option maxHeartbeats 4000000 in
theorem SX3_gateIn_s {z : zT} (a0 : Int32) (h : ph_H) (I : IC z h) (f_a0 : iv 0 27 a0) : PX3_gateIn_s a0 h ∧ iv (-1) 11 (FX3_gateIn_s a0 h) := by
  unfold PX3_gateIn_s FX3_gateIn_s
  refine sf_n (iv_in f_a0 rfl) ?_
  have f1 : iv 0 3 (h 16 (a0.toNatClampNeg)) := ICv I 16 _
  refine sf_if (fun c2 => ?_) (fun c2 => ?_)
  · have f3 : iv 3 3 (h 16 (a0.toNatClampNeg)) := iv_eql f1 (iv_lit (lo := 3) (hi := 3) (x := 3) rfl) c2 rfl
    have f4 : iv 0 11 (h 17 (a0.toNatClampNeg)) := KVn_s I f3 rfl
    refine sf_n (iv_in f_a0 rfl) ?_
    exact ⟨trivial, (iv_w (c := (-1)) (d := 11) f4 rfl)⟩
  · have f5 : iv 0 2 (h 16 (a0.toNatClampNeg)) := iv_nel f1 c2 rfl
    exact ⟨trivial, (iv_w (c := (-1)) (d := 11) (iv_lit (lo := (-1)) (hi := (-1)) (x := (-1)) rfl) rfl)⟩

-- X3_lieDown_s
set_option maxRecDepth 100000 in
set_option maxHeartbeats 4000000 in
theorem SX3_lieDown_s {z : zT} (a0 : Int32) (a1 : Int32) (h : ph_H) (I : IC z h) (f_a0 : iv 0 3 a0) (f_a1 : iv 0 27 a1) : PX3_lieDown_s a0 a1 h ∧ QC z 0 6 (FX3_lieDown_s a0 a1 h) := by
  unfold PX3_lieDown_s FX3_lieDown_s
  have s1 := SX3_gateIn_s (z := z) a1 h I f_a1
  refine sf_n s1.1 ?_
  refine sf_if (fun c2 => ?_) (fun c2 => ?_)
  · have f3 : iv 0 11 (FX3_gateIn_s a1 h) := iv_ler s1.2 (iv_lit (lo := 0) (hi := 0) (x := 0) rfl) c2 rfl
    refine sf_n (iv_in f3 rfl) ?_
    refine sf_if (fun c4 => ?_) (fun c4 => ?_)
    · have f5 : iv 0 3 (h 23 ((FX3_gateIn_s a1 h).toNatClampNeg)) := iv_eql (iv_any (h 23 ((FX3_gateIn_s a1 h).toNatClampNeg))) f_a0 c4 rfl
      refine sf_n (iv_in f_a0 rfl) ?_
      have I6 : IC z (hs h 19 a0.toNatClampNeg 2) := ICs I (k := 19) (i := a0.toNatClampNeg) (v := 2) (iv_any 2) rfl
      refine sf_n (iv_in f_a0 rfl) ?_
      have I7 : IC z (hs (hs h 19 a0.toNatClampNeg 2) 20 a0.toNatClampNeg (FX3_gateIn_s a1 h)) := ICs I6 (k := 20) (i := a0.toNatClampNeg) (v := (FX3_gateIn_s a1 h)) f3 rfl
      refine sf_n (iv_in f_a0 rfl) ?_
      have I8 : IC z (hs (hs (hs h 19 a0.toNatClampNeg 2) 20 a0.toNatClampNeg (FX3_gateIn_s a1 h)) 15 13 (h 18 (a0.toNatClampNeg))) := ICs I7 (k := 15) (i := 13) (v := (h 18 (a0.toNatClampNeg))) (iv_any (h 18 (a0.toNatClampNeg))) rfl
      have s9 := SX3_free_s (z := z) (FX3_gateIn_s a1 h) (hs (hs (hs h 19 a0.toNatClampNeg 2) 20 a0.toNatClampNeg (FX3_gateIn_s a1 h)) 15 13 (h 18 (a0.toNatClampNeg))) I8 f3
      refine sf_n s9.1 ?_
      exact ⟨trivial, QC_mk (iv_w (c := 0) (d := 6) s9.2.1 rfl) s9.2.2⟩
    · exact ⟨trivial, QC_mk (iv_w (c := 0) (d := 6) (iv_lit (lo := 6) (hi := 6) (x := 6) rfl) rfl) I⟩
  · have f10 : iv (-1) (-1) (FX3_gateIn_s a1 h) := iv_ltl s1.2 (iv_lit (lo := 0) (hi := 0) (x := 0) rfl) (nle c2) rfl
    exact ⟨trivial, QC_mk (iv_w (c := 0) (d := 6) (iv_lit (lo := 1) (hi := 1) (x := 1) rfl) rfl) I⟩

-- X3_makeThing_s
set_option maxRecDepth 100000 in
set_option maxHeartbeats 4000000 in
theorem SX3_makeThing_s {z : zT} (a0 : Int32) (a1 : Int32) (a2 : Int32) (h : ph_H) (I : IC z h) (f_a0 : iv 0 27 a0) (f_a1 : iv 0 3 a1) (f_a2 : iv 0 16 a2) (g_15_10 : iv 0 11 (h 15 10)) : PX3_makeThing_s a0 a1 a2 h ∧ QC z 0 0 (FX3_makeThing_s a0 a1 a2 h) := by
  unfold PX3_makeThing_s FX3_makeThing_s
  have f1 : iv 1 12 ((h 15 10) + 1) := iv_add g_15_10 (iv_lit (lo := 1) (hi := 1) (x := 1) rfl) rfl
  have I2 : IC z (hs h 15 10 ((h 15 10) + 1)) := ICs I (k := 15) (i := 10) (v := ((h 15 10) + 1)) (iv_w (c := 0) (d := 12) f1 rfl) rfl
  refine sf_n (iv_in g_15_10 rfl) ?_
  have I3 : IC z (hs (hs h 15 10 ((h 15 10) + 1)) 21 (h 15 10).toNatClampNeg a1) := ICs I2 (k := 21) (i := (h 15 10).toNatClampNeg) (v := a1) (iv_any a1) rfl
  refine sf_n (iv_in g_15_10 rfl) ?_
  have I4 : IC z (hs (hs (hs h 15 10 ((h 15 10) + 1)) 21 (h 15 10).toNatClampNeg a1) 22 (h 15 10).toNatClampNeg a2) := ICs I3 (k := 22) (i := (h 15 10).toNatClampNeg) (v := a2) f_a2 rfl
  refine sf_n (iv_in g_15_10 rfl) ?_
  have I5 : IC z (hs (hs (hs (hs h 15 10 ((h 15 10) + 1)) 21 (h 15 10).toNatClampNeg a1) 22 (h 15 10).toNatClampNeg a2) 23 (h 15 10).toNatClampNeg (-2)) := ICs I4 (k := 23) (i := (h 15 10).toNatClampNeg) (v := (-2)) (iv_any (-2)) rfl
  refine sf_n (iv_in f_a0 rfl) ?_
  refine sf_n (iv_in f_a0 rfl) ?_
  have I7 : IC z (hs (hs (hs (hs (hs (hs h 15 10 ((h 15 10) + 1)) 21 (h 15 10).toNatClampNeg a1) 22 (h 15 10).toNatClampNeg a2) 23 (h 15 10).toNatClampNeg (-2)) 16 a0.toNatClampNeg a1) 17 a0.toNatClampNeg (h 15 10)) := ICkv_s I5 a0.toNatClampNeg f_a1 (Or.inr g_15_10)
  exact ⟨trivial, QC_mk (iv_lit (lo := 0) (hi := 0) (x := 0) rfl) I7⟩

-- X3_makeLock_s
set_option maxRecDepth 100000 in
set_option maxHeartbeats 4000000 in
theorem SX3_makeLock_s {z : zT} (a0 : Int32) (a1 : Int32) (h : ph_H) (I : IC z h) (f_a0 : iv 0 27 a0) (f_a1 : iv 0 1 a1) : PX3_makeLock_s a0 a1 h ∧ QC z 0 3 (FX3_makeLock_s a0 a1 h) := by
  unfold PX3_makeLock_s FX3_makeLock_s
  have f1 : iv 0 12 (h 15 10) := ICv I 15 _
  refine sf_if (fun c2 => ?_) (fun c2 => ?_)
  · have f3 : iv 0 11 (h 15 10) := iv_ltl f1 (iv_lit (lo := 12) (hi := 12) (x := 12) rfl) c2 rfl
    refine sf_if (fun c4 => ?_) (fun c4 => ?_)
    · have f5 : iv 0 0 a1 := iv_eql f_a1 (iv_lit (lo := 0) (hi := 0) (x := 0) rfl) c4 rfl
      unfold PX3_makeLock_s_22 FX3_makeLock_s_22
      have s6 := SX3_makeThing_s (z := z) a0 2 0 h I f_a0 (iv_w (c := 0) (d := 3) (iv_lit (lo := 2) (hi := 2) (x := 2) rfl) rfl) (iv_w (c := 0) (d := 16) (iv_lit (lo := 0) (hi := 0) (x := 0) rfl) rfl) f3
      refine sf_n s6.1 ?_
      exact ⟨trivial, QC_mk (iv_w (c := 0) (d := 3) s6.2.1 rfl) s6.2.2⟩
    · have f7 : iv 1 1 a1 := iv_nel f_a1 c4 rfl
      unfold PX3_makeLock_s_22 FX3_makeLock_s_22
      have s8 := SX3_makeThing_s (z := z) a0 3 0 h I f_a0 (iv_w (c := 0) (d := 3) (iv_lit (lo := 3) (hi := 3) (x := 3) rfl) rfl) (iv_w (c := 0) (d := 16) (iv_lit (lo := 0) (hi := 0) (x := 0) rfl) rfl) f3
      refine sf_n s8.1 ?_
      exact ⟨trivial, QC_mk (iv_w (c := 0) (d := 3) s8.2.1 rfl) s8.2.2⟩
  · have f9 : iv 12 12 (h 15 10) := iv_ler f1 (iv_lit (lo := 12) (hi := 12) (x := 12) rfl) (nlt c2) rfl
    exact ⟨trivial, QC_mk (iv_w (c := 0) (d := 3) (iv_lit (lo := 3) (hi := 3) (x := 3) rfl) rfl) I⟩

-- X3_makeRow_s
set_option maxRecDepth 100000 in
set_option maxHeartbeats 4000000 in
theorem SX3_makeRow_s_44 {z : zT} : ∀ (q : Nat) (x1 : Int32) (x3 : Int32) (x4 : Int32) (h : ph_H), IC z h → iv 0 27 x1 → iv 0 16 x3 → iv 0 16 x4 → iv 0 11 (h 15 10) → 16 - (x4).toInt < ((q : Nat) : Int) → PX3_makeRow_s_44  q x1 x3 x4 h ∧ QC z 0 3 (FX3_makeRow_s_44  q x1 x3 x4 h) := by
  intro q
  induction q with
  | zero =>
    intro x1 x3 x4 h I f_x1 f_x3 f_x4 g_15_10 mq
    exact mu_zu f_x4 mq rfl
  | succ q ih =>
    intro x1 x3 x4 h I f_x1 f_x3 f_x4 g_15_10 mq
    unfold PX3_makeRow_s_44 FX3_makeRow_s_44
    refine sf_if (fun c1 => ?_) (fun c1 => ?_)
    · have s2 := SX3_makeThing_s (z := z) x1 1 x3 h I f_x1 (iv_w (c := 0) (d := 3) (iv_lit (lo := 1) (hi := 1) (x := 1) rfl) rfl) f_x3 g_15_10
      refine sf_n s2.1 ?_
      exact ⟨trivial, QC_mk (iv_w (c := 0) (d := 3) s2.2.1 rfl) s2.2.2⟩
    · have f3 : iv 0 15 x4 := iv_ltl f_x4 f_x3 (nle c1) rfl
      have f4 : iv 1 16 x3 := iv_ltr f_x3 f_x4 (nle c1) rfl
      have f5 : iv 0 176 ((h 15 10) * 16) := iv_mulr (c := 16) rfl g_15_10 rfl
      have f6 : iv 0 191 (((h 15 10) * 16) + x4) := iv_add f5 f3 rfl
      refine sf_n (iv_in f6 rfl) ?_
      have I7 : IC z (hs h 24 (((h 15 10) * 16) + x4).toNatClampNeg 0) := ICs I (k := 24) (i := (((h 15 10) * 16) + x4).toNatClampNeg) (v := 0) (iv_any 0) rfl
      have f8 : iv 1 16 (x4 + 1) := iv_add f3 (iv_lit (lo := 1) (hi := 1) (x := 1) rfl) rfl
      exact ih x1 x3 (x4 + 1) (hs h 24 (((h 15 10) * 16) + x4).toNatClampNeg 0) I7 f_x1 (iv_w (c := 0) (d := 16) f4 rfl) (iv_w (c := 0) (d := 16) f8 rfl) (iv_r (hz_k (by decide)) g_15_10) (mu_up f3 mq rfl)
set_option maxRecDepth 100000 in
set_option maxHeartbeats 4000000 in
theorem SX3_makeRow_s {z : zT} (a0 : Int32) (a1 : Int32) (h : ph_H) (I : IC z h) (f_a0 : iv 0 27 a0) (f_a1 : iv 0 27 a1) : PX3_makeRow_s a0 a1 h ∧ QC z 0 3 (FX3_makeRow_s a0 a1 h) := by
  unfold PX3_makeRow_s FX3_makeRow_s
  refine sf_n (iv_in f_a1 rfl) ?_
  have f1 : iv 0 3 (h 16 (a1.toNatClampNeg)) := ICv I 16 _
  refine sf_if (fun c2 => ?_) (fun c2 => ?_)
  · have f3 : iv 0 0 (h 16 (a1.toNatClampNeg)) := iv_eql f1 (iv_lit (lo := 0) (hi := 0) (x := 0) rfl) c2 rfl
    refine sf_n (iv_in f_a1 rfl) ?_
    refine sf_if (fun c4 => ?_) (fun c4 => ?_)
    · have f5 : iv 0 2147483647 (h 17 (a1.toNatClampNeg)) := iv_ler (iv_any (h 17 (a1.toNatClampNeg))) (iv_lit (lo := 0) (hi := 0) (x := 0) rfl) c4 rfl
      refine sf_if (fun c6 => ?_) (fun c6 => ?_)
      · have f7 : iv 17 2147483647 (h 17 (a1.toNatClampNeg)) := iv_ltr f5 (iv_lit (lo := 16) (hi := 16) (x := 16) rfl) c6 rfl
        exact ⟨trivial, QC_mk (iv_w (c := 0) (d := 3) (iv_lit (lo := 3) (hi := 3) (x := 3) rfl) rfl) I⟩
      · have f8 : iv 0 16 (h 17 (a1.toNatClampNeg)) := iv_lel f5 (iv_lit (lo := 16) (hi := 16) (x := 16) rfl) (nlt c6) rfl
        have f9 : iv 0 12 (h 15 10) := ICv I 15 _
        refine sf_if (fun c10 => ?_) (fun c10 => ?_)
        · have f11 : iv 0 11 (h 15 10) := iv_ltl f9 (iv_lit (lo := 12) (hi := 12) (x := 12) rfl) c10 rfl
          exact SX3_makeRow_s_44 2000 a0 (h 17 (a1.toNatClampNeg)) 0 h I f_a0 f8 (iv_w (c := 0) (d := 16) (iv_lit (lo := 0) (hi := 0) (x := 0) rfl) rfl) f11 (mu_0u (iv_lit (lo := 0) (hi := 0) (x := 0) rfl) rfl)
        · have f12 : iv 12 12 (h 15 10) := iv_ler f9 (iv_lit (lo := 12) (hi := 12) (x := 12) rfl) (nlt c10) rfl
          exact ⟨trivial, QC_mk (iv_w (c := 0) (d := 3) (iv_lit (lo := 3) (hi := 3) (x := 3) rfl) rfl) I⟩
    · have f13 : iv (-2147483648) (-1) (h 17 (a1.toNatClampNeg)) := iv_ltl (iv_any (h 17 (a1.toNatClampNeg))) (iv_lit (lo := 0) (hi := 0) (x := 0) rfl) (nle c4) rfl
      exact ⟨trivial, QC_mk (iv_w (c := 0) (d := 3) (iv_lit (lo := 2) (hi := 2) (x := 2) rfl) rfl) I⟩
  · have f14 : iv 1 3 (h 16 (a1.toNatClampNeg)) := iv_nel f1 c2 rfl
    have f15 : iv 0 11 (h 17 (a1.toNatClampNeg)) := KVn_s I f14 rfl
    exact ⟨trivial, QC_mk (iv_w (c := 0) (d := 3) (iv_lit (lo := 1) (hi := 1) (x := 1) rfl) rfl) I⟩

-- X3_putCell_s
set_option maxRecDepth 100000 in
set_option maxHeartbeats 4000000 in
theorem SX3_putCell_s {z : zT} (a0 : Int32) (a1 : Int32) (h : ph_H) (I : IC z h) (f_a0 : iv 0 11 a0) (f_a1 : iv 0 27 a1) : PX3_putCell_s a0 a1 h ∧ QC z 0 0 (FX3_putCell_s a0 a1 h) := by
  unfold PX3_putCell_s FX3_putCell_s
  have I1 : IC z (hs h 15 15 a0) := ICs I (k := 15) (i := 15) (v := a0) (iv_any a0) rfl
  refine sf_n (iv_in f_a1 rfl) ?_
  have f2 : iv 0 3 (h 16 (a1.toNatClampNeg)) := ICv I 16 _
  refine sf_n (iv_in f_a1 rfl) ?_
  have s3 := SX3_hold_s (z := z) a0 (h 16 (a1.toNatClampNeg)) (h 17 (a1.toNatClampNeg)) (hs h 15 15 a0) I1 (iv_w (c := 0) (d := 27) f_a0 rfl) f2 (I.2.1.1 _)
  refine sf_n s3.1 ?_
  exact ⟨trivial, QC_mk s3.2.1 s3.2.2⟩

-- X3_hasRowPlace_s
set_option maxRecDepth 100000 in
set_option maxHeartbeats 4000000 in
theorem SX3_hasRowPlace_s {z : zT} (a0 : Int32) (a1 : Int32) (h : ph_H) (I : IC z h) : PX3_hasRowPlace_s a0 a1 h ∧ Qc 0 1 (fun r => ¬ r = 0 → iv 0 11 a0 ∧ iv 0 15 a1) (FX3_hasRowPlace_s a0 a1 h) := by
  unfold PX3_hasRowPlace_s FX3_hasRowPlace_s
  refine sf_if (fun c1 => ?_) (fun c1 => ?_)
  · have f2 : iv (-2147483648) (-1) a0 := iv_ltl (iv_any a0) (iv_lit (lo := 0) (hi := 0) (x := 0) rfl) c1 rfl
    exact ⟨trivial, (iv_w (c := 0) (d := 1) (iv_lit (lo := 0) (hi := 0) (x := 0) rfl) rfl), fun z => absurd rfl z⟩
  · have f3 : iv 0 2147483647 a0 := iv_ler (iv_any a0) (iv_lit (lo := 0) (hi := 0) (x := 0) rfl) (nlt c1) rfl
    have f4 : iv 0 12 (h 15 10) := ICv I 15 _
    refine sf_if (fun c5 => ?_) (fun c5 => ?_)
    · exact ⟨trivial, (iv_w (c := 0) (d := 1) (iv_lit (lo := 0) (hi := 0) (x := 0) rfl) rfl), fun z => absurd rfl z⟩
    · have f6 : iv 0 11 a0 := iv_ltl f3 f4 (nle c5) rfl
      have f7 : iv 1 12 (h 15 10) := iv_ltr f4 f3 (nle c5) rfl
      refine sf_n (iv_in f6 rfl) ?_
      refine sf_if (fun c8 => ?_) (fun c8 => ?_)
      · have f9 : iv 1 1 (h 21 (a0.toNatClampNeg)) := iv_eql (iv_any (h 21 (a0.toNatClampNeg))) (iv_lit (lo := 1) (hi := 1) (x := 1) rfl) c8 rfl
        refine sf_if (fun c10 => ?_) (fun c10 => ?_)
        · have f11 : iv (-2147483648) (-1) a1 := iv_ltl (iv_any a1) (iv_lit (lo := 0) (hi := 0) (x := 0) rfl) c10 rfl
          exact ⟨trivial, (iv_w (c := 0) (d := 1) (iv_lit (lo := 0) (hi := 0) (x := 0) rfl) rfl), fun z => absurd rfl z⟩
        · have f12 : iv 0 2147483647 a1 := iv_ler (iv_any a1) (iv_lit (lo := 0) (hi := 0) (x := 0) rfl) (nlt c10) rfl
          refine sf_n (iv_in f6 rfl) ?_
          have f13 : iv 0 16 (h 22 (a0.toNatClampNeg)) := ICv I 22 _
          refine sf_if (fun c14 => ?_) (fun c14 => ?_)
          · exact ⟨trivial, (iv_w (c := 0) (d := 1) (iv_lit (lo := 0) (hi := 0) (x := 0) rfl) rfl), fun z => absurd rfl z⟩
          · have f15 : iv 0 15 a1 := iv_ltl f12 f13 (nle c14) rfl
            have f16 : iv 1 16 (h 22 (a0.toNatClampNeg)) := iv_ltr f13 f12 (nle c14) rfl
            exact ⟨trivial, (iv_w (c := 0) (d := 1) (iv_lit (lo := 1) (hi := 1) (x := 1) rfl) rfl), fun _ => ⟨f6, f15⟩⟩
      · exact ⟨trivial, (iv_w (c := 0) (d := 1) (iv_lit (lo := 0) (hi := 0) (x := 0) rfl) rfl), fun z => absurd rfl z⟩

-- X3_readRow_s
set_option maxRecDepth 100000 in
set_option maxHeartbeats 4000000 in
theorem SX3_readRow_s {z : zT} (a0 : Int32) (a1 : Int32) (a2 : Int32) (h : ph_H) (I : IC z h) (f_a0 : iv 0 27 a0) (f_a1 : iv 0 27 a1) (f_a2 : iv 0 27 a2) : PX3_readRow_s a0 a1 a2 h ∧ QC z 0 4 (FX3_readRow_s a0 a1 a2 h) := by
  unfold PX3_readRow_s FX3_readRow_s
  refine sf_n (iv_in f_a1 rfl) ?_
  have f1 : iv 0 3 (h 16 (a1.toNatClampNeg)) := ICv I 16 _
  refine sf_if (fun c2 => ?_) (fun c2 => ?_)
  · have f3 : iv 1 1 (h 16 (a1.toNatClampNeg)) := iv_eql f1 (iv_lit (lo := 1) (hi := 1) (x := 1) rfl) c2 rfl
    have f4 : iv 0 11 (h 17 (a1.toNatClampNeg)) := KVn_s I f3 rfl
    refine sf_n (iv_in f_a2 rfl) ?_
    have f5 : iv 0 3 (h 16 (a2.toNatClampNeg)) := ICv I 16 _
    refine sf_if (fun c6 => ?_) (fun c6 => ?_)
    · have f7 : iv 0 0 (h 16 (a2.toNatClampNeg)) := iv_eql f5 (iv_lit (lo := 0) (hi := 0) (x := 0) rfl) c6 rfl
      refine sf_n (iv_in f_a1 rfl) ?_
      refine sf_n (iv_in f_a2 rfl) ?_
      have s8 := SX3_hasRowPlace_s (z := z) (h 17 (a1.toNatClampNeg)) (h 17 (a2.toNatClampNeg)) h I
      refine sf_n s8.1 ?_
      refine sf_if (fun c9 => ?_) (fun c9 => ?_)
      · have f10 : iv 0 0 (FX3_hasRowPlace_s (h 17 (a1.toNatClampNeg)) (h 17 (a2.toNatClampNeg)) h) := iv_eql s8.2.1 (iv_lit (lo := 0) (hi := 0) (x := 0) rfl) c9 rfl
        exact ⟨trivial, QC_mk (iv_w (c := 0) (d := 4) (iv_lit (lo := 4) (hi := 4) (x := 4) rfl) rfl) I⟩
      · have f11 : iv 0 15 (h 17 (a2.toNatClampNeg)) := iv_and (iv_any _) (s8.2.2 c9).2 rfl
        have f12 : iv 1 1 (FX3_hasRowPlace_s (h 17 (a1.toNatClampNeg)) (h 17 (a2.toNatClampNeg)) h) := iv_nel s8.2.1 c9 rfl
        have f13 : iv 0 220 ((h 17 (a1.toNatClampNeg)) * 20) := iv_mulr (c := 20) rfl f4 rfl
        have f14 : iv 100 320 (100 + ((h 17 (a1.toNatClampNeg)) * 20)) := iv_add (iv_lit (lo := 100) (hi := 100) (x := 100) rfl) f13 rfl
        have f15 : iv 100 335 ((100 + ((h 17 (a1.toNatClampNeg)) * 20)) + (h 17 (a2.toNatClampNeg))) := iv_add f14 f11 rfl
        have I16 : IC z (hs h 15 14 ((100 + ((h 17 (a1.toNatClampNeg)) * 20)) + (h 17 (a2.toNatClampNeg)))) := ICs I (k := 15) (i := 14) (v := ((100 + ((h 17 (a1.toNatClampNeg)) * 20)) + (h 17 (a2.toNatClampNeg)))) (iv_any ((100 + ((h 17 (a1.toNatClampNeg)) * 20)) + (h 17 (a2.toNatClampNeg)))) rfl
        have f17 : iv 0 176 ((h 17 (a1.toNatClampNeg)) * 16) := iv_mulr (c := 16) rfl f4 rfl
        have f18 : iv 0 191 (((h 17 (a1.toNatClampNeg)) * 16) + (h 17 (a2.toNatClampNeg))) := iv_add f17 f11 rfl
        refine sf_n (iv_in f18 rfl) ?_
        have s19 := SX3_hold_s (z := z) a0 0 (h 24 ((((h 17 (a1.toNatClampNeg)) * 16) + (h 17 (a2.toNatClampNeg))).toNatClampNeg)) (hs h 15 14 ((100 + ((h 17 (a1.toNatClampNeg)) * 20)) + (h 17 (a2.toNatClampNeg)))) I16 f_a0 (iv_w (c := 0) (d := 3) (iv_lit (lo := 0) (hi := 0) (x := 0) rfl) rfl) (Or.inl rfl)
        refine sf_n s19.1 ?_
        exact ⟨trivial, QC_mk (iv_w (c := 0) (d := 4) s19.2.1 rfl) s19.2.2⟩
    · have f20 : iv 1 3 (h 16 (a2.toNatClampNeg)) := iv_nel f5 c6 rfl
      have f21 : iv 0 11 (h 17 (a2.toNatClampNeg)) := KVn_s I f20 rfl
      exact ⟨trivial, QC_mk (iv_w (c := 0) (d := 4) (iv_lit (lo := 1) (hi := 1) (x := 1) rfl) rfl) I⟩
  · exact ⟨trivial, QC_mk (iv_w (c := 0) (d := 4) (iv_lit (lo := 1) (hi := 1) (x := 1) rfl) rfl) I⟩

-- X3_bothNumbers_s
set_option maxRecDepth 100000 in
set_option maxHeartbeats 4000000 in
theorem SX3_bothNumbers_s {z : zT} (a0 : Int32) (a1 : Int32) (h : ph_H) (I : IC z h) (f_a0 : iv 0 27 a0) (f_a1 : iv 0 27 a1) : PX3_bothNumbers_s a0 a1 h ∧ iv 0 1 (FX3_bothNumbers_s a0 a1 h) := by
  unfold PX3_bothNumbers_s FX3_bothNumbers_s
  refine sf_n (iv_in f_a0 rfl) ?_
  have f1 : iv 0 3 (h 16 (a0.toNatClampNeg)) := ICv I 16 _
  refine sf_if (fun c2 => ?_) (fun c2 => ?_)
  · have f3 : iv 0 0 (h 16 (a0.toNatClampNeg)) := iv_eql f1 (iv_lit (lo := 0) (hi := 0) (x := 0) rfl) c2 rfl
    refine sf_n (iv_in f_a1 rfl) ?_
    have f4 : iv 0 3 (h 16 (a1.toNatClampNeg)) := ICv I 16 _
    refine sf_if (fun c5 => ?_) (fun c5 => ?_)
    · have f6 : iv 0 0 (h 16 (a1.toNatClampNeg)) := iv_eql f4 (iv_lit (lo := 0) (hi := 0) (x := 0) rfl) c5 rfl
      exact ⟨trivial, (iv_w (c := 0) (d := 1) (iv_lit (lo := 1) (hi := 1) (x := 1) rfl) rfl)⟩
    · have f7 : iv 1 3 (h 16 (a1.toNatClampNeg)) := iv_nel f4 c5 rfl
      have f8 : iv 0 11 (h 17 (a1.toNatClampNeg)) := KVn_s I f7 rfl
      exact ⟨trivial, (iv_w (c := 0) (d := 1) (iv_lit (lo := 0) (hi := 0) (x := 0) rfl) rfl)⟩
  · have f9 : iv 1 3 (h 16 (a0.toNatClampNeg)) := iv_nel f1 c2 rfl
    have f10 : iv 0 11 (h 17 (a0.toNatClampNeg)) := KVn_s I f9 rfl
    exact ⟨trivial, (iv_w (c := 0) (d := 1) (iv_lit (lo := 0) (hi := 0) (x := 0) rfl) rfl)⟩

-- X3_reckon_s
set_option maxRecDepth 100000 in
set_option maxHeartbeats 4000000 in
theorem SX3_reckon_s {z : zT} (a0 : Int32) (a1 : Int32) (a2 : Int32) (h : ph_H) (I : IC z h) (f_a1 : iv 0 27 a1) (f_a2 : iv 0 27 a2) : PX3_reckon_s a0 a1 a2 h ∧ QC z 0 1 (FX3_reckon_s a0 a1 a2 h) := by
  unfold PX3_reckon_s FX3_reckon_s
  have s1 := SX3_bothNumbers_s (z := z) a1 a2 h I f_a1 f_a2
  refine sf_n s1.1 ?_
  refine sf_if (fun c2 => ?_) (fun c2 => ?_)
  · have f3 : iv 0 0 (FX3_bothNumbers_s a1 a2 h) := iv_eql s1.2 (iv_lit (lo := 0) (hi := 0) (x := 0) rfl) c2 rfl
    exact ⟨trivial, QC_mk (iv_w (c := 0) (d := 1) (iv_lit (lo := 1) (hi := 1) (x := 1) rfl) rfl) I⟩
  · have f4 : iv 1 1 (FX3_bothNumbers_s a1 a2 h) := iv_nel s1.2 c2 rfl
    refine sf_n (iv_in f_a1 rfl) ?_
    refine sf_n (iv_in f_a2 rfl) ?_
    refine sf_if (fun c5 => ?_) (fun c5 => ?_)
    · have f6 : iv 3 3 a0 := iv_eql (iv_any a0) (iv_lit (lo := 3) (hi := 3) (x := 3) rfl) c5 rfl
      unfold PX3_reckon_s_58 FX3_reckon_s_58
      have s7 := SX3_hold_s (z := z) a1 0 ((h 17 (a1.toNatClampNeg)) + (h 17 (a2.toNatClampNeg))) h I f_a1 (iv_w (c := 0) (d := 3) (iv_lit (lo := 0) (hi := 0) (x := 0) rfl) rfl) (Or.inl rfl)
      refine sf_n s7.1 ?_
      exact ⟨trivial, QC_mk (iv_w (c := 0) (d := 1) s7.2.1 rfl) s7.2.2⟩
    · refine sf_if (fun c8 => ?_) (fun c8 => ?_)
      · have f9 : iv 4 4 a0 := iv_eql (iv_any a0) (iv_lit (lo := 4) (hi := 4) (x := 4) rfl) c8 rfl
        unfold PX3_reckon_s_58 FX3_reckon_s_58
        have s10 := SX3_hold_s (z := z) a1 0 ((h 17 (a1.toNatClampNeg)) - (h 17 (a2.toNatClampNeg))) h I f_a1 (iv_w (c := 0) (d := 3) (iv_lit (lo := 0) (hi := 0) (x := 0) rfl) rfl) (Or.inl rfl)
        refine sf_n s10.1 ?_
        exact ⟨trivial, QC_mk (iv_w (c := 0) (d := 1) s10.2.1 rfl) s10.2.2⟩
      · unfold PX3_reckon_s_58 FX3_reckon_s_58
        have s11 := SX3_hold_s (z := z) a1 0 ((h 17 (a1.toNatClampNeg)) * (h 17 (a2.toNatClampNeg))) h I f_a1 (iv_w (c := 0) (d := 3) (iv_lit (lo := 0) (hi := 0) (x := 0) rfl) rfl) (Or.inl rfl)
        refine sf_n s11.1 ?_
        exact ⟨trivial, QC_mk (iv_w (c := 0) (d := 1) s11.2.1 rfl) s11.2.2⟩

-- X3_startThread_s
set_option maxRecDepth 100000 in
set_option maxHeartbeats 4000000 in
theorem SX3_startThread_s {z : zT} (a0 : Int32) (h : ph_H) (I : IC z h) (f_a0 : iv 0 3 a0) : PX3_startThread_s a0 h ∧ QC z 0 5 (FX3_startThread_s a0 h) := by
  unfold PX3_startThread_s FX3_startThread_s
  refine sf_n (iv_in f_a0 rfl) ?_
  refine sf_if (fun c1 => ?_) (fun c1 => ?_)
  · have f2 : iv 0 0 (h 19 (a0.toNatClampNeg)) := iv_eql (iv_any (h 19 (a0.toNatClampNeg))) (iv_lit (lo := 0) (hi := 0) (x := 0) rfl) c1 rfl
    refine sf_n (iv_in f_a0 rfl) ?_
    have I3 : IC z (hs h 19 a0.toNatClampNeg 1) := ICs I (k := 19) (i := a0.toNatClampNeg) (v := 1) (iv_any 1) rfl
    have I5 : IC z (hs (hs (hs h 19 a0.toNatClampNeg 1) 15 16 4) 15 17 a0) := ICmm I3 (iv_w (c := 0) (d := 4) (iv_lit (lo := 4) (hi := 4) (x := 4) rfl) rfl) (iv_w (c := 0) (d := 11) f_a0 rfl) (fun _ => f_a0)
    exact ⟨trivial, QC_mk (iv_w (c := 0) (d := 5) (iv_lit (lo := 0) (hi := 0) (x := 0) rfl) rfl) I5⟩
  · exact ⟨trivial, QC_mk (iv_w (c := 0) (d := 5) (iv_lit (lo := 5) (hi := 5) (x := 5) rfl) rfl) I⟩

-- X3_takeInput_s
set_option maxRecDepth 100000 in
set_option maxHeartbeats 4000000 in
theorem SX3_takeInput_s {z : zT} (a0 : Int32) (h : ph_H) (I : IC z h) (f_a0 : iv 0 27 a0) : PX3_takeInput_s a0 h ∧ QC z 0 7 (FX3_takeInput_s a0 h) := by
  unfold PX3_takeInput_s FX3_takeInput_s
  have f1 : iv 0 30 (h 15 12) := ICv I 15 _
  refine sf_if (fun c2 => ?_) (fun c2 => ?_)
  · have f3 : iv (-2147483648) 30 (h 15 11) := iv_lel (iv_any (h 15 11)) f1 c2 rfl
    exact ⟨trivial, QC_mk (iv_w (c := 0) (d := 7) (iv_lit (lo := 7) (hi := 7) (x := 7) rfl) rfl) I⟩
  · have f4 : iv 1 2147483647 (h 15 11) := iv_ltr (iv_any (h 15 11)) f1 (nle c2) rfl
    refine sf_if (fun c5 => ?_) (fun c5 => ?_)
    · have f6 : iv 0 29 (h 15 12) := iv_ltl f1 (iv_lit (lo := 30) (hi := 30) (x := 30) rfl) c5 rfl
      have f7 : iv 1 30 ((h 15 12) + 1) := iv_add f6 (iv_lit (lo := 1) (hi := 1) (x := 1) rfl) rfl
      have I8 : IC z (hs h 15 12 ((h 15 12) + 1)) := ICs I (k := 15) (i := 12) (v := ((h 15 12) + 1)) (iv_w (c := 0) (d := 30) f7 rfl) rfl
      have f9 : iv 0 29 (((h 15 12) + 1) - 1) := iv_sub f7 (iv_lit (lo := 1) (hi := 1) (x := 1) rfl) rfl
      refine sf_n (iv_in f9 rfl) ?_
      have s10 := SX3_hold_s (z := z) a0 0 (h 12 ((((h 15 12) + 1) - 1).toNatClampNeg)) (hs h 15 12 ((h 15 12) + 1)) I8 f_a0 (iv_w (c := 0) (d := 3) (iv_lit (lo := 0) (hi := 0) (x := 0) rfl) rfl) (Or.inl rfl)
      refine sf_n s10.1 ?_
      exact ⟨trivial, QC_mk (iv_w (c := 0) (d := 7) s10.2.1 rfl) s10.2.2⟩
    · have f11 : iv 30 30 (h 15 12) := iv_ler f1 (iv_lit (lo := 30) (hi := 30) (x := 30) rfl) (nlt c5) rfl
      exact ⟨trivial, QC_mk (iv_w (c := 0) (d := 7) (iv_lit (lo := 7) (hi := 7) (x := 7) rfl) rfl) I⟩

-- X3_own_s
set_option maxRecDepth 100000 in
set_option maxHeartbeats 4000000 in
theorem SX3_own_s {z : zT} (a0 : Int32) (a1 : Int32) (h : ph_H) (I : IC z h) (f_a1 : iv 0 11 a1) : PX3_own_s a0 a1 h ∧ QC z 0 0 (FX3_own_s a0 a1 h) := by
  unfold PX3_own_s FX3_own_s
  refine sf_n (iv_in f_a1 rfl) ?_
  have I1 : IC z (hs h 23 a1.toNatClampNeg a0) := ICs I (k := 23) (i := a1.toNatClampNeg) (v := a0) (iv_any a0) rfl
  have I2 : IC z (hs (hs h 23 a1.toNatClampNeg a0) 15 16 1) := ICm1 I1 (iv_w (c := 0) (d := 4) (iv_lit (lo := 1) (hi := 1) (x := 1) rfl) rfl) (by decide)
  have I3 : IC z (hs (hs (hs h 23 a1.toNatClampNeg a0) 15 16 1) 15 17 a1) := ICmm I1 (iv_w (c := 0) (d := 4) (iv_lit (lo := 1) (hi := 1) (x := 1) rfl) rfl) f_a1 (fun e => absurd e (by decide))
  exact ⟨trivial, QC_mk (iv_lit (lo := 0) (hi := 0) (x := 0) rfl) I3⟩

-- X3_takeLock_s
set_option maxRecDepth 100000 in
set_option maxHeartbeats 4000000 in
theorem SX3_takeLock_s {z : zT} (a0 : Int32) (a1 : Int32) (h : ph_H) (I : IC z h) (f_a0 : iv 0 3 a0) (f_a1 : iv 0 27 a1) : PX3_takeLock_s a0 a1 h ∧ QC z 0 5 (FX3_takeLock_s a0 a1 h) := by
  unfold PX3_takeLock_s FX3_takeLock_s
  have s1 := SX3_lockIn_s (z := z) a1 h I f_a1
  refine sf_n s1.1 ?_
  refine sf_if (fun c2 => ?_) (fun c2 => ?_)
  · have f3 : iv 0 11 (FX3_lockIn_s a1 h) := iv_ler s1.2 (iv_lit (lo := 0) (hi := 0) (x := 0) rfl) c2 rfl
    refine sf_n (iv_in f3 rfl) ?_
    refine sf_if (fun c4 => ?_) (fun c4 => ?_)
    · have f5 : iv 0 3 (h 23 ((FX3_lockIn_s a1 h).toNatClampNeg)) := iv_eql (iv_any (h 23 ((FX3_lockIn_s a1 h).toNatClampNeg))) f_a0 c4 rfl
      exact ⟨trivial, QC_mk (iv_w (c := 0) (d := 5) (iv_lit (lo := 5) (hi := 5) (x := 5) rfl) rfl) I⟩
    · have s6 := SX3_own_s (z := z) a0 (FX3_lockIn_s a1 h) h I f3
      refine sf_n s6.1 ?_
      exact ⟨trivial, QC_mk (iv_w (c := 0) (d := 5) s6.2.1 rfl) s6.2.2⟩
  · have f7 : iv (-1) (-1) (FX3_lockIn_s a1 h) := iv_ltl s1.2 (iv_lit (lo := 0) (hi := 0) (x := 0) rfl) (nle c2) rfl
    exact ⟨trivial, QC_mk (iv_w (c := 0) (d := 5) (iv_lit (lo := 1) (hi := 1) (x := 1) rfl) rfl) I⟩

-- X3_wakeSleepers_s
set_option maxRecDepth 100000 in
set_option maxHeartbeats 4000000 in
theorem SX3_wakeSleepers_s_28 {z : zT} : ∀ (q : Nat) (x3 : Int32) (x4 : Int32) (h : ph_H), IC z h → iv 0 11 x3 → iv 0 4 x4 → 4 - (x4).toInt < ((q : Nat) : Int) → PX3_wakeSleepers_s_28  q x3 x4 h ∧ QC z 0 6 (FX3_wakeSleepers_s_28  q x3 x4 h) := by
  intro q
  induction q with
  | zero =>
    intro x3 x4 h I f_x3 f_x4 mq
    exact mu_zu f_x4 mq rfl
  | succ q ih =>
    intro x3 x4 h I f_x3 f_x4 mq
    unfold PX3_wakeSleepers_s_28 FX3_wakeSleepers_s_28
    refine sf_if (fun c1 => ?_) (fun c1 => ?_)
    · have f2 : iv 4 4 x4 := iv_ler f_x4 (iv_lit (lo := 4) (hi := 4) (x := 4) rfl) c1 rfl
      have I3 : IC z (hs h 15 16 3) := ICm1 I (iv_w (c := 0) (d := 4) (iv_lit (lo := 3) (hi := 3) (x := 3) rfl) rfl) (by decide)
      exact ⟨trivial, QC_mk (iv_w (c := 0) (d := 6) (iv_lit (lo := 0) (hi := 0) (x := 0) rfl) rfl) I3⟩
    · have f4 : iv 0 3 x4 := iv_ltl f_x4 (iv_lit (lo := 4) (hi := 4) (x := 4) rfl) (nle c1) rfl
      refine sf_n (iv_in f4 rfl) ?_
      refine sf_if (fun c5 => ?_) (fun c5 => ?_)
      · have f6 : iv 2 2 (h 19 (x4.toNatClampNeg)) := iv_eql (iv_any (h 19 (x4.toNatClampNeg))) (iv_lit (lo := 2) (hi := 2) (x := 2) rfl) c5 rfl
        refine sf_n (iv_in f4 rfl) ?_
        have f7 : iv 0 11 (h 20 (x4.toNatClampNeg)) := ICv I 20 _
        refine sf_if (fun c8 => ?_) (fun c8 => ?_)
        · refine sf_n (iv_in f4 rfl) ?_
          have I9 : IC z (hs h 19 x4.toNatClampNeg 3) := ICs I (k := 19) (i := x4.toNatClampNeg) (v := 3) (iv_any 3) rfl
          unfold PX3_wakeSleepers_s_64 FX3_wakeSleepers_s_64
          have f10 : iv 1 4 (x4 + 1) := iv_add f4 (iv_lit (lo := 1) (hi := 1) (x := 1) rfl) rfl
          exact ih x3 (x4 + 1) (hs h 19 x4.toNatClampNeg 3) I9 f_x3 (iv_w (c := 0) (d := 4) f10 rfl) (mu_up f4 mq rfl)
        · unfold PX3_wakeSleepers_s_64 FX3_wakeSleepers_s_64
          have f11 : iv 1 4 (x4 + 1) := iv_add f4 (iv_lit (lo := 1) (hi := 1) (x := 1) rfl) rfl
          exact ih x3 (x4 + 1) h I f_x3 (iv_w (c := 0) (d := 4) f11 rfl) (mu_up f4 mq rfl)
      · unfold PX3_wakeSleepers_s_64 FX3_wakeSleepers_s_64
        have f12 : iv 1 4 (x4 + 1) := iv_add f4 (iv_lit (lo := 1) (hi := 1) (x := 1) rfl) rfl
        exact ih x3 (x4 + 1) h I f_x3 (iv_w (c := 0) (d := 4) f12 rfl) (mu_up f4 mq rfl)
set_option maxRecDepth 100000 in
set_option maxHeartbeats 4000000 in
theorem SX3_wakeSleepers_s {z : zT} (a0 : Int32) (a1 : Int32) (h : ph_H) (I : IC z h) (f_a1 : iv 0 27 a1) : PX3_wakeSleepers_s a0 a1 h ∧ QC z 0 6 (FX3_wakeSleepers_s a0 a1 h) := by
  unfold PX3_wakeSleepers_s FX3_wakeSleepers_s
  have s1 := SX3_gateIn_s (z := z) a1 h I f_a1
  refine sf_n s1.1 ?_
  refine sf_if (fun c2 => ?_) (fun c2 => ?_)
  · have f3 : iv 0 11 (FX3_gateIn_s a1 h) := iv_ler s1.2 (iv_lit (lo := 0) (hi := 0) (x := 0) rfl) c2 rfl
    refine sf_n (iv_in f3 rfl) ?_
    refine sf_if (fun c4 => ?_) (fun c4 => ?_)
    · exact SX3_wakeSleepers_s_28 2000 (FX3_gateIn_s a1 h) 0 h I f3 (iv_w (c := 0) (d := 4) (iv_lit (lo := 0) (hi := 0) (x := 0) rfl) rfl) (mu_0u (iv_lit (lo := 0) (hi := 0) (x := 0) rfl) rfl)
    · exact ⟨trivial, QC_mk (iv_w (c := 0) (d := 6) (iv_lit (lo := 6) (hi := 6) (x := 6) rfl) rfl) I⟩
  · have f5 : iv (-1) (-1) (FX3_gateIn_s a1 h) := iv_ltl s1.2 (iv_lit (lo := 0) (hi := 0) (x := 0) rfl) (nle c2) rfl
    exact ⟨trivial, QC_mk (iv_w (c := 0) (d := 6) (iv_lit (lo := 1) (hi := 1) (x := 1) rfl) rfl) I⟩

-- X3_writeRow_s
set_option maxRecDepth 100000 in
set_option maxHeartbeats 4000000 in
theorem SX3_writeRow_s {z : zT} (a0 : Int32) (a1 : Int32) (a2 : Int32) (h : ph_H) (I : IC z h) (f_a0 : iv 0 27 a0) (f_a1 : iv 0 27 a1) (f_a2 : iv 0 27 a2) : PX3_writeRow_s a0 a1 a2 h ∧ QC z 0 4 (FX3_writeRow_s a0 a1 a2 h) := by
  unfold PX3_writeRow_s FX3_writeRow_s
  refine sf_n (iv_in f_a0 rfl) ?_
  have f1 : iv 0 3 (h 16 (a0.toNatClampNeg)) := ICv I 16 _
  refine sf_if (fun c2 => ?_) (fun c2 => ?_)
  · have f3 : iv 1 1 (h 16 (a0.toNatClampNeg)) := iv_eql f1 (iv_lit (lo := 1) (hi := 1) (x := 1) rfl) c2 rfl
    have f4 : iv 0 11 (h 17 (a0.toNatClampNeg)) := KVn_s I f3 rfl
    have s5 := SX3_bothNumbers_s (z := z) a1 a2 h I f_a1 f_a2
    refine sf_n s5.1 ?_
    refine sf_if (fun c6 => ?_) (fun c6 => ?_)
    · have f7 : iv 0 0 (FX3_bothNumbers_s a1 a2 h) := iv_eql s5.2 (iv_lit (lo := 0) (hi := 0) (x := 0) rfl) c6 rfl
      exact ⟨trivial, QC_mk (iv_w (c := 0) (d := 4) (iv_lit (lo := 1) (hi := 1) (x := 1) rfl) rfl) I⟩
    · have f8 : iv 1 1 (FX3_bothNumbers_s a1 a2 h) := iv_nel s5.2 c6 rfl
      refine sf_n (iv_in f_a0 rfl) ?_
      refine sf_n (iv_in f_a1 rfl) ?_
      have s9 := SX3_hasRowPlace_s (z := z) (h 17 (a0.toNatClampNeg)) (h 17 (a1.toNatClampNeg)) h I
      refine sf_n s9.1 ?_
      refine sf_if (fun c10 => ?_) (fun c10 => ?_)
      · have f11 : iv 0 0 (FX3_hasRowPlace_s (h 17 (a0.toNatClampNeg)) (h 17 (a1.toNatClampNeg)) h) := iv_eql s9.2.1 (iv_lit (lo := 0) (hi := 0) (x := 0) rfl) c10 rfl
        exact ⟨trivial, QC_mk (iv_w (c := 0) (d := 4) (iv_lit (lo := 4) (hi := 4) (x := 4) rfl) rfl) I⟩
      · have f12 : iv 0 15 (h 17 (a1.toNatClampNeg)) := iv_and (iv_any _) (s9.2.2 c10).2 rfl
        have f13 : iv 1 1 (FX3_hasRowPlace_s (h 17 (a0.toNatClampNeg)) (h 17 (a1.toNatClampNeg)) h) := iv_nel s9.2.1 c10 rfl
        have f14 : iv 0 220 ((h 17 (a0.toNatClampNeg)) * 20) := iv_mulr (c := 20) rfl f4 rfl
        have f15 : iv 100 320 (100 + ((h 17 (a0.toNatClampNeg)) * 20)) := iv_add (iv_lit (lo := 100) (hi := 100) (x := 100) rfl) f14 rfl
        have f16 : iv 100 335 ((100 + ((h 17 (a0.toNatClampNeg)) * 20)) + (h 17 (a1.toNatClampNeg))) := iv_add f15 f12 rfl
        have I17 : IC z (hs h 15 15 ((100 + ((h 17 (a0.toNatClampNeg)) * 20)) + (h 17 (a1.toNatClampNeg)))) := ICs I (k := 15) (i := 15) (v := ((100 + ((h 17 (a0.toNatClampNeg)) * 20)) + (h 17 (a1.toNatClampNeg)))) (iv_any ((100 + ((h 17 (a0.toNatClampNeg)) * 20)) + (h 17 (a1.toNatClampNeg)))) rfl
        have f18 : iv 0 176 ((h 17 (a0.toNatClampNeg)) * 16) := iv_mulr (c := 16) rfl f4 rfl
        have f19 : iv 0 191 (((h 17 (a0.toNatClampNeg)) * 16) + (h 17 (a1.toNatClampNeg))) := iv_add f18 f12 rfl
        refine sf_n (iv_in f_a2 rfl) ?_
        refine sf_n (iv_in f19 rfl) ?_
        have I20 : IC z (hs (hs h 15 15 ((100 + ((h 17 (a0.toNatClampNeg)) * 20)) + (h 17 (a1.toNatClampNeg)))) 24 (((h 17 (a0.toNatClampNeg)) * 16) + (h 17 (a1.toNatClampNeg))).toNatClampNeg (h 17 (a2.toNatClampNeg))) := ICs I17 (k := 24) (i := (((h 17 (a0.toNatClampNeg)) * 16) + (h 17 (a1.toNatClampNeg))).toNatClampNeg) (v := (h 17 (a2.toNatClampNeg))) (iv_any (h 17 (a2.toNatClampNeg))) rfl
        exact ⟨trivial, QC_mk (iv_w (c := 0) (d := 4) (iv_lit (lo := 0) (hi := 0) (x := 0) rfl) rfl) I20⟩
  · exact ⟨trivial, QC_mk (iv_w (c := 0) (d := 4) (iv_lit (lo := 1) (hi := 1) (x := 1) rfl) rfl) I⟩

-- X3_perform_s
set_option maxRecDepth 100000 in
set_option maxHeartbeats 4000000 in
theorem SX3_perform_s {z : zT} (a0 : Int32) (h : ph_H) (I : IC z h) (f_a0 : iv 0 3 a0) (e_0 : iv 0 23 (h 18 (a0.toNatClampNeg))) : PX3_perform_s a0 h ∧ QC z 0 19 (FX3_perform_s a0 h) := by
  unfold PX3_perform_s FX3_perform_s
  refine sf_n (iv_in f_a0 rfl) ?_
  have s1 := SX5_firstPart_t (z := z) a0 (h 18 (a0.toNatClampNeg)) h I f_a0 e_0
  refine sf_n s1.1 ?_
  have f2 : iv 1 381 ((FX5_firstPart_t a0 (h 18 (a0.toNatClampNeg)) h) + 1) := iv_add s1.2 (iv_lit (lo := 1) (hi := 1) (x := 1) rfl) rfl
  refine sf_n (iv_in f2 rfl) ?_
  have f3 : iv 2 382 ((FX5_firstPart_t a0 (h 18 (a0.toNatClampNeg)) h) + 2) := iv_add s1.2 (iv_lit (lo := 2) (hi := 2) (x := 2) rfl) rfl
  refine sf_n (iv_in f3 rfl) ?_
  have s4 := SX3_slotOf a0 (h 10 (((FX5_firstPart_t a0 (h 18 (a0.toNatClampNeg)) h) + 1).toNatClampNeg)) f_a0
  refine sf_n s4.1 ?_
  have s5 := SX3_slotOf a0 (h 10 (((FX5_firstPart_t a0 (h 18 (a0.toNatClampNeg)) h) + 2).toNatClampNeg)) f_a0
  refine sf_n s5.1 ?_
  have f6 : iv 3 383 ((FX5_firstPart_t a0 (h 18 (a0.toNatClampNeg)) h) + 3) := iv_add s1.2 (iv_lit (lo := 3) (hi := 3) (x := 3) rfl) rfl
  refine sf_n (iv_in f6 rfl) ?_
  have s7 := SX3_slotOf a0 (h 10 (((FX5_firstPart_t a0 (h 18 (a0.toNatClampNeg)) h) + 3).toNatClampNeg)) f_a0
  refine sf_n s7.1 ?_
  refine sf_n (iv_in s1.2 rfl) ?_
  refine sf_if (fun c8 => ?_) (fun c8 => ?_)
  · have f9 : iv 0 0 (h 10 ((FX5_firstPart_t a0 (h 18 (a0.toNatClampNeg)) h).toNatClampNeg)) := iv_eql (iv_any (h 10 ((FX5_firstPart_t a0 (h 18 (a0.toNatClampNeg)) h).toNatClampNeg))) (iv_lit (lo := 0) (hi := 0) (x := 0) rfl) c8 rfl
    have s10 := SX3_hold_s (z := z) (FX3_slotOf a0 (h 10 (((FX5_firstPart_t a0 (h 18 (a0.toNatClampNeg)) h) + 1).toNatClampNeg))) 0 (h 10 (((FX5_firstPart_t a0 (h 18 (a0.toNatClampNeg)) h) + 2).toNatClampNeg)) h I (iv_w (c := 0) (d := 27) s4.2 rfl) (iv_w (c := 0) (d := 3) (iv_lit (lo := 0) (hi := 0) (x := 0) rfl) rfl) (Or.inl rfl)
    refine sf_n s10.1 ?_
    exact ⟨trivial, QC_mk (iv_w (c := 0) (d := 19) s10.2.1 rfl) s10.2.2⟩
  refine sf_if (fun c11 => ?_) (fun c11 => ?_)
  · have f12 : iv 1 1 (h 10 ((FX5_firstPart_t a0 (h 18 (a0.toNatClampNeg)) h).toNatClampNeg)) := iv_eql (iv_any (h 10 ((FX5_firstPart_t a0 (h 18 (a0.toNatClampNeg)) h).toNatClampNeg))) (iv_lit (lo := 1) (hi := 1) (x := 1) rfl) c11 rfl
    refine sf_n (fmod_p (m := 12) (by decide) (by decide)) ?_
    have f13 : iv 0 11 (FJ9_floorMod_7cf53 (h 10 (((FX5_firstPart_t a0 (h 18 (a0.toNatClampNeg)) h) + 2).toNatClampNeg)) 12) := fmod_iv (m := 12) rfl
    have s14 := SX3_getCell_s (z := z) (FX3_slotOf a0 (h 10 (((FX5_firstPart_t a0 (h 18 (a0.toNatClampNeg)) h) + 1).toNatClampNeg))) (FJ9_floorMod_7cf53 (h 10 (((FX5_firstPart_t a0 (h 18 (a0.toNatClampNeg)) h) + 2).toNatClampNeg)) 12) h I (iv_w (c := 0) (d := 27) s4.2 rfl) f13
    refine sf_n s14.1 ?_
    exact ⟨trivial, QC_mk (iv_w (c := 0) (d := 19) s14.2.1 rfl) s14.2.2⟩
  refine sf_if (fun c15 => ?_) (fun c15 => ?_)
  · have f16 : iv 2 2 (h 10 ((FX5_firstPart_t a0 (h 18 (a0.toNatClampNeg)) h).toNatClampNeg)) := iv_eql (iv_any (h 10 ((FX5_firstPart_t a0 (h 18 (a0.toNatClampNeg)) h).toNatClampNeg))) (iv_lit (lo := 2) (hi := 2) (x := 2) rfl) c15 rfl
    refine sf_n (fmod_p (m := 12) (by decide) (by decide)) ?_
    have f17 : iv 0 11 (FJ9_floorMod_7cf53 (h 10 (((FX5_firstPart_t a0 (h 18 (a0.toNatClampNeg)) h) + 1).toNatClampNeg)) 12) := fmod_iv (m := 12) rfl
    have s18 := SX3_putCell_s (z := z) (FJ9_floorMod_7cf53 (h 10 (((FX5_firstPart_t a0 (h 18 (a0.toNatClampNeg)) h) + 1).toNatClampNeg)) 12) (FX3_slotOf a0 (h 10 (((FX5_firstPart_t a0 (h 18 (a0.toNatClampNeg)) h) + 2).toNatClampNeg))) h I f17 (iv_w (c := 0) (d := 27) s5.2 rfl)
    refine sf_n s18.1 ?_
    exact ⟨trivial, QC_mk (iv_w (c := 0) (d := 19) s18.2.1 rfl) s18.2.2⟩
  refine sf_if (fun c19 => ?_) (fun c19 => ?_)
  · have f20 : iv 3 3 (h 10 ((FX5_firstPart_t a0 (h 18 (a0.toNatClampNeg)) h).toNatClampNeg)) := iv_eql (iv_any (h 10 ((FX5_firstPart_t a0 (h 18 (a0.toNatClampNeg)) h).toNatClampNeg))) (iv_lit (lo := 3) (hi := 3) (x := 3) rfl) c19 rfl
    refine sf_n (iv_in s1.2 rfl) ?_
    have s21 := SX3_reckon_s (z := z) (h 10 ((FX5_firstPart_t a0 (h 18 (a0.toNatClampNeg)) h).toNatClampNeg)) (FX3_slotOf a0 (h 10 (((FX5_firstPart_t a0 (h 18 (a0.toNatClampNeg)) h) + 1).toNatClampNeg))) (FX3_slotOf a0 (h 10 (((FX5_firstPart_t a0 (h 18 (a0.toNatClampNeg)) h) + 2).toNatClampNeg))) h I (iv_w (c := 0) (d := 27) s4.2 rfl) (iv_w (c := 0) (d := 27) s5.2 rfl)
    refine sf_n s21.1 ?_
    exact ⟨trivial, QC_mk (iv_w (c := 0) (d := 19) s21.2.1 rfl) s21.2.2⟩
  refine sf_if (fun c22 => ?_) (fun c22 => ?_)
  · have f23 : iv 4 4 (h 10 ((FX5_firstPart_t a0 (h 18 (a0.toNatClampNeg)) h).toNatClampNeg)) := iv_eql (iv_any (h 10 ((FX5_firstPart_t a0 (h 18 (a0.toNatClampNeg)) h).toNatClampNeg))) (iv_lit (lo := 4) (hi := 4) (x := 4) rfl) c22 rfl
    refine sf_n (iv_in s1.2 rfl) ?_
    have s24 := SX3_reckon_s (z := z) (h 10 ((FX5_firstPart_t a0 (h 18 (a0.toNatClampNeg)) h).toNatClampNeg)) (FX3_slotOf a0 (h 10 (((FX5_firstPart_t a0 (h 18 (a0.toNatClampNeg)) h) + 1).toNatClampNeg))) (FX3_slotOf a0 (h 10 (((FX5_firstPart_t a0 (h 18 (a0.toNatClampNeg)) h) + 2).toNatClampNeg))) h I (iv_w (c := 0) (d := 27) s4.2 rfl) (iv_w (c := 0) (d := 27) s5.2 rfl)
    refine sf_n s24.1 ?_
    exact ⟨trivial, QC_mk (iv_w (c := 0) (d := 19) s24.2.1 rfl) s24.2.2⟩
  refine sf_if (fun c25 => ?_) (fun c25 => ?_)
  · have f26 : iv 5 5 (h 10 ((FX5_firstPart_t a0 (h 18 (a0.toNatClampNeg)) h).toNatClampNeg)) := iv_eql (iv_any (h 10 ((FX5_firstPart_t a0 (h 18 (a0.toNatClampNeg)) h).toNatClampNeg))) (iv_lit (lo := 5) (hi := 5) (x := 5) rfl) c25 rfl
    refine sf_n (iv_in s1.2 rfl) ?_
    have s27 := SX3_reckon_s (z := z) (h 10 ((FX5_firstPart_t a0 (h 18 (a0.toNatClampNeg)) h).toNatClampNeg)) (FX3_slotOf a0 (h 10 (((FX5_firstPart_t a0 (h 18 (a0.toNatClampNeg)) h) + 1).toNatClampNeg))) (FX3_slotOf a0 (h 10 (((FX5_firstPart_t a0 (h 18 (a0.toNatClampNeg)) h) + 2).toNatClampNeg))) h I (iv_w (c := 0) (d := 27) s4.2 rfl) (iv_w (c := 0) (d := 27) s5.2 rfl)
    refine sf_n s27.1 ?_
    exact ⟨trivial, QC_mk (iv_w (c := 0) (d := 19) s27.2.1 rfl) s27.2.2⟩
  refine sf_if (fun c28 => ?_) (fun c28 => ?_)
  · have f29 : iv 6 6 (h 10 ((FX5_firstPart_t a0 (h 18 (a0.toNatClampNeg)) h).toNatClampNeg)) := iv_eql (iv_any (h 10 ((FX5_firstPart_t a0 (h 18 (a0.toNatClampNeg)) h).toNatClampNeg))) (iv_lit (lo := 6) (hi := 6) (x := 6) rfl) c28 rfl
    have s30 := SX3_goTo_s (z := z) (h 10 (((FX5_firstPart_t a0 (h 18 (a0.toNatClampNeg)) h) + 1).toNatClampNeg)) h I
    refine sf_n s30.1 ?_
    exact ⟨trivial, QC_mk (iv_w (c := 0) (d := 19) s30.2.1 rfl) s30.2.2⟩
  refine sf_if (fun c31 => ?_) (fun c31 => ?_)
  · have f32 : iv 7 7 (h 10 ((FX5_firstPart_t a0 (h 18 (a0.toNatClampNeg)) h).toNatClampNeg)) := iv_eql (iv_any (h 10 ((FX5_firstPart_t a0 (h 18 (a0.toNatClampNeg)) h).toNatClampNeg))) (iv_lit (lo := 7) (hi := 7) (x := 7) rfl) c31 rfl
    have s33 := SX3_goUnless_s (z := z) (FX3_slotOf a0 (h 10 (((FX5_firstPart_t a0 (h 18 (a0.toNatClampNeg)) h) + 1).toNatClampNeg))) (h 10 (((FX5_firstPart_t a0 (h 18 (a0.toNatClampNeg)) h) + 2).toNatClampNeg)) h I (iv_w (c := 0) (d := 27) s4.2 rfl)
    refine sf_n s33.1 ?_
    exact ⟨trivial, QC_mk (iv_w (c := 0) (d := 19) s33.2.1 rfl) s33.2.2⟩
  refine sf_if (fun c34 => ?_) (fun c34 => ?_)
  · have f35 : iv 8 8 (h 10 ((FX5_firstPart_t a0 (h 18 (a0.toNatClampNeg)) h).toNatClampNeg)) := iv_eql (iv_any (h 10 ((FX5_firstPart_t a0 (h 18 (a0.toNatClampNeg)) h).toNatClampNeg))) (iv_lit (lo := 8) (hi := 8) (x := 8) rfl) c34 rfl
    have s36 := SX3_makeRow_s (z := z) (FX3_slotOf a0 (h 10 (((FX5_firstPart_t a0 (h 18 (a0.toNatClampNeg)) h) + 1).toNatClampNeg))) (FX3_slotOf a0 (h 10 (((FX5_firstPart_t a0 (h 18 (a0.toNatClampNeg)) h) + 2).toNatClampNeg))) h I (iv_w (c := 0) (d := 27) s4.2 rfl) (iv_w (c := 0) (d := 27) s5.2 rfl)
    refine sf_n s36.1 ?_
    exact ⟨trivial, QC_mk (iv_w (c := 0) (d := 19) s36.2.1 rfl) s36.2.2⟩
  refine sf_if (fun c37 => ?_) (fun c37 => ?_)
  · have f38 : iv 9 9 (h 10 ((FX5_firstPart_t a0 (h 18 (a0.toNatClampNeg)) h).toNatClampNeg)) := iv_eql (iv_any (h 10 ((FX5_firstPart_t a0 (h 18 (a0.toNatClampNeg)) h).toNatClampNeg))) (iv_lit (lo := 9) (hi := 9) (x := 9) rfl) c37 rfl
    have s39 := SX3_readRow_s (z := z) (FX3_slotOf a0 (h 10 (((FX5_firstPart_t a0 (h 18 (a0.toNatClampNeg)) h) + 1).toNatClampNeg))) (FX3_slotOf a0 (h 10 (((FX5_firstPart_t a0 (h 18 (a0.toNatClampNeg)) h) + 2).toNatClampNeg))) (FX3_slotOf a0 (h 10 (((FX5_firstPart_t a0 (h 18 (a0.toNatClampNeg)) h) + 3).toNatClampNeg))) h I (iv_w (c := 0) (d := 27) s4.2 rfl) (iv_w (c := 0) (d := 27) s5.2 rfl) (iv_w (c := 0) (d := 27) s7.2 rfl)
    refine sf_n s39.1 ?_
    exact ⟨trivial, QC_mk (iv_w (c := 0) (d := 19) s39.2.1 rfl) s39.2.2⟩
  refine sf_if (fun c40 => ?_) (fun c40 => ?_)
  · have f41 : iv 10 10 (h 10 ((FX5_firstPart_t a0 (h 18 (a0.toNatClampNeg)) h).toNatClampNeg)) := iv_eql (iv_any (h 10 ((FX5_firstPart_t a0 (h 18 (a0.toNatClampNeg)) h).toNatClampNeg))) (iv_lit (lo := 10) (hi := 10) (x := 10) rfl) c40 rfl
    have s42 := SX3_writeRow_s (z := z) (FX3_slotOf a0 (h 10 (((FX5_firstPart_t a0 (h 18 (a0.toNatClampNeg)) h) + 1).toNatClampNeg))) (FX3_slotOf a0 (h 10 (((FX5_firstPart_t a0 (h 18 (a0.toNatClampNeg)) h) + 2).toNatClampNeg))) (FX3_slotOf a0 (h 10 (((FX5_firstPart_t a0 (h 18 (a0.toNatClampNeg)) h) + 3).toNatClampNeg))) h I (iv_w (c := 0) (d := 27) s4.2 rfl) (iv_w (c := 0) (d := 27) s5.2 rfl) (iv_w (c := 0) (d := 27) s7.2 rfl)
    refine sf_n s42.1 ?_
    exact ⟨trivial, QC_mk (iv_w (c := 0) (d := 19) s42.2.1 rfl) s42.2.2⟩
  refine sf_if (fun c43 => ?_) (fun c43 => ?_)
  · have f44 : iv 11 11 (h 10 ((FX5_firstPart_t a0 (h 18 (a0.toNatClampNeg)) h).toNatClampNeg)) := iv_eql (iv_any (h 10 ((FX5_firstPart_t a0 (h 18 (a0.toNatClampNeg)) h).toNatClampNeg))) (iv_lit (lo := 11) (hi := 11) (x := 11) rfl) c43 rfl
    refine sf_if (fun c45 => ?_) (fun c45 => ?_)
    · have f46 : iv 0 0 ((h 10 (((FX5_firstPart_t a0 (h 18 (a0.toNatClampNeg)) h) + 2).toNatClampNeg)) &&& 1) := iv_eql (iv_any ((h 10 (((FX5_firstPart_t a0 (h 18 (a0.toNatClampNeg)) h) + 2).toNatClampNeg)) &&& 1)) (iv_lit (lo := 0) (hi := 0) (x := 0) rfl) c45 rfl
      unfold PX3_perform_s_288 FX3_perform_s_288
      have s47 := SX3_makeLock_s (z := z) (FX3_slotOf a0 (h 10 (((FX5_firstPart_t a0 (h 18 (a0.toNatClampNeg)) h) + 1).toNatClampNeg))) 0 h I (iv_w (c := 0) (d := 27) s4.2 rfl) (iv_w (c := 0) (d := 1) (iv_lit (lo := 0) (hi := 0) (x := 0) rfl) rfl)
      refine sf_n s47.1 ?_
      exact ⟨trivial, QC_mk (iv_w (c := 0) (d := 19) s47.2.1 rfl) s47.2.2⟩
    · unfold PX3_perform_s_288 FX3_perform_s_288
      have s48 := SX3_makeLock_s (z := z) (FX3_slotOf a0 (h 10 (((FX5_firstPart_t a0 (h 18 (a0.toNatClampNeg)) h) + 1).toNatClampNeg))) 1 h I (iv_w (c := 0) (d := 27) s4.2 rfl) (iv_w (c := 0) (d := 1) (iv_lit (lo := 1) (hi := 1) (x := 1) rfl) rfl)
      refine sf_n s48.1 ?_
      exact ⟨trivial, QC_mk (iv_w (c := 0) (d := 19) s48.2.1 rfl) s48.2.2⟩
  refine sf_if (fun c49 => ?_) (fun c49 => ?_)
  · have f50 : iv 12 12 (h 10 ((FX5_firstPart_t a0 (h 18 (a0.toNatClampNeg)) h).toNatClampNeg)) := iv_eql (iv_any (h 10 ((FX5_firstPart_t a0 (h 18 (a0.toNatClampNeg)) h).toNatClampNeg))) (iv_lit (lo := 12) (hi := 12) (x := 12) rfl) c49 rfl
    have s51 := SX3_takeLock_s (z := z) a0 (FX3_slotOf a0 (h 10 (((FX5_firstPart_t a0 (h 18 (a0.toNatClampNeg)) h) + 1).toNatClampNeg))) h I f_a0 (iv_w (c := 0) (d := 27) s4.2 rfl)
    refine sf_n s51.1 ?_
    exact ⟨trivial, QC_mk (iv_w (c := 0) (d := 19) s51.2.1 rfl) s51.2.2⟩
  refine sf_if (fun c52 => ?_) (fun c52 => ?_)
  · have f53 : iv 13 13 (h 10 ((FX5_firstPart_t a0 (h 18 (a0.toNatClampNeg)) h).toNatClampNeg)) := iv_eql (iv_any (h 10 ((FX5_firstPart_t a0 (h 18 (a0.toNatClampNeg)) h).toNatClampNeg))) (iv_lit (lo := 13) (hi := 13) (x := 13) rfl) c52 rfl
    have s54 := SX3_leaveLock_s (z := z) a0 (FX3_slotOf a0 (h 10 (((FX5_firstPart_t a0 (h 18 (a0.toNatClampNeg)) h) + 1).toNatClampNeg))) h I (iv_w (c := 0) (d := 27) s4.2 rfl)
    refine sf_n s54.1 ?_
    exact ⟨trivial, QC_mk (iv_w (c := 0) (d := 19) s54.2.1 rfl) s54.2.2⟩
  refine sf_if (fun c55 => ?_) (fun c55 => ?_)
  · have f56 : iv 14 14 (h 10 ((FX5_firstPart_t a0 (h 18 (a0.toNatClampNeg)) h).toNatClampNeg)) := iv_eql (iv_any (h 10 ((FX5_firstPart_t a0 (h 18 (a0.toNatClampNeg)) h).toNatClampNeg))) (iv_lit (lo := 14) (hi := 14) (x := 14) rfl) c55 rfl
    have s57 := SX3_lieDown_s (z := z) a0 (FX3_slotOf a0 (h 10 (((FX5_firstPart_t a0 (h 18 (a0.toNatClampNeg)) h) + 1).toNatClampNeg))) h I f_a0 (iv_w (c := 0) (d := 27) s4.2 rfl)
    refine sf_n s57.1 ?_
    exact ⟨trivial, QC_mk (iv_w (c := 0) (d := 19) s57.2.1 rfl) s57.2.2⟩
  refine sf_if (fun c58 => ?_) (fun c58 => ?_)
  · have f59 : iv 15 15 (h 10 ((FX5_firstPart_t a0 (h 18 (a0.toNatClampNeg)) h).toNatClampNeg)) := iv_eql (iv_any (h 10 ((FX5_firstPart_t a0 (h 18 (a0.toNatClampNeg)) h).toNatClampNeg))) (iv_lit (lo := 15) (hi := 15) (x := 15) rfl) c58 rfl
    have s60 := SX3_wakeSleepers_s (z := z) a0 (FX3_slotOf a0 (h 10 (((FX5_firstPart_t a0 (h 18 (a0.toNatClampNeg)) h) + 1).toNatClampNeg))) h I (iv_w (c := 0) (d := 27) s4.2 rfl)
    refine sf_n s60.1 ?_
    exact ⟨trivial, QC_mk (iv_w (c := 0) (d := 19) s60.2.1 rfl) s60.2.2⟩
  refine sf_if (fun c61 => ?_) (fun c61 => ?_)
  · have f62 : iv 16 16 (h 10 ((FX5_firstPart_t a0 (h 18 (a0.toNatClampNeg)) h).toNatClampNeg)) := iv_eql (iv_any (h 10 ((FX5_firstPart_t a0 (h 18 (a0.toNatClampNeg)) h).toNatClampNeg))) (iv_lit (lo := 16) (hi := 16) (x := 16) rfl) c61 rfl
    have s63 := SX3_takeInput_s (z := z) (FX3_slotOf a0 (h 10 (((FX5_firstPart_t a0 (h 18 (a0.toNatClampNeg)) h) + 1).toNatClampNeg))) h I (iv_w (c := 0) (d := 27) s4.2 rfl)
    refine sf_n s63.1 ?_
    exact ⟨trivial, QC_mk (iv_w (c := 0) (d := 19) s63.2.1 rfl) s63.2.2⟩
  refine sf_if (fun c64 => ?_) (fun c64 => ?_)
  · have f65 : iv 17 17 (h 10 ((FX5_firstPart_t a0 (h 18 (a0.toNatClampNeg)) h).toNatClampNeg)) := iv_eql (iv_any (h 10 ((FX5_firstPart_t a0 (h 18 (a0.toNatClampNeg)) h).toNatClampNeg))) (iv_lit (lo := 17) (hi := 17) (x := 17) rfl) c64 rfl
    refine sf_n (fmod_p (m := 4) (by decide) (by decide)) ?_
    have f66 : iv 0 3 (FJ9_floorMod_7cf53 (h 10 (((FX5_firstPart_t a0 (h 18 (a0.toNatClampNeg)) h) + 1).toNatClampNeg)) 4) := fmod_iv (m := 4) rfl
    have s67 := SX3_startThread_s (z := z) (FJ9_floorMod_7cf53 (h 10 (((FX5_firstPart_t a0 (h 18 (a0.toNatClampNeg)) h) + 1).toNatClampNeg)) 4) h I f66
    refine sf_n s67.1 ?_
    exact ⟨trivial, QC_mk (iv_w (c := 0) (d := 19) s67.2.1 rfl) s67.2.2⟩
  refine sf_if (fun c68 => ?_) (fun c68 => ?_)
  · have f69 : iv 18 18 (h 10 ((FX5_firstPart_t a0 (h 18 (a0.toNatClampNeg)) h).toNatClampNeg)) := iv_eql (iv_any (h 10 ((FX5_firstPart_t a0 (h 18 (a0.toNatClampNeg)) h).toNatClampNeg))) (iv_lit (lo := 18) (hi := 18) (x := 18) rfl) c68 rfl
    refine sf_n (fmod_p (m := 10) (by decide) (by decide)) ?_
    have f70 : iv 0 9 (FJ9_floorMod_7cf53 (h 10 (((FX5_firstPart_t a0 (h 18 (a0.toNatClampNeg)) h) + 2).toNatClampNeg)) 10) := fmod_iv (m := 10) rfl
    have f71 : iv 10 19 (10 + (FJ9_floorMod_7cf53 (h 10 (((FX5_firstPart_t a0 (h 18 (a0.toNatClampNeg)) h) + 2).toNatClampNeg)) 10)) := iv_add (iv_lit (lo := 10) (hi := 10) (x := 10) rfl) f70 rfl
    exact ⟨trivial, QC_mk (iv_w (c := 0) (d := 19) f71 rfl) I⟩
  have s72 := SX3_goTo_s (z := z) 24 h I
  refine sf_n s72.1 ?_
  exact ⟨trivial, QC_mk (iv_w (c := 0) (d := 19) s72.2.1 rfl) s72.2.2⟩

-- X3_rise_s
set_option maxRecDepth 100000 in
set_option maxHeartbeats 4000000 in
theorem SX3_rise_s {z : zT} (a0 : Int32) (h : ph_H) (I : IC z h) (f_a0 : iv 0 3 a0) : PX3_rise_s a0 h ∧ QC z 0 0 (FX3_rise_s a0 h) := by
  unfold PX3_rise_s FX3_rise_s
  refine sf_n (iv_in f_a0 rfl) ?_
  have I1 : IC z (hs h 19 a0.toNatClampNeg 1) := ICs I (k := 19) (i := a0.toNatClampNeg) (v := 1) (iv_any 1) rfl
  refine sf_n (iv_in f_a0 rfl) ?_
  have f2 : iv 0 11 (h 20 (a0.toNatClampNeg)) := ICv I 20 _
  have s3 := SX3_own_s (z := z) a0 (h 20 (a0.toNatClampNeg)) (hs h 19 a0.toNatClampNeg 1) I1 f2
  refine sf_n s3.1 ?_
  exact ⟨trivial, QC_mk s3.2.1 s3.2.2⟩

-- X3_nextInstruction_s
set_option maxRecDepth 100000 in
set_option maxHeartbeats 4000000 in
theorem SX3_nextInstruction_s {z : zT} (a0 : Int32) (h : ph_H) (I : IC z h) (f_a0 : iv 0 3 a0) : PX3_nextInstruction_s a0 h ∧ iv 0 24 (FX3_nextInstruction_s a0 h) := by
  unfold PX3_nextInstruction_s FX3_nextInstruction_s
  have s1 := SX3_hasEnded_s (z := z) a0 h I f_a0
  refine sf_n s1.1 ?_
  refine sf_if (fun c2 => ?_) (fun c2 => ?_)
  · have f3 : iv 0 23 (h 18 (a0.toNatClampNeg)) := iv_and (iv_any _) (s1.2.2 c2) rfl
    have f4 : iv 0 0 (FX3_hasEnded_s a0 h) := iv_eql s1.2.1 (iv_lit (lo := 0) (hi := 0) (x := 0) rfl) c2 rfl
    refine sf_n (iv_in f_a0 rfl) ?_
    exact ⟨trivial, (iv_w (c := 0) (d := 24) f3 rfl)⟩
  · have f5 : iv 1 1 (FX3_hasEnded_s a0 h) := iv_nel s1.2.1 c2 rfl
    exact ⟨trivial, (iv_w (c := 0) (d := 24) (iv_lit (lo := 24) (hi := 24) (x := 24) rfl) rfl)⟩

-- X5_opOf_t
set_option maxRecDepth 100000 in
set_option maxHeartbeats 4000000 in
theorem SX5_opOf_t {z : zT} (a0 : Int32) (a1 : Int32) (h : ph_H) (I : IC z h) (f_a0 : iv 0 3 a0) : PX5_opOf_t a0 a1 h ∧ iv (-2147483648) 2147483647 (FX5_opOf_t a0 a1 h) := by
  unfold PX5_opOf_t FX5_opOf_t
  have s1 := SX5_has_t (z := z) a0 a1 h I f_a0
  refine sf_n s1.1 ?_
  refine sf_if (fun c2 => ?_) (fun c2 => ?_)
  · have f3 : iv 0 0 (FX5_has_t a0 a1 h) := iv_eql s1.2.1 (iv_lit (lo := 0) (hi := 0) (x := 0) rfl) c2 rfl
    exact ⟨trivial, (iv_any 19)⟩
  · have f4 : iv 0 23 a1 := iv_and (iv_any _) (s1.2.2 c2) rfl
    have f5 : iv 1 1 (FX5_has_t a0 a1 h) := iv_nel s1.2.1 c2 rfl
    have s6 := SX5_firstPart_t (z := z) a0 a1 h I f_a0 f4
    refine sf_n s6.1 ?_
    refine sf_n (iv_in s6.2 rfl) ?_
    exact ⟨trivial, (iv_any (h 10 ((FX5_firstPart_t a0 a1 h).toNatClampNeg)))⟩

-- X3_whoGoes_s
set_option maxRecDepth 100000 in
set_option maxHeartbeats 4000000 in
theorem SX3_whoGoes_s_21 {z : zT} : ∀ (q : Nat) (x2 : Int32) (h : ph_H), IC z h → iv 0 4 x2 → 4 - (x2).toInt < ((q : Nat) : Int) → PX3_whoGoes_s_21  q x2 h ∧ iv (-1) 3 (FX3_whoGoes_s_21  q x2 h) := by
  intro q
  induction q with
  | zero =>
    intro x2 h I f_x2 mq
    exact mu_zu f_x2 mq rfl
  | succ q ih =>
    intro x2 h I f_x2 mq
    unfold PX3_whoGoes_s_21 FX3_whoGoes_s_21
    refine sf_if (fun c1 => ?_) (fun c1 => ?_)
    · have f2 : iv 4 4 x2 := iv_ler f_x2 (iv_lit (lo := 4) (hi := 4) (x := 4) rfl) c1 rfl
      exact ⟨trivial, (iv_w (c := (-1)) (d := 3) (iv_lit (lo := (-1)) (hi := (-1)) (x := (-1)) rfl) rfl)⟩
    · have f3 : iv 0 3 x2 := iv_ltl f_x2 (iv_lit (lo := 4) (hi := 4) (x := 4) rfl) (nle c1) rfl
      have s4 := SX3_canGo_s (z := z) x2 h I f3
      refine sf_n s4.1 ?_
      refine sf_if (fun c5 => ?_) (fun c5 => ?_)
      · have f6 : iv 0 0 (FX3_canGo_s x2 h) := iv_eql s4.2.1 (iv_lit (lo := 0) (hi := 0) (x := 0) rfl) c5 rfl
        have f7 : iv 1 4 (x2 + 1) := iv_add f3 (iv_lit (lo := 1) (hi := 1) (x := 1) rfl) rfl
        exact ih (x2 + 1) h I (iv_w (c := 0) (d := 4) f7 rfl) (mu_up f3 mq rfl)
      · have f8 : iv 0 23 (h 18 (x2.toNatClampNeg)) := iv_and (iv_any _) (s4.2.2 c5) rfl
        have f9 : iv 1 1 (FX3_canGo_s x2 h) := iv_nel s4.2.1 c5 rfl
        exact ⟨trivial, (iv_w (c := (-1)) (d := 3) f3 rfl)⟩
set_option maxRecDepth 100000 in
set_option maxHeartbeats 4000000 in
theorem SX3_whoGoes_s {z : zT} (a0 : Int32) (h : ph_H) (I : IC z h) : PX3_whoGoes_s a0 h ∧ iv (-1) 3 (FX3_whoGoes_s a0 h) := by
  unfold PX3_whoGoes_s FX3_whoGoes_s
  refine sf_if (fun c1 => ?_) (fun c1 => ?_)
  · have f2 : iv (-2147483648) (-1) a0 := iv_ltl (iv_any a0) (iv_lit (lo := 0) (hi := 0) (x := 0) rfl) c1 rfl
    unfold PX3_whoGoes_s_19 FX3_whoGoes_s_19
    exact SX3_whoGoes_s_21 2000 0 h I (iv_w (c := 0) (d := 4) (iv_lit (lo := 0) (hi := 0) (x := 0) rfl) rfl) (mu_0u (iv_lit (lo := 0) (hi := 0) (x := 0) rfl) rfl)
  · have f3 : iv 0 2147483647 a0 := iv_ler (iv_any a0) (iv_lit (lo := 0) (hi := 0) (x := 0) rfl) (nlt c1) rfl
    refine sf_if (fun c4 => ?_) (fun c4 => ?_)
    · have f5 : iv 4 2147483647 a0 := iv_ler f3 (iv_lit (lo := 4) (hi := 4) (x := 4) rfl) c4 rfl
      unfold PX3_whoGoes_s_19 FX3_whoGoes_s_19
      exact SX3_whoGoes_s_21 2000 0 h I (iv_w (c := 0) (d := 4) (iv_lit (lo := 0) (hi := 0) (x := 0) rfl) rfl) (mu_0u (iv_lit (lo := 0) (hi := 0) (x := 0) rfl) rfl)
    · have f6 : iv 0 3 a0 := iv_ltl f3 (iv_lit (lo := 4) (hi := 4) (x := 4) rfl) (nle c4) rfl
      have s7 := SX3_canGo_s (z := z) a0 h I f6
      refine sf_n s7.1 ?_
      refine sf_if (fun c8 => ?_) (fun c8 => ?_)
      · have f9 : iv 0 0 (FX3_canGo_s a0 h) := iv_eql s7.2.1 (iv_lit (lo := 0) (hi := 0) (x := 0) rfl) c8 rfl
        unfold PX3_whoGoes_s_19 FX3_whoGoes_s_19
        exact SX3_whoGoes_s_21 2000 0 h I (iv_w (c := 0) (d := 4) (iv_lit (lo := 0) (hi := 0) (x := 0) rfl) rfl) (mu_0u (iv_lit (lo := 0) (hi := 0) (x := 0) rfl) rfl)
      · have f10 : iv 0 23 (h 18 (a0.toNatClampNeg)) := iv_and (iv_any _) (s7.2.2 c8) rfl
        have f11 : iv 1 1 (FX3_canGo_s a0 h) := iv_nel s7.2.1 c8 rfl
        exact ⟨trivial, (iv_w (c := (-1)) (d := 3) f6 rfl)⟩

-- X3_allStartedHaveEnded_s
set_option maxRecDepth 100000 in
set_option maxHeartbeats 4000000 in
theorem SX3_allStartedHaveEnded_s_2 {z : zT} : ∀ (q : Nat) (x1 : Int32) (h : ph_H), IC z h → iv 0 4 x1 → 4 - (x1).toInt < ((q : Nat) : Int) → PX3_allStartedHaveEnded_s_2  q x1 h ∧ iv 0 1 (FX3_allStartedHaveEnded_s_2  q x1 h) := by
  intro q
  induction q with
  | zero =>
    intro x1 h I f_x1 mq
    exact mu_zu f_x1 mq rfl
  | succ q ih =>
    intro x1 h I f_x1 mq
    unfold PX3_allStartedHaveEnded_s_2 FX3_allStartedHaveEnded_s_2
    refine sf_if (fun c1 => ?_) (fun c1 => ?_)
    · have f2 : iv 4 4 x1 := iv_ler f_x1 (iv_lit (lo := 4) (hi := 4) (x := 4) rfl) c1 rfl
      exact ⟨trivial, (iv_w (c := 0) (d := 1) (iv_lit (lo := 1) (hi := 1) (x := 1) rfl) rfl)⟩
    · have f3 : iv 0 3 x1 := iv_ltl f_x1 (iv_lit (lo := 4) (hi := 4) (x := 4) rfl) (nle c1) rfl
      refine sf_n (iv_in f3 rfl) ?_
      refine sf_if (fun c4 => ?_) (fun c4 => ?_)
      · have f5 : iv 0 0 (h 19 (x1.toNatClampNeg)) := iv_eql (iv_any (h 19 (x1.toNatClampNeg))) (iv_lit (lo := 0) (hi := 0) (x := 0) rfl) c4 rfl
        unfold PX3_allStartedHaveEnded_s_26 FX3_allStartedHaveEnded_s_26
        have f6 : iv 1 4 (x1 + 1) := iv_add f3 (iv_lit (lo := 1) (hi := 1) (x := 1) rfl) rfl
        exact ih (x1 + 1) h I (iv_w (c := 0) (d := 4) f6 rfl) (mu_up f3 mq rfl)
      · have s7 := SX3_hasEnded_s (z := z) x1 h I f3
        refine sf_n s7.1 ?_
        refine sf_if (fun c8 => ?_) (fun c8 => ?_)
        · have f9 : iv 0 23 (h 18 (x1.toNatClampNeg)) := iv_and (iv_any _) (s7.2.2 c8) rfl
          have f10 : iv 0 0 (FX3_hasEnded_s x1 h) := iv_eql s7.2.1 (iv_lit (lo := 0) (hi := 0) (x := 0) rfl) c8 rfl
          exact ⟨trivial, (iv_w (c := 0) (d := 1) (iv_lit (lo := 0) (hi := 0) (x := 0) rfl) rfl)⟩
        · have f11 : iv 1 1 (FX3_hasEnded_s x1 h) := iv_nel s7.2.1 c8 rfl
          unfold PX3_allStartedHaveEnded_s_26 FX3_allStartedHaveEnded_s_26
          have f12 : iv 1 4 (x1 + 1) := iv_add f3 (iv_lit (lo := 1) (hi := 1) (x := 1) rfl) rfl
          exact ih (x1 + 1) h I (iv_w (c := 0) (d := 4) f12 rfl) (mu_up f3 mq rfl)
set_option maxRecDepth 100000 in
set_option maxHeartbeats 4000000 in
theorem SX3_allStartedHaveEnded_s {z : zT} (h : ph_H) (I : IC z h) : PX3_allStartedHaveEnded_s h ∧ iv 0 1 (FX3_allStartedHaveEnded_s h) := by
  unfold PX3_allStartedHaveEnded_s FX3_allStartedHaveEnded_s
  exact SX3_allStartedHaveEnded_s_2 2000 0 h I (iv_w (c := 0) (d := 4) (iv_lit (lo := 0) (hi := 0) (x := 0) rfl) rfl) (mu_0u (iv_lit (lo := 0) (hi := 0) (x := 0) rfl) rfl)

-- X10_howOver_s
set_option maxRecDepth 100000 in
set_option maxHeartbeats 4000000 in
theorem SX10_howOver_s {z : zT} (h : ph_H) (I : IC z h) : PX10_howOver_s h ∧ iv 0 3 (FX10_howOver_s h) := by
  unfold PX10_howOver_s FX10_howOver_s
  refine sf_if (fun c1 => ?_) (fun c1 => ?_)
  · have f2 : iv 0 0 (h 35 14) := iv_eql (iv_any (h 35 14)) (iv_lit (lo := 0) (hi := 0) (x := 0) rfl) c1 rfl
    have s3 := SX3_whoGoes_s (z := z) 0 h I
    refine sf_n s3.1 ?_
    refine sf_if (fun c4 => ?_) (fun c4 => ?_)
    · have f5 : iv (-1) (-1) (FX3_whoGoes_s 0 h) := iv_ltl s3.2 (iv_lit (lo := 0) (hi := 0) (x := 0) rfl) c4 rfl
      have s6 := SX3_allStartedHaveEnded_s (z := z) h I
      refine sf_n s6.1 ?_
      refine sf_if (fun c7 => ?_) (fun c7 => ?_)
      · have f8 : iv 0 0 (FX3_allStartedHaveEnded_s h) := iv_eql s6.2 (iv_lit (lo := 0) (hi := 0) (x := 0) rfl) c7 rfl
        exact ⟨trivial, (iv_w (c := 0) (d := 3) (iv_lit (lo := 1) (hi := 1) (x := 1) rfl) rfl)⟩
      · have f9 : iv 1 1 (FX3_allStartedHaveEnded_s h) := iv_nel s6.2 c7 rfl
        exact ⟨trivial, (iv_w (c := 0) (d := 3) (iv_lit (lo := 0) (hi := 0) (x := 0) rfl) rfl)⟩
    · have f10 : iv 0 3 (FX3_whoGoes_s 0 h) := iv_ler s3.2 (iv_lit (lo := 0) (hi := 0) (x := 0) rfl) (nlt c4) rfl
      exact ⟨trivial, (iv_w (c := 0) (d := 3) (iv_lit (lo := 3) (hi := 3) (x := 3) rfl) rfl)⟩
  · exact ⟨trivial, (iv_w (c := 0) (d := 3) (iv_lit (lo := 2) (hi := 2) (x := 2) rfl) rfl)⟩

-- J7_fill_53178_k18
set_option maxRecDepth 100000 in
set_option maxHeartbeats 4000000 in
theorem SJ7_fill_53178_k18_5 {z : zT} : ∀ (q : Nat) (x1 : Int32) (x2 : Int32) (x3 : Int32) (h : ph_H), IC z h → iv 0 4 x2 → iv 4 4 x3 → 4 - (x2).toInt < ((q : Nat) : Int) → PJ7_fill_53178_k18_5  q x1 x2 x3 h ∧ IC z (FJ7_fill_53178_k18_5  q x1 x2 x3 h) := by
  intro q
  induction q with
  | zero =>
    intro x1 x2 x3 h I f_x2 f_x3 mq
    exact mu_zu f_x2 mq rfl
  | succ q ih =>
    intro x1 x2 x3 h I f_x2 f_x3 mq
    unfold PJ7_fill_53178_k18_5 FJ7_fill_53178_k18_5
    refine sf_if (fun c1 => ?_) (fun c1 => ?_)
    · have f2 : iv 4 4 x2 := iv_ler f_x2 f_x3 c1 rfl
      exact ⟨trivial, I⟩
    · have f3 : iv 0 3 x2 := iv_ltl f_x2 f_x3 (nle c1) rfl
      refine sf_n (iv_in f3 rfl) ?_
      have I4 : IC z (hs h 18 x2.toNatClampNeg x1) := ICs I (k := 18) (i := x2.toNatClampNeg) (v := x1) (iv_any x1) rfl
      have f5 : iv 1 4 (x2 + 1) := iv_add f3 (iv_lit (lo := 1) (hi := 1) (x := 1) rfl) rfl
      exact ih x1 (x2 + 1) x3 (hs h 18 x2.toNatClampNeg x1) I4 (iv_w (c := 0) (d := 4) f5 rfl) f_x3 (mu_up f3 mq rfl)
set_option maxRecDepth 100000 in
set_option maxHeartbeats 4000000 in
theorem SJ7_fill_53178_k18 {z : zT} (a1 : Int32) (h : ph_H) (I : IC z h) : PJ7_fill_53178_k18 a1 h ∧ IC z (FJ7_fill_53178_k18 a1 h) := by
  unfold PJ7_fill_53178_k18 FJ7_fill_53178_k18
  exact SJ7_fill_53178_k18_5 2000 a1 0 4 h I (iv_w (c := 0) (d := 4) (iv_lit (lo := 0) (hi := 0) (x := 0) rfl) rfl) (iv_lit (lo := 4) (hi := 4) (x := 4) rfl) (mu_0u (iv_lit (lo := 0) (hi := 0) (x := 0) rfl) rfl)

-- J7_fill_53178_k19
set_option maxRecDepth 100000 in
set_option maxHeartbeats 4000000 in
theorem SJ7_fill_53178_k19_5 {z : zT} : ∀ (q : Nat) (x1 : Int32) (x2 : Int32) (x3 : Int32) (h : ph_H), IC z h → iv 0 4 x2 → iv 4 4 x3 → 4 - (x2).toInt < ((q : Nat) : Int) → PJ7_fill_53178_k19_5  q x1 x2 x3 h ∧ IC z (FJ7_fill_53178_k19_5  q x1 x2 x3 h) := by
  intro q
  induction q with
  | zero =>
    intro x1 x2 x3 h I f_x2 f_x3 mq
    exact mu_zu f_x2 mq rfl
  | succ q ih =>
    intro x1 x2 x3 h I f_x2 f_x3 mq
    unfold PJ7_fill_53178_k19_5 FJ7_fill_53178_k19_5
    refine sf_if (fun c1 => ?_) (fun c1 => ?_)
    · have f2 : iv 4 4 x2 := iv_ler f_x2 f_x3 c1 rfl
      exact ⟨trivial, I⟩
    · have f3 : iv 0 3 x2 := iv_ltl f_x2 f_x3 (nle c1) rfl
      refine sf_n (iv_in f3 rfl) ?_
      have I4 : IC z (hs h 19 x2.toNatClampNeg x1) := ICs I (k := 19) (i := x2.toNatClampNeg) (v := x1) (iv_any x1) rfl
      have f5 : iv 1 4 (x2 + 1) := iv_add f3 (iv_lit (lo := 1) (hi := 1) (x := 1) rfl) rfl
      exact ih x1 (x2 + 1) x3 (hs h 19 x2.toNatClampNeg x1) I4 (iv_w (c := 0) (d := 4) f5 rfl) f_x3 (mu_up f3 mq rfl)
set_option maxRecDepth 100000 in
set_option maxHeartbeats 4000000 in
theorem SJ7_fill_53178_k19 {z : zT} (a1 : Int32) (h : ph_H) (I : IC z h) : PJ7_fill_53178_k19 a1 h ∧ IC z (FJ7_fill_53178_k19 a1 h) := by
  unfold PJ7_fill_53178_k19 FJ7_fill_53178_k19
  exact SJ7_fill_53178_k19_5 2000 a1 0 4 h I (iv_w (c := 0) (d := 4) (iv_lit (lo := 0) (hi := 0) (x := 0) rfl) rfl) (iv_lit (lo := 4) (hi := 4) (x := 4) rfl) (mu_0u (iv_lit (lo := 0) (hi := 0) (x := 0) rfl) rfl)

-- X4_forget
set_option maxRecDepth 100000 in
set_option maxHeartbeats 4000000 in
theorem SX4_forget {z : zT} (h : ph_H) (I : IC z h) : PX4_forget h ∧ IC z (FX4_forget h) := by
  unfold PX4_forget FX4_forget
  have I1 : IC z (hs h 47 6 0) := ICs I (k := 47) (i := 6) (v := 0) (iv_w (c := 0) (d := 1) (iv_lit (lo := 0) (hi := 0) (x := 0) rfl) rfl) rfl
  exact ⟨trivial, I1⟩

-- X5_become_tn
set_option maxRecDepth 100000 in
set_option maxHeartbeats 4000000 in
theorem SX5_become_tn {z : zT} (h : ph_H) (I : IC z h) : PX5_become_tn h ∧ IC z (FX5_become_tn h) := by
  unfold PX5_become_tn FX5_become_tn
  refine sf_n (cpok_iv (iv_lit (lo := 0) (hi := 0) (x := 0) rfl) (iv_lit (lo := 0) (hi := 0) (x := 0) rfl) (iv_lit (lo := 4) (hi := 4) (x := 4) rfl) rfl) ?_
  have I1 : IC z (hc h 2 9 0 0 4) := ICcp I (k0 := 2) (k1 := 9) (fun _ => rfl) (fun _ => rfl) (fun _ => rfl)
  refine sf_n (cpok_iv (iv_lit (lo := 0) (hi := 0) (x := 0) rfl) (iv_lit (lo := 0) (hi := 0) (x := 0) rfl) (iv_lit (lo := 384) (hi := 384) (x := 384) rfl) rfl) ?_
  have I2 : IC z (hc (hc h 2 9 0 0 4) 3 10 0 0 384) := ICcp I1 (k0 := 3) (k1 := 10) (fun _ => rfl) (fun _ => rfl) (fun _ => rfl)
  refine sf_n (cpok_iv (iv_lit (lo := 0) (hi := 0) (x := 0) rfl) (iv_lit (lo := 0) (hi := 0) (x := 0) rfl) (iv_lit (lo := 12) (hi := 12) (x := 12) rfl) rfl) ?_
  have I3 : IC z (hc (hc (hc h 2 9 0 0 4) 3 10 0 0 384) 4 11 0 0 12) := ICcp I2 (k0 := 4) (k1 := 11) (fun _ => rfl) (fun _ => rfl) (fun _ => rfl)
  refine sf_n (cpok_iv (iv_lit (lo := 0) (hi := 0) (x := 0) rfl) (iv_lit (lo := 0) (hi := 0) (x := 0) rfl) (iv_lit (lo := 30) (hi := 30) (x := 30) rfl) rfl) ?_
  have I4 : IC z (hc (hc (hc (hc h 2 9 0 0 4) 3 10 0 0 384) 4 11 0 0 12) 5 12 0 0 30) := ICcp I3 (k0 := 5) (k1 := 12) (fun _ => rfl) (fun _ => rfl) (fun _ => rfl)
  refine sf_n (cpok_iv (iv_lit (lo := 0) (hi := 0) (x := 0) rfl) (iv_lit (lo := 0) (hi := 0) (x := 0) rfl) (iv_lit (lo := 40) (hi := 40) (x := 40) rfl) rfl) ?_
  have I5 : IC z (hc (hc (hc (hc (hc h 2 9 0 0 4) 3 10 0 0 384) 4 11 0 0 12) 5 12 0 0 30) 6 13 0 0 40) := ICcp I4 (k0 := 6) (k1 := 13) (fun _ => rfl) (fun _ => rfl) (fun _ => rfl)
  refine sf_n (cpok_iv (iv_lit (lo := 0) (hi := 0) (x := 0) rfl) (iv_lit (lo := 0) (hi := 0) (x := 0) rfl) (iv_lit (lo := 40) (hi := 40) (x := 40) rfl) rfl) ?_
  have I6 : IC z (hc (hc (hc (hc (hc (hc h 2 9 0 0 4) 3 10 0 0 384) 4 11 0 0 12) 5 12 0 0 30) 6 13 0 0 40) 7 14 0 0 40) := ICcp I5 (k0 := 7) (k1 := 14) (fun _ => rfl) (fun _ => rfl) (fun _ => rfl)
  have f7 : iv 0 30 ((hc (hc (hc (hc (hc (hc h 2 9 0 0 4) 3 10 0 0 384) 4 11 0 0 12) 5 12 0 0 30) 6 13 0 0 40) 7 14 0 0 40) 1 6) := ICv I6 1 _
  have I8 : IC z (hs (hc (hc (hc (hc (hc (hc h 2 9 0 0 4) 3 10 0 0 384) 4 11 0 0 12) 5 12 0 0 30) 6 13 0 0 40) 7 14 0 0 40) 8 6 ((hc (hc (hc (hc (hc (hc h 2 9 0 0 4) 3 10 0 0 384) 4 11 0 0 12) 5 12 0 0 30) 6 13 0 0 40) 7 14 0 0 40) 1 6)) := ICs I6 (k := 8) (i := 6) (v := ((hc (hc (hc (hc (hc (hc h 2 9 0 0 4) 3 10 0 0 384) 4 11 0 0 12) 5 12 0 0 30) 6 13 0 0 40) 7 14 0 0 40) 1 6)) f7 rfl
  have f9 : iv 0 40 ((hc (hc (hc (hc (hc (hc h 2 9 0 0 4) 3 10 0 0 384) 4 11 0 0 12) 5 12 0 0 30) 6 13 0 0 40) 7 14 0 0 40) 1 7) := ICv I6 1 _
  have I10 : IC z (hs (hs (hc (hc (hc (hc (hc (hc h 2 9 0 0 4) 3 10 0 0 384) 4 11 0 0 12) 5 12 0 0 30) 6 13 0 0 40) 7 14 0 0 40) 8 6 ((hc (hc (hc (hc (hc (hc h 2 9 0 0 4) 3 10 0 0 384) 4 11 0 0 12) 5 12 0 0 30) 6 13 0 0 40) 7 14 0 0 40) 1 6)) 8 7 ((hc (hc (hc (hc (hc (hc h 2 9 0 0 4) 3 10 0 0 384) 4 11 0 0 12) 5 12 0 0 30) 6 13 0 0 40) 7 14 0 0 40) 1 7)) := ICs I8 (k := 8) (i := 7) (v := ((hc (hc (hc (hc (hc (hc h 2 9 0 0 4) 3 10 0 0 384) 4 11 0 0 12) 5 12 0 0 30) 6 13 0 0 40) 7 14 0 0 40) 1 7)) f9 rfl
  exact ⟨trivial, I10⟩

-- X11_told
set_option maxRecDepth 100000 in
set_option maxHeartbeats 4000000 in
theorem SX11_told {z : zT} (a0 : Int32) (h : ph_H) (I : IC z h) : PX11_told a0 h ∧ iv (-2147483648) 2147483647 (FX11_told a0 h) := by
  unfold PX11_told FX11_told
  have f1 : iv 0 1 (h 0 8) := ICv I 0 _
  refine sf_if (fun c2 => ?_) (fun c2 => ?_)
  · have f3 : iv 0 0 (h 0 8) := iv_eql f1 (iv_lit (lo := 0) (hi := 0) (x := 0) rfl) c2 rfl
    exact ⟨trivial, (iv_any (-2))⟩
  · have f4 : iv 1 1 (h 0 8) := iv_nel f1 c2 rfl
    refine sf_if (fun c5 => ?_) (fun c5 => ?_)
    · have f6 : iv 0 0 a0 := iv_eql (iv_any a0) (iv_lit (lo := 0) (hi := 0) (x := 0) rfl) c5 rfl
      exact ⟨trivial, (iv_any (h 35 13))⟩
    refine sf_if (fun c7 => ?_) (fun c7 => ?_)
    · have f8 : iv 1 1 a0 := iv_eql (iv_any a0) (iv_lit (lo := 1) (hi := 1) (x := 1) rfl) c7 rfl
      have f9 : iv 0 300 (h 35 11) := ICv I 35 _
      exact ⟨trivial, (iv_any (h 35 11))⟩
    refine sf_if (fun c10 => ?_) (fun c10 => ?_)
    · have f11 : iv 2 2 a0 := iv_eql (iv_any a0) (iv_lit (lo := 2) (hi := 2) (x := 2) rfl) c10 rfl
      exact ⟨trivial, (iv_any (h 35 14))⟩
    refine sf_if (fun c12 => ?_) (fun c12 => ?_)
    · have f13 : iv 3 3 a0 := iv_eql (iv_any a0) (iv_lit (lo := 3) (hi := 3) (x := 3) rfl) c12 rfl
      refine sf_if (fun c14 => ?_) (fun c14 => ?_)
      · have f15 : iv 0 0 (h 35 14) := iv_eql (iv_any (h 35 14)) (iv_lit (lo := 0) (hi := 0) (x := 0) rfl) c14 rfl
        exact ⟨trivial, (iv_any (-1))⟩
      · have s16 := SX10_latestThread (z := z) h I
        refine sf_n s16.1 ?_
        exact ⟨trivial, (iv_any (FX10_latestThread h))⟩
    refine sf_if (fun c17 => ?_) (fun c17 => ?_)
    · have f18 : iv 4 4 a0 := iv_eql (iv_any a0) (iv_lit (lo := 4) (hi := 4) (x := 4) rfl) c17 rfl
      have f19 : iv 0 12 (h 35 15) := ICv I 35 _
      exact ⟨trivial, (iv_any (h 35 15))⟩
    refine sf_if (fun c20 => ?_) (fun c20 => ?_)
    · have f21 : iv 5 5 a0 := iv_eql (iv_any a0) (iv_lit (lo := 5) (hi := 5) (x := 5) rfl) c20 rfl
      have f22 : iv 0 300 (h 35 12) := ICv I 35 _
      exact ⟨trivial, (iv_any (h 35 12))⟩
    refine sf_if (fun c23 => ?_) (fun c23 => ?_)
    · have f24 : iv 6 6 a0 := iv_eql (iv_any a0) (iv_lit (lo := 6) (hi := 6) (x := 6) rfl) c23 rfl
      have f25 : iv 0 30 (h 35 16) := ICv I 35 _
      exact ⟨trivial, (iv_any (h 35 16))⟩
    refine sf_if (fun c26 => ?_) (fun c26 => ?_)
    · have f27 : iv 7 7 a0 := iv_eql (iv_any a0) (iv_lit (lo := 7) (hi := 7) (x := 7) rfl) c26 rfl
      have f28 : iv 0 300 (h 35 12) := ICv I 35 _
      have f29 : iv 0 900 (3 * (h 35 12)) := iv_mul (c := 3) rfl f28 rfl
      have f30 : iv 0 30 (h 35 16) := ICv I 35 _
      have f31 : iv 0 120 (4 * (h 35 16)) := iv_mul (c := 4) rfl f30 rfl
      have f32 : iv 0 1020 ((3 * (h 35 12)) + (4 * (h 35 16))) := iv_add f29 f31 rfl
      exact ⟨trivial, (iv_any ((3 * (h 35 12)) + (4 * (h 35 16))))⟩
    exact ⟨trivial, (iv_any (-1))⟩

-- X11_change
set_option maxRecDepth 100000 in
set_option maxHeartbeats 4000000 in
theorem SX11_change {z : zT} (a0 : Int32) (a1 : Int32) (h : ph_H) (I : IC z h) : PX11_change a0 a1 h ∧ iv (-2147483648) 2147483647 (FX11_change a0 a1 h) := by
  unfold PX11_change FX11_change
  have f1 : iv 0 1 (h 0 8) := ICv I 0 _
  refine sf_if (fun c2 => ?_) (fun c2 => ?_)
  · have f3 : iv 0 0 (h 0 8) := iv_eql f1 (iv_lit (lo := 0) (hi := 0) (x := 0) rfl) c2 rfl
    exact ⟨trivial, (iv_any (-1))⟩
  · have f4 : iv 1 1 (h 0 8) := iv_nel f1 c2 rfl
    refine sf_if (fun c5 => ?_) (fun c5 => ?_)
    · have f6 : iv (-2147483648) (-1) a0 := iv_ltl (iv_any a0) (iv_lit (lo := 0) (hi := 0) (x := 0) rfl) c5 rfl
      exact ⟨trivial, (iv_any (-1))⟩
    · have f7 : iv 0 2147483647 a0 := iv_ler (iv_any a0) (iv_lit (lo := 0) (hi := 0) (x := 0) rfl) (nlt c5) rfl
      have f8 : iv 0 300 (h 35 12) := ICv I 35 _
      refine sf_if (fun c9 => ?_) (fun c9 => ?_)
      · exact ⟨trivial, (iv_any (-1))⟩
      · have f10 : iv 0 299 a0 := iv_ltl f7 f8 (nle c9) rfl
        have f11 : iv 1 300 (h 35 12) := iv_ltr f8 f7 (nle c9) rfl
        refine sf_if (fun c12 => ?_) (fun c12 => ?_)
        · have f13 : iv (-2147483648) (-1) a1 := iv_ltl (iv_any a1) (iv_lit (lo := 0) (hi := 0) (x := 0) rfl) c12 rfl
          exact ⟨trivial, (iv_any (-1))⟩
        · have f14 : iv 0 2147483647 a1 := iv_ler (iv_any a1) (iv_lit (lo := 0) (hi := 0) (x := 0) rfl) (nlt c12) rfl
          refine sf_if (fun c15 => ?_) (fun c15 => ?_)
          · have f16 : iv 0 1 a1 := iv_lel f14 (iv_lit (lo := 1) (hi := 1) (x := 1) rfl) c15 rfl
            refine sf_if (fun c17 => ?_) (fun c17 => ?_)
            · have f18 : iv 0 0 a1 := iv_eql f16 (iv_lit (lo := 0) (hi := 0) (x := 0) rfl) c17 rfl
              refine sf_n (iv_in f10 rfl) ?_
              exact ⟨trivial, (iv_any (h 45 (a0.toNatClampNeg)))⟩
            · have f19 : iv 1 1 a1 := iv_nel f16 c17 rfl
              refine sf_n (iv_in f10 rfl) ?_
              have f20 : iv 0 3 (h 46 (a0.toNatClampNeg)) := ICv I 46 _
              exact ⟨trivial, (iv_any (h 46 (a0.toNatClampNeg)))⟩
          · have f21 : iv 2 2147483647 a1 := iv_ltr f14 (iv_lit (lo := 1) (hi := 1) (x := 1) rfl) (nle c15) rfl
            exact ⟨trivial, (iv_any (-1))⟩

-- X11_step
set_option maxRecDepth 100000 in
set_option maxHeartbeats 4000000 in
theorem SX11_step {z : zT} (a0 : Int32) (a1 : Int32) (h : ph_H) (I : IC z h) : PX11_step a0 a1 h ∧ iv (-2147483648) 2147483647 (FX11_step a0 a1 h) := by
  unfold PX11_step FX11_step
  have f1 : iv 0 1 (h 0 8) := ICv I 0 _
  refine sf_if (fun c2 => ?_) (fun c2 => ?_)
  · have f3 : iv 0 0 (h 0 8) := iv_eql f1 (iv_lit (lo := 0) (hi := 0) (x := 0) rfl) c2 rfl
    exact ⟨trivial, (iv_any (-1))⟩
  · have f4 : iv 1 1 (h 0 8) := iv_nel f1 c2 rfl
    refine sf_if (fun c5 => ?_) (fun c5 => ?_)
    · have f6 : iv (-2147483648) 0 a0 := iv_ltl (iv_any a0) (iv_lit (lo := 1) (hi := 1) (x := 1) rfl) c5 rfl
      exact ⟨trivial, (iv_any (-1))⟩
    · have f7 : iv 1 2147483647 a0 := iv_ler (iv_any a0) (iv_lit (lo := 1) (hi := 1) (x := 1) rfl) (nlt c5) rfl
      have f8 : iv 0 300 (h 35 11) := ICv I 35 _
      refine sf_if (fun c9 => ?_) (fun c9 => ?_)
      · have f10 : iv 1 300 a0 := iv_lel f7 f8 c9 rfl
        have f11 : iv 1 300 (h 35 11) := iv_ler f8 f7 c9 rfl
        refine sf_if (fun c12 => ?_) (fun c12 => ?_)
        · have f13 : iv 0 0 a1 := iv_eql (iv_any a1) (iv_lit (lo := 0) (hi := 0) (x := 0) rfl) c12 rfl
          refine sf_n (iv_in f10 rfl) ?_
          have f14 : iv 0 3 (h 36 (a0.toNatClampNeg)) := ICv I 36 _
          exact ⟨trivial, (iv_any (h 36 (a0.toNatClampNeg)))⟩
        refine sf_if (fun c15 => ?_) (fun c15 => ?_)
        · have f16 : iv 1 1 a1 := iv_eql (iv_any a1) (iv_lit (lo := 1) (hi := 1) (x := 1) rfl) c15 rfl
          refine sf_n (iv_in f10 rfl) ?_
          exact ⟨trivial, (iv_any (h 37 (a0.toNatClampNeg)))⟩
        refine sf_if (fun c17 => ?_) (fun c17 => ?_)
        · have f18 : iv 2 2 a1 := iv_eql (iv_any a1) (iv_lit (lo := 2) (hi := 2) (x := 2) rfl) c17 rfl
          refine sf_n (iv_in f10 rfl) ?_
          exact ⟨trivial, (iv_any (h 38 (a0.toNatClampNeg)))⟩
        refine sf_if (fun c19 => ?_) (fun c19 => ?_)
        · have f20 : iv 3 3 a1 := iv_eql (iv_any a1) (iv_lit (lo := 3) (hi := 3) (x := 3) rfl) c19 rfl
          refine sf_n (iv_in f10 rfl) ?_
          exact ⟨trivial, (iv_any (h 39 (a0.toNatClampNeg)))⟩
        refine sf_if (fun c21 => ?_) (fun c21 => ?_)
        · have f22 : iv 4 4 a1 := iv_eql (iv_any a1) (iv_lit (lo := 4) (hi := 4) (x := 4) rfl) c21 rfl
          refine sf_n (iv_in f10 rfl) ?_
          exact ⟨trivial, (iv_any (h 40 (a0.toNatClampNeg)))⟩
        refine sf_if (fun c23 => ?_) (fun c23 => ?_)
        · have f24 : iv 5 5 a1 := iv_eql (iv_any a1) (iv_lit (lo := 5) (hi := 5) (x := 5) rfl) c23 rfl
          refine sf_n (iv_in f10 rfl) ?_
          have f25 : iv 0 4 (h 43 (a0.toNatClampNeg)) := ICv I 43 _
          exact ⟨trivial, (iv_any (h 43 (a0.toNatClampNeg)))⟩
        exact ⟨trivial, (iv_any (-1))⟩
      · exact ⟨trivial, (iv_any (-1))⟩

-- X5_has_n
set_option maxRecDepth 100000 in
set_option maxHeartbeats 4000000 in
theorem SX5_has_n {z : zT} (a0 : Int32) (a1 : Int32) (h : ph_H) (I : IC z h) (f_a0 : iv 0 3 a0) : PX5_has_n a0 a1 h ∧ Qc 0 1 (fun r => ¬ r = 0 → iv 0 23 a1) (FX5_has_n a0 a1 h) := by
  unfold PX5_has_n FX5_has_n
  refine sf_if (fun c1 => ?_) (fun c1 => ?_)
  · have f2 : iv (-2147483648) (-1) a1 := iv_ltl (iv_any a1) (iv_lit (lo := 0) (hi := 0) (x := 0) rfl) c1 rfl
    exact ⟨trivial, (iv_w (c := 0) (d := 1) (iv_lit (lo := 0) (hi := 0) (x := 0) rfl) rfl), fun z => absurd rfl z⟩
  · have f3 : iv 0 2147483647 a1 := iv_ler (iv_any a1) (iv_lit (lo := 0) (hi := 0) (x := 0) rfl) (nlt c1) rfl
    refine sf_if (fun c4 => ?_) (fun c4 => ?_)
    · have f5 : iv 24 2147483647 a1 := iv_ler f3 (iv_lit (lo := 24) (hi := 24) (x := 24) rfl) c4 rfl
      exact ⟨trivial, (iv_w (c := 0) (d := 1) (iv_lit (lo := 0) (hi := 0) (x := 0) rfl) rfl), fun z => absurd rfl z⟩
    · have f6 : iv 0 23 a1 := iv_ltl f3 (iv_lit (lo := 24) (hi := 24) (x := 24) rfl) (nle c4) rfl
      refine sf_n (iv_in f_a0 rfl) ?_
      have f7 : iv 0 24 (h 2 (a0.toNatClampNeg)) := ICv I 2 _
      refine sf_if (fun c8 => ?_) (fun c8 => ?_)
      · have f9 : iv 0 23 (h 2 (a0.toNatClampNeg)) := iv_lel f7 f6 c8 rfl
        exact ⟨trivial, (iv_w (c := 0) (d := 1) (iv_lit (lo := 0) (hi := 0) (x := 0) rfl) rfl), fun z => absurd rfl z⟩
      · have f10 : iv 1 24 (h 2 (a0.toNatClampNeg)) := iv_ltr f7 f6 (nle c8) rfl
        exact ⟨trivial, (iv_w (c := 0) (d := 1) (iv_lit (lo := 1) (hi := 1) (x := 1) rfl) rfl), fun _ => f6⟩

-- X3_hasEnded_oc1
set_option maxRecDepth 100000 in
set_option maxHeartbeats 4000000 in
theorem SX3_hasEnded_oc1 {z : zT} (a0 : Int32) (h : ph_H) (I : IC z h) (f_a0 : iv 0 3 a0) : PX3_hasEnded_oc1 a0 h ∧ Qc 0 1 (fun r => r = 0 → iv 0 23 (h 28 (a0.toNatClampNeg))) (FX3_hasEnded_oc1 a0 h) := by
  unfold PX3_hasEnded_oc1 FX3_hasEnded_oc1
  refine sf_n (iv_in f_a0 rfl) ?_
  have s1 := SX5_has_n (z := z) a0 (h 28 (a0.toNatClampNeg)) h I f_a0
  refine sf_n s1.1 ?_
  refine sf_if (fun c2 => ?_) (fun c2 => ?_)
  · have f3 : iv 0 0 (FX5_has_n a0 (h 28 (a0.toNatClampNeg)) h) := iv_eql s1.2.1 (iv_lit (lo := 0) (hi := 0) (x := 0) rfl) c2 rfl
    exact ⟨trivial, (iv_w (c := 0) (d := 1) (iv_lit (lo := 1) (hi := 1) (x := 1) rfl) rfl), fun z => absurd z (by decide)⟩
  · have f4 : iv 0 23 (h 28 (a0.toNatClampNeg)) := iv_and (iv_any _) (s1.2.2 c2) rfl
    have f5 : iv 1 1 (FX5_has_n a0 (h 28 (a0.toNatClampNeg)) h) := iv_nel s1.2.1 c2 rfl
    exact ⟨trivial, (iv_w (c := 0) (d := 1) (iv_lit (lo := 0) (hi := 0) (x := 0) rfl) rfl), fun _ => f4⟩

-- X3_lockIn_oc1
set_option maxRecDepth 100000 in
set_option maxHeartbeats 4000000 in
theorem SX3_lockIn_oc1 {z : zT} (a0 : Int32) (h : ph_H) (I : IC z h) (f_a0 : iv 0 27 a0) : PX3_lockIn_oc1 a0 h ∧ iv (-1) 11 (FX3_lockIn_oc1 a0 h) := by
  unfold PX3_lockIn_oc1 FX3_lockIn_oc1
  refine sf_n (iv_in f_a0 rfl) ?_
  have f1 : iv 0 3 (h 26 (a0.toNatClampNeg)) := ICv I 26 _
  refine sf_if (fun c2 => ?_) (fun c2 => ?_)
  · have f3 : iv 2 2 (h 26 (a0.toNatClampNeg)) := iv_eql f1 (iv_lit (lo := 2) (hi := 2) (x := 2) rfl) c2 rfl
    have f4 : iv 0 11 (h 27 (a0.toNatClampNeg)) := KVn_o I f3 rfl
    unfold PX3_lockIn_oc1_20 FX3_lockIn_oc1_20
    refine sf_n (iv_in f_a0 rfl) ?_
    exact ⟨trivial, (iv_w (c := (-1)) (d := 11) f4 rfl)⟩
  · refine sf_n (iv_in f_a0 rfl) ?_
    refine sf_if (fun c5 => ?_) (fun c5 => ?_)
    · have f6 : iv 3 3 (h 26 (a0.toNatClampNeg)) := iv_eql f1 (iv_lit (lo := 3) (hi := 3) (x := 3) rfl) c5 rfl
      have f7 : iv 0 11 (h 27 (a0.toNatClampNeg)) := KVn_o I f6 rfl
      unfold PX3_lockIn_oc1_20 FX3_lockIn_oc1_20
      refine sf_n (iv_in f_a0 rfl) ?_
      exact ⟨trivial, (iv_w (c := (-1)) (d := 11) f7 rfl)⟩
    · have f8 : iv 0 2 (h 26 (a0.toNatClampNeg)) := iv_nel f1 c5 rfl
      exact ⟨trivial, (iv_w (c := (-1)) (d := 11) (iv_lit (lo := (-1)) (hi := (-1)) (x := (-1)) rfl) rfl)⟩

-- X3_canGo_oc1
set_option maxRecDepth 100000 in
set_option maxHeartbeats 4000000 in
theorem SX3_canGo_oc1 {z : zT} (a0 : Int32) (h : ph_H) (I : IC z h) (f_a0 : iv 0 3 a0) : PX3_canGo_oc1 a0 h ∧ Qc 0 1 (fun r => ¬ r = 0 → iv 0 23 (h 28 (a0.toNatClampNeg))) (FX3_canGo_oc1 a0 h) := by
  unfold PX3_canGo_oc1 FX3_canGo_oc1
  refine sf_n (iv_in f_a0 rfl) ?_
  refine sf_if (fun c1 => ?_) (fun c1 => ?_)
  · have f2 : iv 0 0 (h 29 (a0.toNatClampNeg)) := iv_eql (iv_any (h 29 (a0.toNatClampNeg))) (iv_lit (lo := 0) (hi := 0) (x := 0) rfl) c1 rfl
    exact ⟨trivial, (iv_w (c := 0) (d := 1) (iv_lit (lo := 0) (hi := 0) (x := 0) rfl) rfl), fun z => absurd rfl z⟩
  · refine sf_n (iv_in f_a0 rfl) ?_
    refine sf_if (fun c3 => ?_) (fun c3 => ?_)
    · have f4 : iv 2 2 (h 29 (a0.toNatClampNeg)) := iv_eql (iv_any (h 29 (a0.toNatClampNeg))) (iv_lit (lo := 2) (hi := 2) (x := 2) rfl) c3 rfl
      exact ⟨trivial, (iv_w (c := 0) (d := 1) (iv_lit (lo := 0) (hi := 0) (x := 0) rfl) rfl), fun z => absurd rfl z⟩
    · have s5 := SX3_hasEnded_oc1 (z := z) a0 h I f_a0
      refine sf_n s5.1 ?_
      refine sf_if (fun c6 => ?_) (fun c6 => ?_)
      · have f7 : iv 0 23 (h 28 (a0.toNatClampNeg)) := iv_and (iv_any _) (s5.2.2 c6) rfl
        have f8 : iv 0 0 (FX3_hasEnded_oc1 a0 h) := iv_eql s5.2.1 (iv_lit (lo := 0) (hi := 0) (x := 0) rfl) c6 rfl
        refine sf_n (iv_in f_a0 rfl) ?_
        refine sf_if (fun c9 => ?_) (fun c9 => ?_)
        · have f10 : iv 3 3 (h 29 (a0.toNatClampNeg)) := iv_eql (iv_any (h 29 (a0.toNatClampNeg))) (iv_lit (lo := 3) (hi := 3) (x := 3) rfl) c9 rfl
          refine sf_n (iv_in f_a0 rfl) ?_
          have f11 : iv 0 11 (h 30 (a0.toNatClampNeg)) := ICv I 30 _
          refine sf_n (iv_in f11 rfl) ?_
          refine sf_if (fun c12 => ?_) (fun c12 => ?_)
          · have f13 : iv (-2) (-2) (h 33 ((h 30 (a0.toNatClampNeg)).toNatClampNeg)) := iv_eql (iv_any (h 33 ((h 30 (a0.toNatClampNeg)).toNatClampNeg))) (iv_lit (lo := (-2)) (hi := (-2)) (x := (-2)) rfl) c12 rfl
            exact ⟨trivial, (iv_w (c := 0) (d := 1) (iv_lit (lo := 1) (hi := 1) (x := 1) rfl) rfl), fun _ => f7⟩
          · exact ⟨trivial, (iv_w (c := 0) (d := 1) (iv_lit (lo := 0) (hi := 0) (x := 0) rfl) rfl), fun z => absurd rfl z⟩
        · refine sf_n (iv_in f_a0 rfl) ?_
          have s14 := SX5_firstPart_n (z := z) a0 (h 28 (a0.toNatClampNeg)) h I f_a0 f7
          refine sf_n s14.1 ?_
          refine sf_n (iv_in s14.2 rfl) ?_
          refine sf_if (fun c15 => ?_) (fun c15 => ?_)
          · have f16 : iv 12 12 (h 3 ((FX5_firstPart_n a0 (h 28 (a0.toNatClampNeg)) h).toNatClampNeg)) := iv_eql (iv_any (h 3 ((FX5_firstPart_n a0 (h 28 (a0.toNatClampNeg)) h).toNatClampNeg))) (iv_lit (lo := 12) (hi := 12) (x := 12) rfl) c15 rfl
            have f17 : iv 1 381 ((FX5_firstPart_n a0 (h 28 (a0.toNatClampNeg)) h) + 1) := iv_add s14.2 (iv_lit (lo := 1) (hi := 1) (x := 1) rfl) rfl
            refine sf_n (iv_in f17 rfl) ?_
            have s18 := SX3_slotOf a0 (h 3 (((FX5_firstPart_n a0 (h 28 (a0.toNatClampNeg)) h) + 1).toNatClampNeg)) f_a0
            refine sf_n s18.1 ?_
            have s19 := SX3_lockIn_oc1 (z := z) (FX3_slotOf a0 (h 3 (((FX5_firstPart_n a0 (h 28 (a0.toNatClampNeg)) h) + 1).toNatClampNeg))) h I (iv_w (c := 0) (d := 27) s18.2 rfl)
            refine sf_n s19.1 ?_
            refine sf_if (fun c20 => ?_) (fun c20 => ?_)
            · have f21 : iv (-1) (-1) (FX3_lockIn_oc1 (FX3_slotOf a0 (h 3 (((FX5_firstPart_n a0 (h 28 (a0.toNatClampNeg)) h) + 1).toNatClampNeg))) h) := iv_ltl s19.2 (iv_lit (lo := 0) (hi := 0) (x := 0) rfl) c20 rfl
              unfold PX3_canGo_oc1_137 FX3_canGo_oc1_137
              exact ⟨trivial, (iv_w (c := 0) (d := 1) (iv_lit (lo := 1) (hi := 1) (x := 1) rfl) rfl), fun _ => f7⟩
            · have f22 : iv 0 11 (FX3_lockIn_oc1 (FX3_slotOf a0 (h 3 (((FX5_firstPart_n a0 (h 28 (a0.toNatClampNeg)) h) + 1).toNatClampNeg))) h) := iv_ler s19.2 (iv_lit (lo := 0) (hi := 0) (x := 0) rfl) (nlt c20) rfl
              refine sf_n (iv_in f22 rfl) ?_
              refine sf_if (fun c23 => ?_) (fun c23 => ?_)
              · have f24 : iv (-2) (-2) (h 33 ((FX3_lockIn_oc1 (FX3_slotOf a0 (h 3 (((FX5_firstPart_n a0 (h 28 (a0.toNatClampNeg)) h) + 1).toNatClampNeg))) h).toNatClampNeg)) := iv_eql (iv_any (h 33 ((FX3_lockIn_oc1 (FX3_slotOf a0 (h 3 (((FX5_firstPart_n a0 (h 28 (a0.toNatClampNeg)) h) + 1).toNatClampNeg))) h).toNatClampNeg))) (iv_lit (lo := (-2)) (hi := (-2)) (x := (-2)) rfl) c23 rfl
                unfold PX3_canGo_oc1_137 FX3_canGo_oc1_137
                exact ⟨trivial, (iv_w (c := 0) (d := 1) (iv_lit (lo := 1) (hi := 1) (x := 1) rfl) rfl), fun _ => f7⟩
              · refine sf_n (iv_in f22 rfl) ?_
                refine sf_if (fun c25 => ?_) (fun c25 => ?_)
                · have f26 : iv 0 3 (h 33 ((FX3_lockIn_oc1 (FX3_slotOf a0 (h 3 (((FX5_firstPart_n a0 (h 28 (a0.toNatClampNeg)) h) + 1).toNatClampNeg))) h).toNatClampNeg)) := iv_eql (iv_any (h 33 ((FX3_lockIn_oc1 (FX3_slotOf a0 (h 3 (((FX5_firstPart_n a0 (h 28 (a0.toNatClampNeg)) h) + 1).toNatClampNeg))) h).toNatClampNeg))) f_a0 c25 rfl
                  unfold PX3_canGo_oc1_137 FX3_canGo_oc1_137
                  exact ⟨trivial, (iv_w (c := 0) (d := 1) (iv_lit (lo := 1) (hi := 1) (x := 1) rfl) rfl), fun _ => f7⟩
                · exact ⟨trivial, (iv_w (c := 0) (d := 1) (iv_lit (lo := 0) (hi := 0) (x := 0) rfl) rfl), fun z => absurd rfl z⟩
          · exact ⟨trivial, (iv_w (c := 0) (d := 1) (iv_lit (lo := 1) (hi := 1) (x := 1) rfl) rfl), fun _ => f7⟩
      · have f27 : iv 1 1 (FX3_hasEnded_oc1 a0 h) := iv_nel s5.2.1 c6 rfl
        exact ⟨trivial, (iv_w (c := 0) (d := 1) (iv_lit (lo := 0) (hi := 0) (x := 0) rfl) rfl), fun z => absurd rfl z⟩

-- X3_hold_oc1
set_option maxRecDepth 100000 in
set_option maxHeartbeats 4000000 in
theorem SX3_hold_oc1 {z : zT} (a0 : Int32) (a1 : Int32) (a2 : Int32) (h : ph_H) (I : IC z h) (f_a0 : iv 0 27 a0) (f_a1 : iv 0 3 a1) (q : a1 = 0 ∨ iv 0 11 a2) : PX3_hold_oc1 a0 a1 a2 h ∧ QC z 0 0 (FX3_hold_oc1 a0 a1 a2 h) := by
  unfold PX3_hold_oc1 FX3_hold_oc1
  refine sf_n (iv_in f_a0 rfl) ?_
  refine sf_n (iv_in f_a0 rfl) ?_
  have I2 : IC z (hs (hs h 26 a0.toNatClampNeg a1) 27 a0.toNatClampNeg a2) := ICkv_o I a0.toNatClampNeg f_a1 q
  exact ⟨trivial, QC_mk (iv_lit (lo := 0) (hi := 0) (x := 0) rfl) I2⟩

-- X3_getCell_oc1
set_option maxRecDepth 100000 in
set_option maxHeartbeats 4000000 in
theorem SX3_getCell_oc1 {z : zT} (a0 : Int32) (a1 : Int32) (h : ph_H) (I : IC z h) (f_a0 : iv 0 27 a0) (f_a1 : iv 0 11 a1) : PX3_getCell_oc1 a0 a1 h ∧ QC z 0 0 (FX3_getCell_oc1 a0 a1 h) := by
  unfold PX3_getCell_oc1 FX3_getCell_oc1
  have I1 : IC z (hs h 25 14 a1) := ICs I (k := 25) (i := 14) (v := a1) (iv_any a1) rfl
  refine sf_n (iv_in f_a1 rfl) ?_
  have f2 : iv 0 3 (h 26 (a1.toNatClampNeg)) := ICv I 26 _
  refine sf_n (iv_in f_a1 rfl) ?_
  have s3 := SX3_hold_oc1 (z := z) a0 (h 26 (a1.toNatClampNeg)) (h 27 (a1.toNatClampNeg)) (hs h 25 14 a1) I1 f_a0 f2 (I.2.1.2.1 _)
  refine sf_n s3.1 ?_
  exact ⟨trivial, QC_mk s3.2.1 s3.2.2⟩

-- X3_goTo_oc1
set_option maxRecDepth 100000 in
set_option maxHeartbeats 4000000 in
theorem SX3_goTo_oc1 {z : zT} (a0 : Int32) (h : ph_H) (I : IC z h) : PX3_goTo_oc1 a0 h ∧ QC z 0 0 (FX3_goTo_oc1 a0 h) := by
  unfold PX3_goTo_oc1 FX3_goTo_oc1
  have I1 : IC z (hs h 25 13 a0) := ICs I (k := 25) (i := 13) (v := a0) (iv_any a0) rfl
  exact ⟨trivial, QC_mk (iv_lit (lo := 0) (hi := 0) (x := 0) rfl) I1⟩

-- X3_goUnless_oc1
set_option maxRecDepth 100000 in
set_option maxHeartbeats 4000000 in
theorem SX3_goUnless_oc1 {z : zT} (a0 : Int32) (a1 : Int32) (h : ph_H) (I : IC z h) (f_a0 : iv 0 27 a0) : PX3_goUnless_oc1 a0 a1 h ∧ QC z 0 1 (FX3_goUnless_oc1 a0 a1 h) := by
  unfold PX3_goUnless_oc1 FX3_goUnless_oc1
  refine sf_n (iv_in f_a0 rfl) ?_
  have f1 : iv 0 3 (h 26 (a0.toNatClampNeg)) := ICv I 26 _
  refine sf_if (fun c2 => ?_) (fun c2 => ?_)
  · have f3 : iv 0 0 (h 26 (a0.toNatClampNeg)) := iv_eql f1 (iv_lit (lo := 0) (hi := 0) (x := 0) rfl) c2 rfl
    refine sf_n (iv_in f_a0 rfl) ?_
    refine sf_if (fun c4 => ?_) (fun c4 => ?_)
    · have f5 : iv 0 0 (h 27 (a0.toNatClampNeg)) := iv_eql (iv_any (h 27 (a0.toNatClampNeg))) (iv_lit (lo := 0) (hi := 0) (x := 0) rfl) c4 rfl
      have s6 := SX3_goTo_oc1 (z := z) a1 h I
      refine sf_n s6.1 ?_
      unfold PX3_goUnless_oc1_25 FX3_goUnless_oc1_25
      exact ⟨trivial, QC_mk (iv_w (c := 0) (d := 1) s6.2.1 rfl) s6.2.2⟩
    · exact ⟨trivial, QC_mk (iv_w (c := 0) (d := 1) (iv_lit (lo := 0) (hi := 0) (x := 0) rfl) rfl) I⟩
  · have f7 : iv 1 3 (h 26 (a0.toNatClampNeg)) := iv_nel f1 c2 rfl
    have f8 : iv 0 11 (h 27 (a0.toNatClampNeg)) := KVn_o I f7 rfl
    exact ⟨trivial, QC_mk (iv_w (c := 0) (d := 1) (iv_lit (lo := 1) (hi := 1) (x := 1) rfl) rfl) I⟩

-- X3_free_oc1
set_option maxRecDepth 100000 in
set_option maxHeartbeats 4000000 in
theorem SX3_free_oc1 {z : zT} (a0 : Int32) (h : ph_H) (I : IC z h) (f_a0 : iv 0 11 a0) : PX3_free_oc1 a0 h ∧ QC z 0 0 (FX3_free_oc1 a0 h) := by
  unfold PX3_free_oc1 FX3_free_oc1
  refine sf_n (iv_in f_a0 rfl) ?_
  have I1 : IC z (hs h 33 a0.toNatClampNeg (-2)) := ICs I (k := 33) (i := a0.toNatClampNeg) (v := (-2)) (iv_any (-2)) rfl
  have I2 : IC z (hs (hs h 33 a0.toNatClampNeg (-2)) 25 16 2) := ICs I1 (k := 25) (i := 16) (v := 2) (iv_w (c := 0) (d := 4) (iv_lit (lo := 2) (hi := 2) (x := 2) rfl) rfl) rfl
  have I3 : IC z (hs (hs (hs h 33 a0.toNatClampNeg (-2)) 25 16 2) 25 17 a0) := ICs I2 (k := 25) (i := 17) (v := a0) f_a0 rfl
  exact ⟨trivial, QC_mk (iv_lit (lo := 0) (hi := 0) (x := 0) rfl) I3⟩

-- X3_leaveLock_oc1
set_option maxRecDepth 100000 in
set_option maxHeartbeats 4000000 in
theorem SX3_leaveLock_oc1 {z : zT} (a0 : Int32) (a1 : Int32) (h : ph_H) (I : IC z h) (f_a1 : iv 0 27 a1) : PX3_leaveLock_oc1 a0 a1 h ∧ QC z 0 6 (FX3_leaveLock_oc1 a0 a1 h) := by
  unfold PX3_leaveLock_oc1 FX3_leaveLock_oc1
  have s1 := SX3_lockIn_oc1 (z := z) a1 h I f_a1
  refine sf_n s1.1 ?_
  refine sf_if (fun c2 => ?_) (fun c2 => ?_)
  · have f3 : iv 0 11 (FX3_lockIn_oc1 a1 h) := iv_ler s1.2 (iv_lit (lo := 0) (hi := 0) (x := 0) rfl) c2 rfl
    refine sf_n (iv_in f3 rfl) ?_
    refine sf_if (fun c4 => ?_) (fun c4 => ?_)
    · have s5 := SX3_free_oc1 (z := z) (FX3_lockIn_oc1 a1 h) h I f3
      refine sf_n s5.1 ?_
      exact ⟨trivial, QC_mk (iv_w (c := 0) (d := 6) s5.2.1 rfl) s5.2.2⟩
    · exact ⟨trivial, QC_mk (iv_w (c := 0) (d := 6) (iv_lit (lo := 6) (hi := 6) (x := 6) rfl) rfl) I⟩
  · have f6 : iv (-1) (-1) (FX3_lockIn_oc1 a1 h) := iv_ltl s1.2 (iv_lit (lo := 0) (hi := 0) (x := 0) rfl) (nle c2) rfl
    exact ⟨trivial, QC_mk (iv_w (c := 0) (d := 6) (iv_lit (lo := 1) (hi := 1) (x := 1) rfl) rfl) I⟩

-- X3_gateIn_oc1
set_option maxRecDepth 100000 in
set_option maxHeartbeats 4000000 in
theorem SX3_gateIn_oc1 {z : zT} (a0 : Int32) (h : ph_H) (I : IC z h) (f_a0 : iv 0 27 a0) : PX3_gateIn_oc1 a0 h ∧ iv (-1) 11 (FX3_gateIn_oc1 a0 h) := by
  unfold PX3_gateIn_oc1 FX3_gateIn_oc1
  refine sf_n (iv_in f_a0 rfl) ?_
  have f1 : iv 0 3 (h 26 (a0.toNatClampNeg)) := ICv I 26 _
  refine sf_if (fun c2 => ?_) (fun c2 => ?_)
  · have f3 : iv 3 3 (h 26 (a0.toNatClampNeg)) := iv_eql f1 (iv_lit (lo := 3) (hi := 3) (x := 3) rfl) c2 rfl
    have f4 : iv 0 11 (h 27 (a0.toNatClampNeg)) := KVn_o I f3 rfl
    refine sf_n (iv_in f_a0 rfl) ?_
    exact ⟨trivial, (iv_w (c := (-1)) (d := 11) f4 rfl)⟩
  · have f5 : iv 0 2 (h 26 (a0.toNatClampNeg)) := iv_nel f1 c2 rfl
    exact ⟨trivial, (iv_w (c := (-1)) (d := 11) (iv_lit (lo := (-1)) (hi := (-1)) (x := (-1)) rfl) rfl)⟩

-- X3_lieDown_oc1
set_option maxRecDepth 100000 in
set_option maxHeartbeats 4000000 in
theorem SX3_lieDown_oc1 {z : zT} (a0 : Int32) (a1 : Int32) (h : ph_H) (I : IC z h) (f_a0 : iv 0 3 a0) (f_a1 : iv 0 27 a1) : PX3_lieDown_oc1 a0 a1 h ∧ QC z 0 6 (FX3_lieDown_oc1 a0 a1 h) := by
  unfold PX3_lieDown_oc1 FX3_lieDown_oc1
  have s1 := SX3_gateIn_oc1 (z := z) a1 h I f_a1
  refine sf_n s1.1 ?_
  refine sf_if (fun c2 => ?_) (fun c2 => ?_)
  · have f3 : iv 0 11 (FX3_gateIn_oc1 a1 h) := iv_ler s1.2 (iv_lit (lo := 0) (hi := 0) (x := 0) rfl) c2 rfl
    refine sf_n (iv_in f3 rfl) ?_
    refine sf_if (fun c4 => ?_) (fun c4 => ?_)
    · have f5 : iv 0 3 (h 33 ((FX3_gateIn_oc1 a1 h).toNatClampNeg)) := iv_eql (iv_any (h 33 ((FX3_gateIn_oc1 a1 h).toNatClampNeg))) f_a0 c4 rfl
      refine sf_n (iv_in f_a0 rfl) ?_
      have I6 : IC z (hs h 29 a0.toNatClampNeg 2) := ICs I (k := 29) (i := a0.toNatClampNeg) (v := 2) (iv_any 2) rfl
      refine sf_n (iv_in f_a0 rfl) ?_
      have I7 : IC z (hs (hs h 29 a0.toNatClampNeg 2) 30 a0.toNatClampNeg (FX3_gateIn_oc1 a1 h)) := ICs I6 (k := 30) (i := a0.toNatClampNeg) (v := (FX3_gateIn_oc1 a1 h)) f3 rfl
      refine sf_n (iv_in f_a0 rfl) ?_
      have I8 : IC z (hs (hs (hs h 29 a0.toNatClampNeg 2) 30 a0.toNatClampNeg (FX3_gateIn_oc1 a1 h)) 25 13 (h 28 (a0.toNatClampNeg))) := ICs I7 (k := 25) (i := 13) (v := (h 28 (a0.toNatClampNeg))) (iv_any (h 28 (a0.toNatClampNeg))) rfl
      have s9 := SX3_free_oc1 (z := z) (FX3_gateIn_oc1 a1 h) (hs (hs (hs h 29 a0.toNatClampNeg 2) 30 a0.toNatClampNeg (FX3_gateIn_oc1 a1 h)) 25 13 (h 28 (a0.toNatClampNeg))) I8 f3
      refine sf_n s9.1 ?_
      exact ⟨trivial, QC_mk (iv_w (c := 0) (d := 6) s9.2.1 rfl) s9.2.2⟩
    · exact ⟨trivial, QC_mk (iv_w (c := 0) (d := 6) (iv_lit (lo := 6) (hi := 6) (x := 6) rfl) rfl) I⟩
  · have f10 : iv (-1) (-1) (FX3_gateIn_oc1 a1 h) := iv_ltl s1.2 (iv_lit (lo := 0) (hi := 0) (x := 0) rfl) (nle c2) rfl
    exact ⟨trivial, QC_mk (iv_w (c := 0) (d := 6) (iv_lit (lo := 1) (hi := 1) (x := 1) rfl) rfl) I⟩

-- X3_makeThing_oc1
set_option maxRecDepth 100000 in
set_option maxHeartbeats 4000000 in
theorem SX3_makeThing_oc1 {z : zT} (a0 : Int32) (a1 : Int32) (a2 : Int32) (h : ph_H) (I : IC z h) (f_a0 : iv 0 27 a0) (f_a1 : iv 0 3 a1) (f_a2 : iv 0 16 a2) (g_25_10 : iv 0 11 (h 25 10)) : PX3_makeThing_oc1 a0 a1 a2 h ∧ QC z 0 0 (FX3_makeThing_oc1 a0 a1 a2 h) := by
  unfold PX3_makeThing_oc1 FX3_makeThing_oc1
  have f1 : iv 1 12 ((h 25 10) + 1) := iv_add g_25_10 (iv_lit (lo := 1) (hi := 1) (x := 1) rfl) rfl
  have I2 : IC z (hs h 25 10 ((h 25 10) + 1)) := ICs I (k := 25) (i := 10) (v := ((h 25 10) + 1)) (iv_w (c := 0) (d := 12) f1 rfl) rfl
  refine sf_n (iv_in g_25_10 rfl) ?_
  have I3 : IC z (hs (hs h 25 10 ((h 25 10) + 1)) 31 (h 25 10).toNatClampNeg a1) := ICs I2 (k := 31) (i := (h 25 10).toNatClampNeg) (v := a1) (iv_any a1) rfl
  refine sf_n (iv_in g_25_10 rfl) ?_
  have I4 : IC z (hs (hs (hs h 25 10 ((h 25 10) + 1)) 31 (h 25 10).toNatClampNeg a1) 32 (h 25 10).toNatClampNeg a2) := ICs I3 (k := 32) (i := (h 25 10).toNatClampNeg) (v := a2) f_a2 rfl
  refine sf_n (iv_in g_25_10 rfl) ?_
  have I5 : IC z (hs (hs (hs (hs h 25 10 ((h 25 10) + 1)) 31 (h 25 10).toNatClampNeg a1) 32 (h 25 10).toNatClampNeg a2) 33 (h 25 10).toNatClampNeg (-2)) := ICs I4 (k := 33) (i := (h 25 10).toNatClampNeg) (v := (-2)) (iv_any (-2)) rfl
  refine sf_n (iv_in f_a0 rfl) ?_
  refine sf_n (iv_in f_a0 rfl) ?_
  have I7 : IC z (hs (hs (hs (hs (hs (hs h 25 10 ((h 25 10) + 1)) 31 (h 25 10).toNatClampNeg a1) 32 (h 25 10).toNatClampNeg a2) 33 (h 25 10).toNatClampNeg (-2)) 26 a0.toNatClampNeg a1) 27 a0.toNatClampNeg (h 25 10)) := ICkv_o I5 a0.toNatClampNeg f_a1 (Or.inr g_25_10)
  exact ⟨trivial, QC_mk (iv_lit (lo := 0) (hi := 0) (x := 0) rfl) I7⟩

-- X3_makeLock_oc1
set_option maxRecDepth 100000 in
set_option maxHeartbeats 4000000 in
theorem SX3_makeLock_oc1 {z : zT} (a0 : Int32) (a1 : Int32) (h : ph_H) (I : IC z h) (f_a0 : iv 0 27 a0) (f_a1 : iv 0 1 a1) : PX3_makeLock_oc1 a0 a1 h ∧ QC z 0 3 (FX3_makeLock_oc1 a0 a1 h) := by
  unfold PX3_makeLock_oc1 FX3_makeLock_oc1
  have f1 : iv 0 12 (h 25 10) := ICv I 25 _
  refine sf_if (fun c2 => ?_) (fun c2 => ?_)
  · have f3 : iv 0 11 (h 25 10) := iv_ltl f1 (iv_lit (lo := 12) (hi := 12) (x := 12) rfl) c2 rfl
    refine sf_if (fun c4 => ?_) (fun c4 => ?_)
    · have f5 : iv 0 0 a1 := iv_eql f_a1 (iv_lit (lo := 0) (hi := 0) (x := 0) rfl) c4 rfl
      unfold PX3_makeLock_oc1_22 FX3_makeLock_oc1_22
      have s6 := SX3_makeThing_oc1 (z := z) a0 2 0 h I f_a0 (iv_w (c := 0) (d := 3) (iv_lit (lo := 2) (hi := 2) (x := 2) rfl) rfl) (iv_w (c := 0) (d := 16) (iv_lit (lo := 0) (hi := 0) (x := 0) rfl) rfl) f3
      refine sf_n s6.1 ?_
      exact ⟨trivial, QC_mk (iv_w (c := 0) (d := 3) s6.2.1 rfl) s6.2.2⟩
    · have f7 : iv 1 1 a1 := iv_nel f_a1 c4 rfl
      unfold PX3_makeLock_oc1_22 FX3_makeLock_oc1_22
      have s8 := SX3_makeThing_oc1 (z := z) a0 3 0 h I f_a0 (iv_w (c := 0) (d := 3) (iv_lit (lo := 3) (hi := 3) (x := 3) rfl) rfl) (iv_w (c := 0) (d := 16) (iv_lit (lo := 0) (hi := 0) (x := 0) rfl) rfl) f3
      refine sf_n s8.1 ?_
      exact ⟨trivial, QC_mk (iv_w (c := 0) (d := 3) s8.2.1 rfl) s8.2.2⟩
  · have f9 : iv 12 12 (h 25 10) := iv_ler f1 (iv_lit (lo := 12) (hi := 12) (x := 12) rfl) (nlt c2) rfl
    exact ⟨trivial, QC_mk (iv_w (c := 0) (d := 3) (iv_lit (lo := 3) (hi := 3) (x := 3) rfl) rfl) I⟩

-- X3_makeRow_oc1
set_option maxRecDepth 100000 in
set_option maxHeartbeats 4000000 in
theorem SX3_makeRow_oc1_44 {z : zT} : ∀ (q : Nat) (x1 : Int32) (x3 : Int32) (x4 : Int32) (h : ph_H), IC z h → iv 0 27 x1 → iv 0 16 x3 → iv 0 16 x4 → iv 0 11 (h 25 10) → 16 - (x4).toInt < ((q : Nat) : Int) → PX3_makeRow_oc1_44  q x1 x3 x4 h ∧ QC z 0 3 (FX3_makeRow_oc1_44  q x1 x3 x4 h) := by
  intro q
  induction q with
  | zero =>
    intro x1 x3 x4 h I f_x1 f_x3 f_x4 g_25_10 mq
    exact mu_zu f_x4 mq rfl
  | succ q ih =>
    intro x1 x3 x4 h I f_x1 f_x3 f_x4 g_25_10 mq
    unfold PX3_makeRow_oc1_44 FX3_makeRow_oc1_44
    refine sf_if (fun c1 => ?_) (fun c1 => ?_)
    · have s2 := SX3_makeThing_oc1 (z := z) x1 1 x3 h I f_x1 (iv_w (c := 0) (d := 3) (iv_lit (lo := 1) (hi := 1) (x := 1) rfl) rfl) f_x3 g_25_10
      refine sf_n s2.1 ?_
      exact ⟨trivial, QC_mk (iv_w (c := 0) (d := 3) s2.2.1 rfl) s2.2.2⟩
    · have f3 : iv 0 15 x4 := iv_ltl f_x4 f_x3 (nle c1) rfl
      have f4 : iv 1 16 x3 := iv_ltr f_x3 f_x4 (nle c1) rfl
      have f5 : iv 0 176 ((h 25 10) * 16) := iv_mulr (c := 16) rfl g_25_10 rfl
      have f6 : iv 0 191 (((h 25 10) * 16) + x4) := iv_add f5 f3 rfl
      refine sf_n (iv_in f6 rfl) ?_
      have I7 : IC z (hs h 34 (((h 25 10) * 16) + x4).toNatClampNeg 0) := ICs I (k := 34) (i := (((h 25 10) * 16) + x4).toNatClampNeg) (v := 0) (iv_any 0) rfl
      have f8 : iv 1 16 (x4 + 1) := iv_add f3 (iv_lit (lo := 1) (hi := 1) (x := 1) rfl) rfl
      exact ih x1 x3 (x4 + 1) (hs h 34 (((h 25 10) * 16) + x4).toNatClampNeg 0) I7 f_x1 (iv_w (c := 0) (d := 16) f4 rfl) (iv_w (c := 0) (d := 16) f8 rfl) (iv_r (hz_k (by decide)) g_25_10) (mu_up f3 mq rfl)
set_option maxRecDepth 100000 in
set_option maxHeartbeats 4000000 in
theorem SX3_makeRow_oc1 {z : zT} (a0 : Int32) (a1 : Int32) (h : ph_H) (I : IC z h) (f_a0 : iv 0 27 a0) (f_a1 : iv 0 27 a1) : PX3_makeRow_oc1 a0 a1 h ∧ QC z 0 3 (FX3_makeRow_oc1 a0 a1 h) := by
  unfold PX3_makeRow_oc1 FX3_makeRow_oc1
  refine sf_n (iv_in f_a1 rfl) ?_
  have f1 : iv 0 3 (h 26 (a1.toNatClampNeg)) := ICv I 26 _
  refine sf_if (fun c2 => ?_) (fun c2 => ?_)
  · have f3 : iv 0 0 (h 26 (a1.toNatClampNeg)) := iv_eql f1 (iv_lit (lo := 0) (hi := 0) (x := 0) rfl) c2 rfl
    refine sf_n (iv_in f_a1 rfl) ?_
    refine sf_if (fun c4 => ?_) (fun c4 => ?_)
    · have f5 : iv 0 2147483647 (h 27 (a1.toNatClampNeg)) := iv_ler (iv_any (h 27 (a1.toNatClampNeg))) (iv_lit (lo := 0) (hi := 0) (x := 0) rfl) c4 rfl
      refine sf_if (fun c6 => ?_) (fun c6 => ?_)
      · have f7 : iv 17 2147483647 (h 27 (a1.toNatClampNeg)) := iv_ltr f5 (iv_lit (lo := 16) (hi := 16) (x := 16) rfl) c6 rfl
        exact ⟨trivial, QC_mk (iv_w (c := 0) (d := 3) (iv_lit (lo := 3) (hi := 3) (x := 3) rfl) rfl) I⟩
      · have f8 : iv 0 16 (h 27 (a1.toNatClampNeg)) := iv_lel f5 (iv_lit (lo := 16) (hi := 16) (x := 16) rfl) (nlt c6) rfl
        have f9 : iv 0 12 (h 25 10) := ICv I 25 _
        refine sf_if (fun c10 => ?_) (fun c10 => ?_)
        · have f11 : iv 0 11 (h 25 10) := iv_ltl f9 (iv_lit (lo := 12) (hi := 12) (x := 12) rfl) c10 rfl
          exact SX3_makeRow_oc1_44 2000 a0 (h 27 (a1.toNatClampNeg)) 0 h I f_a0 f8 (iv_w (c := 0) (d := 16) (iv_lit (lo := 0) (hi := 0) (x := 0) rfl) rfl) f11 (mu_0u (iv_lit (lo := 0) (hi := 0) (x := 0) rfl) rfl)
        · have f12 : iv 12 12 (h 25 10) := iv_ler f9 (iv_lit (lo := 12) (hi := 12) (x := 12) rfl) (nlt c10) rfl
          exact ⟨trivial, QC_mk (iv_w (c := 0) (d := 3) (iv_lit (lo := 3) (hi := 3) (x := 3) rfl) rfl) I⟩
    · have f13 : iv (-2147483648) (-1) (h 27 (a1.toNatClampNeg)) := iv_ltl (iv_any (h 27 (a1.toNatClampNeg))) (iv_lit (lo := 0) (hi := 0) (x := 0) rfl) (nle c4) rfl
      exact ⟨trivial, QC_mk (iv_w (c := 0) (d := 3) (iv_lit (lo := 2) (hi := 2) (x := 2) rfl) rfl) I⟩
  · have f14 : iv 1 3 (h 26 (a1.toNatClampNeg)) := iv_nel f1 c2 rfl
    have f15 : iv 0 11 (h 27 (a1.toNatClampNeg)) := KVn_o I f14 rfl
    exact ⟨trivial, QC_mk (iv_w (c := 0) (d := 3) (iv_lit (lo := 1) (hi := 1) (x := 1) rfl) rfl) I⟩
