-- X3_readRow_oc2
set_option maxRecDepth 100000 in
set_option maxHeartbeats 4000000 in
theorem SX3_readRow_oc2 {z : zT} (a0 : Int32) (a1 : Int32) (a2 : Int32) (h : ph_H) (I : IC z h) (f_a0 : iv 0 27 a0) (f_a1 : iv 0 27 a1) (f_a2 : iv 0 27 a2) : PX3_readRow_oc2 a0 a1 a2 h ∧ QC z 0 4 (FX3_readRow_oc2 a0 a1 a2 h) := by
  unfold PX3_readRow_oc2 FX3_readRow_oc2
  refine sf_n (iv_in f_a1 rfl) ?_
  have f1 : iv 0 3 (h 26 (a1.toNatClampNeg)) := ICv I 26 _
  refine sf_if (fun c2 => ?_) (fun c2 => ?_)
  · have f3 : iv 1 1 (h 26 (a1.toNatClampNeg)) := iv_eql f1 (iv_lit (lo := 1) (hi := 1) (x := 1) rfl) c2 rfl
    have f4 : iv 0 11 (h 27 (a1.toNatClampNeg)) := KVn_o I f3 rfl
    refine sf_n (iv_in f_a2 rfl) ?_
    have f5 : iv 0 3 (h 26 (a2.toNatClampNeg)) := ICv I 26 _
    refine sf_if (fun c6 => ?_) (fun c6 => ?_)
    · have f7 : iv 0 0 (h 26 (a2.toNatClampNeg)) := iv_eql f5 (iv_lit (lo := 0) (hi := 0) (x := 0) rfl) c6 rfl
      refine sf_n (iv_in f_a1 rfl) ?_
      refine sf_n (iv_in f_a2 rfl) ?_
      have s8 := SX3_hasRowPlace_oc2 (z := z) (h 27 (a1.toNatClampNeg)) (h 27 (a2.toNatClampNeg)) h I
      refine sf_n s8.1 ?_
      refine sf_if (fun c9 => ?_) (fun c9 => ?_)
      · have f10 : iv 0 0 (FX3_hasRowPlace_oc2 (h 27 (a1.toNatClampNeg)) (h 27 (a2.toNatClampNeg)) h) := iv_eql s8.2.1 (iv_lit (lo := 0) (hi := 0) (x := 0) rfl) c9 rfl
        exact ⟨trivial, QC_mk (iv_w (c := 0) (d := 4) (iv_lit (lo := 4) (hi := 4) (x := 4) rfl) rfl) I⟩
      · have f11 : iv 0 15 (h 27 (a2.toNatClampNeg)) := iv_and (iv_any _) (s8.2.2 c9).2 rfl
        have f12 : iv 1 1 (FX3_hasRowPlace_oc2 (h 27 (a1.toNatClampNeg)) (h 27 (a2.toNatClampNeg)) h) := iv_nel s8.2.1 c9 rfl
        have f13 : iv 0 220 ((h 27 (a1.toNatClampNeg)) * 20) := iv_mulr (c := 20) rfl f4 rfl
        have f14 : iv 100 320 (100 + ((h 27 (a1.toNatClampNeg)) * 20)) := iv_add (iv_lit (lo := 100) (hi := 100) (x := 100) rfl) f13 rfl
        have f15 : iv 100 335 ((100 + ((h 27 (a1.toNatClampNeg)) * 20)) + (h 27 (a2.toNatClampNeg))) := iv_add f14 f11 rfl
        have I16 : IC z (hs h 25 14 ((100 + ((h 27 (a1.toNatClampNeg)) * 20)) + (h 27 (a2.toNatClampNeg)))) := ICs I (k := 25) (i := 14) (v := ((100 + ((h 27 (a1.toNatClampNeg)) * 20)) + (h 27 (a2.toNatClampNeg)))) (iv_any ((100 + ((h 27 (a1.toNatClampNeg)) * 20)) + (h 27 (a2.toNatClampNeg)))) rfl
        have f17 : iv 0 176 ((h 27 (a1.toNatClampNeg)) * 16) := iv_mulr (c := 16) rfl f4 rfl
        have f18 : iv 0 191 (((h 27 (a1.toNatClampNeg)) * 16) + (h 27 (a2.toNatClampNeg))) := iv_add f17 f11 rfl
        refine sf_n (iv_in f18 rfl) ?_
        have s19 := SX3_hold_oc2 (z := z) a0 0 (h 34 ((((h 27 (a1.toNatClampNeg)) * 16) + (h 27 (a2.toNatClampNeg))).toNatClampNeg)) (hs h 25 14 ((100 + ((h 27 (a1.toNatClampNeg)) * 20)) + (h 27 (a2.toNatClampNeg)))) I16 f_a0 (iv_w (c := 0) (d := 3) (iv_lit (lo := 0) (hi := 0) (x := 0) rfl) rfl) (Or.inl rfl)
        refine sf_n s19.1 ?_
        exact ⟨trivial, QC_mk (iv_w (c := 0) (d := 4) s19.2.1 rfl) s19.2.2⟩
    · have f20 : iv 1 3 (h 26 (a2.toNatClampNeg)) := iv_nel f5 c6 rfl
      have f21 : iv 0 11 (h 27 (a2.toNatClampNeg)) := KVn_o I f20 rfl
      exact ⟨trivial, QC_mk (iv_w (c := 0) (d := 4) (iv_lit (lo := 1) (hi := 1) (x := 1) rfl) rfl) I⟩
  · exact ⟨trivial, QC_mk (iv_w (c := 0) (d := 4) (iv_lit (lo := 1) (hi := 1) (x := 1) rfl) rfl) I⟩

-- X3_bothNumbers_oc2
set_option maxRecDepth 100000 in
set_option maxHeartbeats 4000000 in
theorem SX3_bothNumbers_oc2 {z : zT} (a0 : Int32) (a1 : Int32) (h : ph_H) (I : IC z h) (f_a0 : iv 0 27 a0) (f_a1 : iv 0 27 a1) : PX3_bothNumbers_oc2 a0 a1 h ∧ iv 0 1 (FX3_bothNumbers_oc2 a0 a1 h) := by
  unfold PX3_bothNumbers_oc2 FX3_bothNumbers_oc2
  refine sf_n (iv_in f_a0 rfl) ?_
  have f1 : iv 0 3 (h 26 (a0.toNatClampNeg)) := ICv I 26 _
  refine sf_if (fun c2 => ?_) (fun c2 => ?_)
  · have f3 : iv 0 0 (h 26 (a0.toNatClampNeg)) := iv_eql f1 (iv_lit (lo := 0) (hi := 0) (x := 0) rfl) c2 rfl
    refine sf_n (iv_in f_a1 rfl) ?_
    have f4 : iv 0 3 (h 26 (a1.toNatClampNeg)) := ICv I 26 _
    refine sf_if (fun c5 => ?_) (fun c5 => ?_)
    · have f6 : iv 0 0 (h 26 (a1.toNatClampNeg)) := iv_eql f4 (iv_lit (lo := 0) (hi := 0) (x := 0) rfl) c5 rfl
      exact ⟨trivial, (iv_w (c := 0) (d := 1) (iv_lit (lo := 1) (hi := 1) (x := 1) rfl) rfl)⟩
    · have f7 : iv 1 3 (h 26 (a1.toNatClampNeg)) := iv_nel f4 c5 rfl
      have f8 : iv 0 11 (h 27 (a1.toNatClampNeg)) := KVn_o I f7 rfl
      exact ⟨trivial, (iv_w (c := 0) (d := 1) (iv_lit (lo := 0) (hi := 0) (x := 0) rfl) rfl)⟩
  · have f9 : iv 1 3 (h 26 (a0.toNatClampNeg)) := iv_nel f1 c2 rfl
    have f10 : iv 0 11 (h 27 (a0.toNatClampNeg)) := KVn_o I f9 rfl
    exact ⟨trivial, (iv_w (c := 0) (d := 1) (iv_lit (lo := 0) (hi := 0) (x := 0) rfl) rfl)⟩

-- X3_reckon_oc2
set_option maxRecDepth 100000 in
set_option maxHeartbeats 4000000 in
theorem SX3_reckon_oc2 {z : zT} (a0 : Int32) (a1 : Int32) (a2 : Int32) (h : ph_H) (I : IC z h) (f_a1 : iv 0 27 a1) (f_a2 : iv 0 27 a2) : PX3_reckon_oc2 a0 a1 a2 h ∧ QC z 0 1 (FX3_reckon_oc2 a0 a1 a2 h) := by
  unfold PX3_reckon_oc2 FX3_reckon_oc2
  have s1 := SX3_bothNumbers_oc2 (z := z) a1 a2 h I f_a1 f_a2
  refine sf_n s1.1 ?_
  refine sf_if (fun c2 => ?_) (fun c2 => ?_)
  · have f3 : iv 0 0 (FX3_bothNumbers_oc2 a1 a2 h) := iv_eql s1.2 (iv_lit (lo := 0) (hi := 0) (x := 0) rfl) c2 rfl
    exact ⟨trivial, QC_mk (iv_w (c := 0) (d := 1) (iv_lit (lo := 1) (hi := 1) (x := 1) rfl) rfl) I⟩
  · have f4 : iv 1 1 (FX3_bothNumbers_oc2 a1 a2 h) := iv_nel s1.2 c2 rfl
    refine sf_n (iv_in f_a1 rfl) ?_
    refine sf_n (iv_in f_a2 rfl) ?_
    refine sf_if (fun c5 => ?_) (fun c5 => ?_)
    · have f6 : iv 3 3 a0 := iv_eql (iv_any a0) (iv_lit (lo := 3) (hi := 3) (x := 3) rfl) c5 rfl
      unfold PX3_reckon_oc2_58 FX3_reckon_oc2_58
      have s7 := SX3_hold_oc2 (z := z) a1 0 ((h 27 (a1.toNatClampNeg)) + (h 27 (a2.toNatClampNeg))) h I f_a1 (iv_w (c := 0) (d := 3) (iv_lit (lo := 0) (hi := 0) (x := 0) rfl) rfl) (Or.inl rfl)
      refine sf_n s7.1 ?_
      exact ⟨trivial, QC_mk (iv_w (c := 0) (d := 1) s7.2.1 rfl) s7.2.2⟩
    · refine sf_if (fun c8 => ?_) (fun c8 => ?_)
      · have f9 : iv 4 4 a0 := iv_eql (iv_any a0) (iv_lit (lo := 4) (hi := 4) (x := 4) rfl) c8 rfl
        unfold PX3_reckon_oc2_58 FX3_reckon_oc2_58
        have s10 := SX3_hold_oc2 (z := z) a1 0 ((h 27 (a1.toNatClampNeg)) - (h 27 (a2.toNatClampNeg))) h I f_a1 (iv_w (c := 0) (d := 3) (iv_lit (lo := 0) (hi := 0) (x := 0) rfl) rfl) (Or.inl rfl)
        refine sf_n s10.1 ?_
        exact ⟨trivial, QC_mk (iv_w (c := 0) (d := 1) s10.2.1 rfl) s10.2.2⟩
      · unfold PX3_reckon_oc2_58 FX3_reckon_oc2_58
        have s11 := SX3_hold_oc2 (z := z) a1 0 ((h 27 (a1.toNatClampNeg)) * (h 27 (a2.toNatClampNeg))) h I f_a1 (iv_w (c := 0) (d := 3) (iv_lit (lo := 0) (hi := 0) (x := 0) rfl) rfl) (Or.inl rfl)
        refine sf_n s11.1 ?_
        exact ⟨trivial, QC_mk (iv_w (c := 0) (d := 1) s11.2.1 rfl) s11.2.2⟩

-- X3_startThread_oc2
set_option maxRecDepth 100000 in
set_option maxHeartbeats 4000000 in
theorem SX3_startThread_oc2 {z : zT} (a0 : Int32) (h : ph_H) (I : IC z h) (f_a0 : iv 0 3 a0) : PX3_startThread_oc2 a0 h ∧ QC z 0 5 (FX3_startThread_oc2 a0 h) := by
  unfold PX3_startThread_oc2 FX3_startThread_oc2
  refine sf_n (iv_in f_a0 rfl) ?_
  refine sf_if (fun c1 => ?_) (fun c1 => ?_)
  · have f2 : iv 0 0 (h 29 (a0.toNatClampNeg)) := iv_eql (iv_any (h 29 (a0.toNatClampNeg))) (iv_lit (lo := 0) (hi := 0) (x := 0) rfl) c1 rfl
    refine sf_n (iv_in f_a0 rfl) ?_
    have I3 : IC z (hs h 29 a0.toNatClampNeg 1) := ICs I (k := 29) (i := a0.toNatClampNeg) (v := 1) (iv_any 1) rfl
    have I4 : IC z (hs (hs h 29 a0.toNatClampNeg 1) 25 16 4) := ICs I3 (k := 25) (i := 16) (v := 4) (iv_w (c := 0) (d := 4) (iv_lit (lo := 4) (hi := 4) (x := 4) rfl) rfl) rfl
    have I5 : IC z (hs (hs (hs h 29 a0.toNatClampNeg 1) 25 16 4) 25 17 a0) := ICs I4 (k := 25) (i := 17) (v := a0) (iv_w (c := 0) (d := 11) f_a0 rfl) rfl
    exact ⟨trivial, QC_mk (iv_w (c := 0) (d := 5) (iv_lit (lo := 0) (hi := 0) (x := 0) rfl) rfl) I5⟩
  · exact ⟨trivial, QC_mk (iv_w (c := 0) (d := 5) (iv_lit (lo := 5) (hi := 5) (x := 5) rfl) rfl) I⟩

-- X3_takeInput_oc2
set_option maxRecDepth 100000 in
set_option maxHeartbeats 4000000 in
theorem SX3_takeInput_oc2 {z : zT} (a0 : Int32) (h : ph_H) (I : IC z h) (f_a0 : iv 0 27 a0) : PX3_takeInput_oc2 a0 h ∧ QC z 0 7 (FX3_takeInput_oc2 a0 h) := by
  unfold PX3_takeInput_oc2 FX3_takeInput_oc2
  have f1 : iv 0 30 (h 25 12) := ICv I 25 _
  refine sf_if (fun c2 => ?_) (fun c2 => ?_)
  · have f3 : iv (-2147483648) 30 (h 25 11) := iv_lel (iv_any (h 25 11)) f1 c2 rfl
    exact ⟨trivial, QC_mk (iv_w (c := 0) (d := 7) (iv_lit (lo := 7) (hi := 7) (x := 7) rfl) rfl) I⟩
  · have f4 : iv 1 2147483647 (h 25 11) := iv_ltr (iv_any (h 25 11)) f1 (nle c2) rfl
    refine sf_if (fun c5 => ?_) (fun c5 => ?_)
    · have f6 : iv 0 29 (h 25 12) := iv_ltl f1 (iv_lit (lo := 30) (hi := 30) (x := 30) rfl) c5 rfl
      have f7 : iv 1 30 ((h 25 12) + 1) := iv_add f6 (iv_lit (lo := 1) (hi := 1) (x := 1) rfl) rfl
      have I8 : IC z (hs h 25 12 ((h 25 12) + 1)) := ICs I (k := 25) (i := 12) (v := ((h 25 12) + 1)) (iv_w (c := 0) (d := 30) f7 rfl) rfl
      have f9 : iv 0 29 (((h 25 12) + 1) - 1) := iv_sub f7 (iv_lit (lo := 1) (hi := 1) (x := 1) rfl) rfl
      refine sf_n (iv_in f9 rfl) ?_
      have s10 := SX3_hold_oc2 (z := z) a0 0 (h 12 ((((h 25 12) + 1) - 1).toNatClampNeg)) (hs h 25 12 ((h 25 12) + 1)) I8 f_a0 (iv_w (c := 0) (d := 3) (iv_lit (lo := 0) (hi := 0) (x := 0) rfl) rfl) (Or.inl rfl)
      refine sf_n s10.1 ?_
      exact ⟨trivial, QC_mk (iv_w (c := 0) (d := 7) s10.2.1 rfl) s10.2.2⟩
    · have f11 : iv 30 30 (h 25 12) := iv_ler f1 (iv_lit (lo := 30) (hi := 30) (x := 30) rfl) (nlt c5) rfl
      exact ⟨trivial, QC_mk (iv_w (c := 0) (d := 7) (iv_lit (lo := 7) (hi := 7) (x := 7) rfl) rfl) I⟩

-- X3_own_oc2
set_option maxRecDepth 100000 in
set_option maxHeartbeats 4000000 in
theorem SX3_own_oc2 {z : zT} (a0 : Int32) (a1 : Int32) (h : ph_H) (I : IC z h) (f_a1 : iv 0 11 a1) : PX3_own_oc2 a0 a1 h ∧ QC z 0 0 (FX3_own_oc2 a0 a1 h) := by
  unfold PX3_own_oc2 FX3_own_oc2
  refine sf_n (iv_in f_a1 rfl) ?_
  have I1 : IC z (hs h 33 a1.toNatClampNeg a0) := ICs I (k := 33) (i := a1.toNatClampNeg) (v := a0) (iv_any a0) rfl
  have I2 : IC z (hs (hs h 33 a1.toNatClampNeg a0) 25 16 1) := ICs I1 (k := 25) (i := 16) (v := 1) (iv_w (c := 0) (d := 4) (iv_lit (lo := 1) (hi := 1) (x := 1) rfl) rfl) rfl
  have I3 : IC z (hs (hs (hs h 33 a1.toNatClampNeg a0) 25 16 1) 25 17 a1) := ICs I2 (k := 25) (i := 17) (v := a1) f_a1 rfl
  exact ⟨trivial, QC_mk (iv_lit (lo := 0) (hi := 0) (x := 0) rfl) I3⟩

-- X3_takeLock_oc2
set_option maxRecDepth 100000 in
set_option maxHeartbeats 4000000 in
theorem SX3_takeLock_oc2 {z : zT} (a0 : Int32) (a1 : Int32) (h : ph_H) (I : IC z h) (f_a0 : iv 0 3 a0) (f_a1 : iv 0 27 a1) : PX3_takeLock_oc2 a0 a1 h ∧ QC z 0 5 (FX3_takeLock_oc2 a0 a1 h) := by
  unfold PX3_takeLock_oc2 FX3_takeLock_oc2
  have s1 := SX3_lockIn_oc2 (z := z) a1 h I f_a1
  refine sf_n s1.1 ?_
  refine sf_if (fun c2 => ?_) (fun c2 => ?_)
  · have f3 : iv 0 11 (FX3_lockIn_oc2 a1 h) := iv_ler s1.2 (iv_lit (lo := 0) (hi := 0) (x := 0) rfl) c2 rfl
    refine sf_n (iv_in f3 rfl) ?_
    refine sf_if (fun c4 => ?_) (fun c4 => ?_)
    · have f5 : iv 0 3 (h 33 ((FX3_lockIn_oc2 a1 h).toNatClampNeg)) := iv_eql (iv_any (h 33 ((FX3_lockIn_oc2 a1 h).toNatClampNeg))) f_a0 c4 rfl
      exact ⟨trivial, QC_mk (iv_w (c := 0) (d := 5) (iv_lit (lo := 5) (hi := 5) (x := 5) rfl) rfl) I⟩
    · have s6 := SX3_own_oc2 (z := z) a0 (FX3_lockIn_oc2 a1 h) h I f3
      refine sf_n s6.1 ?_
      exact ⟨trivial, QC_mk (iv_w (c := 0) (d := 5) s6.2.1 rfl) s6.2.2⟩
  · have f7 : iv (-1) (-1) (FX3_lockIn_oc2 a1 h) := iv_ltl s1.2 (iv_lit (lo := 0) (hi := 0) (x := 0) rfl) (nle c2) rfl
    exact ⟨trivial, QC_mk (iv_w (c := 0) (d := 5) (iv_lit (lo := 1) (hi := 1) (x := 1) rfl) rfl) I⟩

-- X3_wakeSleepers_oc2
set_option maxRecDepth 100000 in
set_option maxHeartbeats 4000000 in
theorem SX3_wakeSleepers_oc2_28 {z : zT} : ∀ (q : Nat) (x3 : Int32) (x4 : Int32) (h : ph_H), IC z h → iv 0 11 x3 → iv 0 4 x4 → 4 - (x4).toInt < ((q : Nat) : Int) → PX3_wakeSleepers_oc2_28  q x3 x4 h ∧ QC z 0 6 (FX3_wakeSleepers_oc2_28  q x3 x4 h) := by
  intro q
  induction q with
  | zero =>
    intro x3 x4 h I f_x3 f_x4 mq
    exact mu_zu f_x4 mq rfl
  | succ q ih =>
    intro x3 x4 h I f_x3 f_x4 mq
    unfold PX3_wakeSleepers_oc2_28 FX3_wakeSleepers_oc2_28
    refine sf_if (fun c1 => ?_) (fun c1 => ?_)
    · have f2 : iv 4 4 x4 := iv_ler f_x4 (iv_lit (lo := 4) (hi := 4) (x := 4) rfl) c1 rfl
      have I3 : IC z (hs h 25 16 3) := ICs I (k := 25) (i := 16) (v := 3) (iv_w (c := 0) (d := 4) (iv_lit (lo := 3) (hi := 3) (x := 3) rfl) rfl) rfl
      exact ⟨trivial, QC_mk (iv_w (c := 0) (d := 6) (iv_lit (lo := 0) (hi := 0) (x := 0) rfl) rfl) I3⟩
    · have f4 : iv 0 3 x4 := iv_ltl f_x4 (iv_lit (lo := 4) (hi := 4) (x := 4) rfl) (nle c1) rfl
      refine sf_n (iv_in f4 rfl) ?_
      refine sf_if (fun c5 => ?_) (fun c5 => ?_)
      · have f6 : iv 2 2 (h 29 (x4.toNatClampNeg)) := iv_eql (iv_any (h 29 (x4.toNatClampNeg))) (iv_lit (lo := 2) (hi := 2) (x := 2) rfl) c5 rfl
        refine sf_n (iv_in f4 rfl) ?_
        have f7 : iv 0 11 (h 30 (x4.toNatClampNeg)) := ICv I 30 _
        refine sf_if (fun c8 => ?_) (fun c8 => ?_)
        · refine sf_n (iv_in f4 rfl) ?_
          have I9 : IC z (hs h 29 x4.toNatClampNeg 3) := ICs I (k := 29) (i := x4.toNatClampNeg) (v := 3) (iv_any 3) rfl
          unfold PX3_wakeSleepers_oc2_64 FX3_wakeSleepers_oc2_64
          have f10 : iv 1 4 (x4 + 1) := iv_add f4 (iv_lit (lo := 1) (hi := 1) (x := 1) rfl) rfl
          exact ih x3 (x4 + 1) (hs h 29 x4.toNatClampNeg 3) I9 f_x3 (iv_w (c := 0) (d := 4) f10 rfl) (mu_up f4 mq rfl)
        · unfold PX3_wakeSleepers_oc2_64 FX3_wakeSleepers_oc2_64
          have f11 : iv 1 4 (x4 + 1) := iv_add f4 (iv_lit (lo := 1) (hi := 1) (x := 1) rfl) rfl
          exact ih x3 (x4 + 1) h I f_x3 (iv_w (c := 0) (d := 4) f11 rfl) (mu_up f4 mq rfl)
      · unfold PX3_wakeSleepers_oc2_64 FX3_wakeSleepers_oc2_64
        have f12 : iv 1 4 (x4 + 1) := iv_add f4 (iv_lit (lo := 1) (hi := 1) (x := 1) rfl) rfl
        exact ih x3 (x4 + 1) h I f_x3 (iv_w (c := 0) (d := 4) f12 rfl) (mu_up f4 mq rfl)
set_option maxRecDepth 100000 in
set_option maxHeartbeats 4000000 in
theorem SX3_wakeSleepers_oc2 {z : zT} (a0 : Int32) (a1 : Int32) (h : ph_H) (I : IC z h) (f_a1 : iv 0 27 a1) : PX3_wakeSleepers_oc2 a0 a1 h ∧ QC z 0 6 (FX3_wakeSleepers_oc2 a0 a1 h) := by
  unfold PX3_wakeSleepers_oc2 FX3_wakeSleepers_oc2
  have s1 := SX3_gateIn_oc2 (z := z) a1 h I f_a1
  refine sf_n s1.1 ?_
  refine sf_if (fun c2 => ?_) (fun c2 => ?_)
  · have f3 : iv 0 11 (FX3_gateIn_oc2 a1 h) := iv_ler s1.2 (iv_lit (lo := 0) (hi := 0) (x := 0) rfl) c2 rfl
    refine sf_n (iv_in f3 rfl) ?_
    refine sf_if (fun c4 => ?_) (fun c4 => ?_)
    · exact SX3_wakeSleepers_oc2_28 2000 (FX3_gateIn_oc2 a1 h) 0 h I f3 (iv_w (c := 0) (d := 4) (iv_lit (lo := 0) (hi := 0) (x := 0) rfl) rfl) (mu_0u (iv_lit (lo := 0) (hi := 0) (x := 0) rfl) rfl)
    · exact ⟨trivial, QC_mk (iv_w (c := 0) (d := 6) (iv_lit (lo := 6) (hi := 6) (x := 6) rfl) rfl) I⟩
  · have f5 : iv (-1) (-1) (FX3_gateIn_oc2 a1 h) := iv_ltl s1.2 (iv_lit (lo := 0) (hi := 0) (x := 0) rfl) (nle c2) rfl
    exact ⟨trivial, QC_mk (iv_w (c := 0) (d := 6) (iv_lit (lo := 1) (hi := 1) (x := 1) rfl) rfl) I⟩

-- X3_writeRow_oc2
set_option maxRecDepth 100000 in
set_option maxHeartbeats 4000000 in
theorem SX3_writeRow_oc2 {z : zT} (a0 : Int32) (a1 : Int32) (a2 : Int32) (h : ph_H) (I : IC z h) (f_a0 : iv 0 27 a0) (f_a1 : iv 0 27 a1) (f_a2 : iv 0 27 a2) : PX3_writeRow_oc2 a0 a1 a2 h ∧ QC z 0 4 (FX3_writeRow_oc2 a0 a1 a2 h) := by
  unfold PX3_writeRow_oc2 FX3_writeRow_oc2
  refine sf_n (iv_in f_a0 rfl) ?_
  have f1 : iv 0 3 (h 26 (a0.toNatClampNeg)) := ICv I 26 _
  refine sf_if (fun c2 => ?_) (fun c2 => ?_)
  · have f3 : iv 1 1 (h 26 (a0.toNatClampNeg)) := iv_eql f1 (iv_lit (lo := 1) (hi := 1) (x := 1) rfl) c2 rfl
    have f4 : iv 0 11 (h 27 (a0.toNatClampNeg)) := KVn_o I f3 rfl
    have s5 := SX3_bothNumbers_oc2 (z := z) a1 a2 h I f_a1 f_a2
    refine sf_n s5.1 ?_
    refine sf_if (fun c6 => ?_) (fun c6 => ?_)
    · have f7 : iv 0 0 (FX3_bothNumbers_oc2 a1 a2 h) := iv_eql s5.2 (iv_lit (lo := 0) (hi := 0) (x := 0) rfl) c6 rfl
      exact ⟨trivial, QC_mk (iv_w (c := 0) (d := 4) (iv_lit (lo := 1) (hi := 1) (x := 1) rfl) rfl) I⟩
    · have f8 : iv 1 1 (FX3_bothNumbers_oc2 a1 a2 h) := iv_nel s5.2 c6 rfl
      refine sf_n (iv_in f_a0 rfl) ?_
      refine sf_n (iv_in f_a1 rfl) ?_
      have s9 := SX3_hasRowPlace_oc2 (z := z) (h 27 (a0.toNatClampNeg)) (h 27 (a1.toNatClampNeg)) h I
      refine sf_n s9.1 ?_
      refine sf_if (fun c10 => ?_) (fun c10 => ?_)
      · have f11 : iv 0 0 (FX3_hasRowPlace_oc2 (h 27 (a0.toNatClampNeg)) (h 27 (a1.toNatClampNeg)) h) := iv_eql s9.2.1 (iv_lit (lo := 0) (hi := 0) (x := 0) rfl) c10 rfl
        exact ⟨trivial, QC_mk (iv_w (c := 0) (d := 4) (iv_lit (lo := 4) (hi := 4) (x := 4) rfl) rfl) I⟩
      · have f12 : iv 0 15 (h 27 (a1.toNatClampNeg)) := iv_and (iv_any _) (s9.2.2 c10).2 rfl
        have f13 : iv 1 1 (FX3_hasRowPlace_oc2 (h 27 (a0.toNatClampNeg)) (h 27 (a1.toNatClampNeg)) h) := iv_nel s9.2.1 c10 rfl
        have f14 : iv 0 220 ((h 27 (a0.toNatClampNeg)) * 20) := iv_mulr (c := 20) rfl f4 rfl
        have f15 : iv 100 320 (100 + ((h 27 (a0.toNatClampNeg)) * 20)) := iv_add (iv_lit (lo := 100) (hi := 100) (x := 100) rfl) f14 rfl
        have f16 : iv 100 335 ((100 + ((h 27 (a0.toNatClampNeg)) * 20)) + (h 27 (a1.toNatClampNeg))) := iv_add f15 f12 rfl
        have I17 : IC z (hs h 25 15 ((100 + ((h 27 (a0.toNatClampNeg)) * 20)) + (h 27 (a1.toNatClampNeg)))) := ICs I (k := 25) (i := 15) (v := ((100 + ((h 27 (a0.toNatClampNeg)) * 20)) + (h 27 (a1.toNatClampNeg)))) (iv_any ((100 + ((h 27 (a0.toNatClampNeg)) * 20)) + (h 27 (a1.toNatClampNeg)))) rfl
        have f18 : iv 0 176 ((h 27 (a0.toNatClampNeg)) * 16) := iv_mulr (c := 16) rfl f4 rfl
        have f19 : iv 0 191 (((h 27 (a0.toNatClampNeg)) * 16) + (h 27 (a1.toNatClampNeg))) := iv_add f18 f12 rfl
        refine sf_n (iv_in f_a2 rfl) ?_
        refine sf_n (iv_in f19 rfl) ?_
        have I20 : IC z (hs (hs h 25 15 ((100 + ((h 27 (a0.toNatClampNeg)) * 20)) + (h 27 (a1.toNatClampNeg)))) 34 (((h 27 (a0.toNatClampNeg)) * 16) + (h 27 (a1.toNatClampNeg))).toNatClampNeg (h 27 (a2.toNatClampNeg))) := ICs I17 (k := 34) (i := (((h 27 (a0.toNatClampNeg)) * 16) + (h 27 (a1.toNatClampNeg))).toNatClampNeg) (v := (h 27 (a2.toNatClampNeg))) (iv_any (h 27 (a2.toNatClampNeg))) rfl
        exact ⟨trivial, QC_mk (iv_w (c := 0) (d := 4) (iv_lit (lo := 0) (hi := 0) (x := 0) rfl) rfl) I20⟩
  · exact ⟨trivial, QC_mk (iv_w (c := 0) (d := 4) (iv_lit (lo := 1) (hi := 1) (x := 1) rfl) rfl) I⟩

-- X3_perform_oc2
set_option maxRecDepth 100000 in
set_option maxHeartbeats 4000000 in
theorem SX3_perform_oc2 {z : zT} (a0 : Int32) (h : ph_H) (I : IC z h) (f_a0 : iv 0 3 a0) (e_0 : iv 0 23 (h 28 (a0.toNatClampNeg))) : PX3_perform_oc2 a0 h ∧ QC z 0 19 (FX3_perform_oc2 a0 h) := by
  unfold PX3_perform_oc2 FX3_perform_oc2
  refine sf_n (iv_in f_a0 rfl) ?_
  have s1 := SX5_firstPart_t (z := z) a0 (h 28 (a0.toNatClampNeg)) h I f_a0 e_0
  refine sf_n s1.1 ?_
  have f2 : iv 1 381 ((FX5_firstPart_t a0 (h 28 (a0.toNatClampNeg)) h) + 1) := iv_add s1.2 (iv_lit (lo := 1) (hi := 1) (x := 1) rfl) rfl
  refine sf_n (iv_in f2 rfl) ?_
  have f3 : iv 2 382 ((FX5_firstPart_t a0 (h 28 (a0.toNatClampNeg)) h) + 2) := iv_add s1.2 (iv_lit (lo := 2) (hi := 2) (x := 2) rfl) rfl
  refine sf_n (iv_in f3 rfl) ?_
  have s4 := SX3_slotOf a0 (h 10 (((FX5_firstPart_t a0 (h 28 (a0.toNatClampNeg)) h) + 1).toNatClampNeg)) f_a0
  refine sf_n s4.1 ?_
  have s5 := SX3_slotOf a0 (h 10 (((FX5_firstPart_t a0 (h 28 (a0.toNatClampNeg)) h) + 2).toNatClampNeg)) f_a0
  refine sf_n s5.1 ?_
  have f6 : iv 3 383 ((FX5_firstPart_t a0 (h 28 (a0.toNatClampNeg)) h) + 3) := iv_add s1.2 (iv_lit (lo := 3) (hi := 3) (x := 3) rfl) rfl
  refine sf_n (iv_in f6 rfl) ?_
  have s7 := SX3_slotOf a0 (h 10 (((FX5_firstPart_t a0 (h 28 (a0.toNatClampNeg)) h) + 3).toNatClampNeg)) f_a0
  refine sf_n s7.1 ?_
  refine sf_n (iv_in s1.2 rfl) ?_
  refine sf_if (fun c8 => ?_) (fun c8 => ?_)
  · have f9 : iv 0 0 (h 10 ((FX5_firstPart_t a0 (h 28 (a0.toNatClampNeg)) h).toNatClampNeg)) := iv_eql (iv_any (h 10 ((FX5_firstPart_t a0 (h 28 (a0.toNatClampNeg)) h).toNatClampNeg))) (iv_lit (lo := 0) (hi := 0) (x := 0) rfl) c8 rfl
    have s10 := SX3_hold_oc2 (z := z) (FX3_slotOf a0 (h 10 (((FX5_firstPart_t a0 (h 28 (a0.toNatClampNeg)) h) + 1).toNatClampNeg))) 0 (h 10 (((FX5_firstPart_t a0 (h 28 (a0.toNatClampNeg)) h) + 2).toNatClampNeg)) h I (iv_w (c := 0) (d := 27) s4.2 rfl) (iv_w (c := 0) (d := 3) (iv_lit (lo := 0) (hi := 0) (x := 0) rfl) rfl) (Or.inl rfl)
    refine sf_n s10.1 ?_
    exact ⟨trivial, QC_mk (iv_w (c := 0) (d := 19) s10.2.1 rfl) s10.2.2⟩
  refine sf_if (fun c11 => ?_) (fun c11 => ?_)
  · have f12 : iv 1 1 (h 10 ((FX5_firstPart_t a0 (h 28 (a0.toNatClampNeg)) h).toNatClampNeg)) := iv_eql (iv_any (h 10 ((FX5_firstPart_t a0 (h 28 (a0.toNatClampNeg)) h).toNatClampNeg))) (iv_lit (lo := 1) (hi := 1) (x := 1) rfl) c11 rfl
    refine sf_n (fmod_p (m := 12) (by decide) (by decide)) ?_
    have f13 : iv 0 11 (FJ9_floorMod_7cf53 (h 10 (((FX5_firstPart_t a0 (h 28 (a0.toNatClampNeg)) h) + 2).toNatClampNeg)) 12) := fmod_iv (m := 12) rfl
    have s14 := SX3_getCell_oc2 (z := z) (FX3_slotOf a0 (h 10 (((FX5_firstPart_t a0 (h 28 (a0.toNatClampNeg)) h) + 1).toNatClampNeg))) (FJ9_floorMod_7cf53 (h 10 (((FX5_firstPart_t a0 (h 28 (a0.toNatClampNeg)) h) + 2).toNatClampNeg)) 12) h I (iv_w (c := 0) (d := 27) s4.2 rfl) f13
    refine sf_n s14.1 ?_
    exact ⟨trivial, QC_mk (iv_w (c := 0) (d := 19) s14.2.1 rfl) s14.2.2⟩
  refine sf_if (fun c15 => ?_) (fun c15 => ?_)
  · have f16 : iv 2 2 (h 10 ((FX5_firstPart_t a0 (h 28 (a0.toNatClampNeg)) h).toNatClampNeg)) := iv_eql (iv_any (h 10 ((FX5_firstPart_t a0 (h 28 (a0.toNatClampNeg)) h).toNatClampNeg))) (iv_lit (lo := 2) (hi := 2) (x := 2) rfl) c15 rfl
    refine sf_n (fmod_p (m := 12) (by decide) (by decide)) ?_
    have f17 : iv 0 11 (FJ9_floorMod_7cf53 (h 10 (((FX5_firstPart_t a0 (h 28 (a0.toNatClampNeg)) h) + 1).toNatClampNeg)) 12) := fmod_iv (m := 12) rfl
    have s18 := SX3_putCell_oc2 (z := z) (FJ9_floorMod_7cf53 (h 10 (((FX5_firstPart_t a0 (h 28 (a0.toNatClampNeg)) h) + 1).toNatClampNeg)) 12) (FX3_slotOf a0 (h 10 (((FX5_firstPart_t a0 (h 28 (a0.toNatClampNeg)) h) + 2).toNatClampNeg))) h I f17 (iv_w (c := 0) (d := 27) s5.2 rfl)
    refine sf_n s18.1 ?_
    exact ⟨trivial, QC_mk (iv_w (c := 0) (d := 19) s18.2.1 rfl) s18.2.2⟩
  refine sf_if (fun c19 => ?_) (fun c19 => ?_)
  · have f20 : iv 3 3 (h 10 ((FX5_firstPart_t a0 (h 28 (a0.toNatClampNeg)) h).toNatClampNeg)) := iv_eql (iv_any (h 10 ((FX5_firstPart_t a0 (h 28 (a0.toNatClampNeg)) h).toNatClampNeg))) (iv_lit (lo := 3) (hi := 3) (x := 3) rfl) c19 rfl
    refine sf_n (iv_in s1.2 rfl) ?_
    have s21 := SX3_reckon_oc2 (z := z) (h 10 ((FX5_firstPart_t a0 (h 28 (a0.toNatClampNeg)) h).toNatClampNeg)) (FX3_slotOf a0 (h 10 (((FX5_firstPart_t a0 (h 28 (a0.toNatClampNeg)) h) + 1).toNatClampNeg))) (FX3_slotOf a0 (h 10 (((FX5_firstPart_t a0 (h 28 (a0.toNatClampNeg)) h) + 2).toNatClampNeg))) h I (iv_w (c := 0) (d := 27) s4.2 rfl) (iv_w (c := 0) (d := 27) s5.2 rfl)
    refine sf_n s21.1 ?_
    exact ⟨trivial, QC_mk (iv_w (c := 0) (d := 19) s21.2.1 rfl) s21.2.2⟩
  refine sf_if (fun c22 => ?_) (fun c22 => ?_)
  · have f23 : iv 4 4 (h 10 ((FX5_firstPart_t a0 (h 28 (a0.toNatClampNeg)) h).toNatClampNeg)) := iv_eql (iv_any (h 10 ((FX5_firstPart_t a0 (h 28 (a0.toNatClampNeg)) h).toNatClampNeg))) (iv_lit (lo := 4) (hi := 4) (x := 4) rfl) c22 rfl
    refine sf_n (iv_in s1.2 rfl) ?_
    have s24 := SX3_reckon_oc2 (z := z) (h 10 ((FX5_firstPart_t a0 (h 28 (a0.toNatClampNeg)) h).toNatClampNeg)) (FX3_slotOf a0 (h 10 (((FX5_firstPart_t a0 (h 28 (a0.toNatClampNeg)) h) + 1).toNatClampNeg))) (FX3_slotOf a0 (h 10 (((FX5_firstPart_t a0 (h 28 (a0.toNatClampNeg)) h) + 2).toNatClampNeg))) h I (iv_w (c := 0) (d := 27) s4.2 rfl) (iv_w (c := 0) (d := 27) s5.2 rfl)
    refine sf_n s24.1 ?_
    exact ⟨trivial, QC_mk (iv_w (c := 0) (d := 19) s24.2.1 rfl) s24.2.2⟩
  refine sf_if (fun c25 => ?_) (fun c25 => ?_)
  · have f26 : iv 5 5 (h 10 ((FX5_firstPart_t a0 (h 28 (a0.toNatClampNeg)) h).toNatClampNeg)) := iv_eql (iv_any (h 10 ((FX5_firstPart_t a0 (h 28 (a0.toNatClampNeg)) h).toNatClampNeg))) (iv_lit (lo := 5) (hi := 5) (x := 5) rfl) c25 rfl
    refine sf_n (iv_in s1.2 rfl) ?_
    have s27 := SX3_reckon_oc2 (z := z) (h 10 ((FX5_firstPart_t a0 (h 28 (a0.toNatClampNeg)) h).toNatClampNeg)) (FX3_slotOf a0 (h 10 (((FX5_firstPart_t a0 (h 28 (a0.toNatClampNeg)) h) + 1).toNatClampNeg))) (FX3_slotOf a0 (h 10 (((FX5_firstPart_t a0 (h 28 (a0.toNatClampNeg)) h) + 2).toNatClampNeg))) h I (iv_w (c := 0) (d := 27) s4.2 rfl) (iv_w (c := 0) (d := 27) s5.2 rfl)
    refine sf_n s27.1 ?_
    exact ⟨trivial, QC_mk (iv_w (c := 0) (d := 19) s27.2.1 rfl) s27.2.2⟩
  refine sf_if (fun c28 => ?_) (fun c28 => ?_)
  · have f29 : iv 6 6 (h 10 ((FX5_firstPart_t a0 (h 28 (a0.toNatClampNeg)) h).toNatClampNeg)) := iv_eql (iv_any (h 10 ((FX5_firstPart_t a0 (h 28 (a0.toNatClampNeg)) h).toNatClampNeg))) (iv_lit (lo := 6) (hi := 6) (x := 6) rfl) c28 rfl
    have s30 := SX3_goTo_oc2 (z := z) (h 10 (((FX5_firstPart_t a0 (h 28 (a0.toNatClampNeg)) h) + 1).toNatClampNeg)) h I
    refine sf_n s30.1 ?_
    exact ⟨trivial, QC_mk (iv_w (c := 0) (d := 19) s30.2.1 rfl) s30.2.2⟩
  refine sf_if (fun c31 => ?_) (fun c31 => ?_)
  · have f32 : iv 7 7 (h 10 ((FX5_firstPart_t a0 (h 28 (a0.toNatClampNeg)) h).toNatClampNeg)) := iv_eql (iv_any (h 10 ((FX5_firstPart_t a0 (h 28 (a0.toNatClampNeg)) h).toNatClampNeg))) (iv_lit (lo := 7) (hi := 7) (x := 7) rfl) c31 rfl
    have s33 := SX3_goUnless_oc2 (z := z) (FX3_slotOf a0 (h 10 (((FX5_firstPart_t a0 (h 28 (a0.toNatClampNeg)) h) + 1).toNatClampNeg))) (h 10 (((FX5_firstPart_t a0 (h 28 (a0.toNatClampNeg)) h) + 2).toNatClampNeg)) h I (iv_w (c := 0) (d := 27) s4.2 rfl)
    refine sf_n s33.1 ?_
    exact ⟨trivial, QC_mk (iv_w (c := 0) (d := 19) s33.2.1 rfl) s33.2.2⟩
  refine sf_if (fun c34 => ?_) (fun c34 => ?_)
  · have f35 : iv 8 8 (h 10 ((FX5_firstPart_t a0 (h 28 (a0.toNatClampNeg)) h).toNatClampNeg)) := iv_eql (iv_any (h 10 ((FX5_firstPart_t a0 (h 28 (a0.toNatClampNeg)) h).toNatClampNeg))) (iv_lit (lo := 8) (hi := 8) (x := 8) rfl) c34 rfl
    have s36 := SX3_makeRow_oc2 (z := z) (FX3_slotOf a0 (h 10 (((FX5_firstPart_t a0 (h 28 (a0.toNatClampNeg)) h) + 1).toNatClampNeg))) (FX3_slotOf a0 (h 10 (((FX5_firstPart_t a0 (h 28 (a0.toNatClampNeg)) h) + 2).toNatClampNeg))) h I (iv_w (c := 0) (d := 27) s4.2 rfl) (iv_w (c := 0) (d := 27) s5.2 rfl)
    refine sf_n s36.1 ?_
    exact ⟨trivial, QC_mk (iv_w (c := 0) (d := 19) s36.2.1 rfl) s36.2.2⟩
  refine sf_if (fun c37 => ?_) (fun c37 => ?_)
  · have f38 : iv 9 9 (h 10 ((FX5_firstPart_t a0 (h 28 (a0.toNatClampNeg)) h).toNatClampNeg)) := iv_eql (iv_any (h 10 ((FX5_firstPart_t a0 (h 28 (a0.toNatClampNeg)) h).toNatClampNeg))) (iv_lit (lo := 9) (hi := 9) (x := 9) rfl) c37 rfl
    have s39 := SX3_readRow_oc2 (z := z) (FX3_slotOf a0 (h 10 (((FX5_firstPart_t a0 (h 28 (a0.toNatClampNeg)) h) + 1).toNatClampNeg))) (FX3_slotOf a0 (h 10 (((FX5_firstPart_t a0 (h 28 (a0.toNatClampNeg)) h) + 2).toNatClampNeg))) (FX3_slotOf a0 (h 10 (((FX5_firstPart_t a0 (h 28 (a0.toNatClampNeg)) h) + 3).toNatClampNeg))) h I (iv_w (c := 0) (d := 27) s4.2 rfl) (iv_w (c := 0) (d := 27) s5.2 rfl) (iv_w (c := 0) (d := 27) s7.2 rfl)
    refine sf_n s39.1 ?_
    exact ⟨trivial, QC_mk (iv_w (c := 0) (d := 19) s39.2.1 rfl) s39.2.2⟩
  refine sf_if (fun c40 => ?_) (fun c40 => ?_)
  · have f41 : iv 10 10 (h 10 ((FX5_firstPart_t a0 (h 28 (a0.toNatClampNeg)) h).toNatClampNeg)) := iv_eql (iv_any (h 10 ((FX5_firstPart_t a0 (h 28 (a0.toNatClampNeg)) h).toNatClampNeg))) (iv_lit (lo := 10) (hi := 10) (x := 10) rfl) c40 rfl
    have s42 := SX3_writeRow_oc2 (z := z) (FX3_slotOf a0 (h 10 (((FX5_firstPart_t a0 (h 28 (a0.toNatClampNeg)) h) + 1).toNatClampNeg))) (FX3_slotOf a0 (h 10 (((FX5_firstPart_t a0 (h 28 (a0.toNatClampNeg)) h) + 2).toNatClampNeg))) (FX3_slotOf a0 (h 10 (((FX5_firstPart_t a0 (h 28 (a0.toNatClampNeg)) h) + 3).toNatClampNeg))) h I (iv_w (c := 0) (d := 27) s4.2 rfl) (iv_w (c := 0) (d := 27) s5.2 rfl) (iv_w (c := 0) (d := 27) s7.2 rfl)
    refine sf_n s42.1 ?_
    exact ⟨trivial, QC_mk (iv_w (c := 0) (d := 19) s42.2.1 rfl) s42.2.2⟩
  refine sf_if (fun c43 => ?_) (fun c43 => ?_)
  · have f44 : iv 11 11 (h 10 ((FX5_firstPart_t a0 (h 28 (a0.toNatClampNeg)) h).toNatClampNeg)) := iv_eql (iv_any (h 10 ((FX5_firstPart_t a0 (h 28 (a0.toNatClampNeg)) h).toNatClampNeg))) (iv_lit (lo := 11) (hi := 11) (x := 11) rfl) c43 rfl
    refine sf_if (fun c45 => ?_) (fun c45 => ?_)
    · have f46 : iv 0 0 ((h 10 (((FX5_firstPart_t a0 (h 28 (a0.toNatClampNeg)) h) + 2).toNatClampNeg)) &&& 1) := iv_eql (iv_any ((h 10 (((FX5_firstPart_t a0 (h 28 (a0.toNatClampNeg)) h) + 2).toNatClampNeg)) &&& 1)) (iv_lit (lo := 0) (hi := 0) (x := 0) rfl) c45 rfl
      unfold PX3_perform_oc2_288 FX3_perform_oc2_288
      have s47 := SX3_makeLock_oc2 (z := z) (FX3_slotOf a0 (h 10 (((FX5_firstPart_t a0 (h 28 (a0.toNatClampNeg)) h) + 1).toNatClampNeg))) 0 h I (iv_w (c := 0) (d := 27) s4.2 rfl) (iv_w (c := 0) (d := 1) (iv_lit (lo := 0) (hi := 0) (x := 0) rfl) rfl)
      refine sf_n s47.1 ?_
      exact ⟨trivial, QC_mk (iv_w (c := 0) (d := 19) s47.2.1 rfl) s47.2.2⟩
    · unfold PX3_perform_oc2_288 FX3_perform_oc2_288
      have s48 := SX3_makeLock_oc2 (z := z) (FX3_slotOf a0 (h 10 (((FX5_firstPart_t a0 (h 28 (a0.toNatClampNeg)) h) + 1).toNatClampNeg))) 1 h I (iv_w (c := 0) (d := 27) s4.2 rfl) (iv_w (c := 0) (d := 1) (iv_lit (lo := 1) (hi := 1) (x := 1) rfl) rfl)
      refine sf_n s48.1 ?_
      exact ⟨trivial, QC_mk (iv_w (c := 0) (d := 19) s48.2.1 rfl) s48.2.2⟩
  refine sf_if (fun c49 => ?_) (fun c49 => ?_)
  · have f50 : iv 12 12 (h 10 ((FX5_firstPart_t a0 (h 28 (a0.toNatClampNeg)) h).toNatClampNeg)) := iv_eql (iv_any (h 10 ((FX5_firstPart_t a0 (h 28 (a0.toNatClampNeg)) h).toNatClampNeg))) (iv_lit (lo := 12) (hi := 12) (x := 12) rfl) c49 rfl
    have s51 := SX3_takeLock_oc2 (z := z) a0 (FX3_slotOf a0 (h 10 (((FX5_firstPart_t a0 (h 28 (a0.toNatClampNeg)) h) + 1).toNatClampNeg))) h I f_a0 (iv_w (c := 0) (d := 27) s4.2 rfl)
    refine sf_n s51.1 ?_
    exact ⟨trivial, QC_mk (iv_w (c := 0) (d := 19) s51.2.1 rfl) s51.2.2⟩
  refine sf_if (fun c52 => ?_) (fun c52 => ?_)
  · have f53 : iv 13 13 (h 10 ((FX5_firstPart_t a0 (h 28 (a0.toNatClampNeg)) h).toNatClampNeg)) := iv_eql (iv_any (h 10 ((FX5_firstPart_t a0 (h 28 (a0.toNatClampNeg)) h).toNatClampNeg))) (iv_lit (lo := 13) (hi := 13) (x := 13) rfl) c52 rfl
    have s54 := SX3_leaveLock_oc2 (z := z) a0 (FX3_slotOf a0 (h 10 (((FX5_firstPart_t a0 (h 28 (a0.toNatClampNeg)) h) + 1).toNatClampNeg))) h I (iv_w (c := 0) (d := 27) s4.2 rfl)
    refine sf_n s54.1 ?_
    exact ⟨trivial, QC_mk (iv_w (c := 0) (d := 19) s54.2.1 rfl) s54.2.2⟩
  refine sf_if (fun c55 => ?_) (fun c55 => ?_)
  · have f56 : iv 14 14 (h 10 ((FX5_firstPart_t a0 (h 28 (a0.toNatClampNeg)) h).toNatClampNeg)) := iv_eql (iv_any (h 10 ((FX5_firstPart_t a0 (h 28 (a0.toNatClampNeg)) h).toNatClampNeg))) (iv_lit (lo := 14) (hi := 14) (x := 14) rfl) c55 rfl
    have s57 := SX3_lieDown_oc2 (z := z) a0 (FX3_slotOf a0 (h 10 (((FX5_firstPart_t a0 (h 28 (a0.toNatClampNeg)) h) + 1).toNatClampNeg))) h I f_a0 (iv_w (c := 0) (d := 27) s4.2 rfl)
    refine sf_n s57.1 ?_
    exact ⟨trivial, QC_mk (iv_w (c := 0) (d := 19) s57.2.1 rfl) s57.2.2⟩
  refine sf_if (fun c58 => ?_) (fun c58 => ?_)
  · have f59 : iv 15 15 (h 10 ((FX5_firstPart_t a0 (h 28 (a0.toNatClampNeg)) h).toNatClampNeg)) := iv_eql (iv_any (h 10 ((FX5_firstPart_t a0 (h 28 (a0.toNatClampNeg)) h).toNatClampNeg))) (iv_lit (lo := 15) (hi := 15) (x := 15) rfl) c58 rfl
    have s60 := SX3_wakeSleepers_oc2 (z := z) a0 (FX3_slotOf a0 (h 10 (((FX5_firstPart_t a0 (h 28 (a0.toNatClampNeg)) h) + 1).toNatClampNeg))) h I (iv_w (c := 0) (d := 27) s4.2 rfl)
    refine sf_n s60.1 ?_
    exact ⟨trivial, QC_mk (iv_w (c := 0) (d := 19) s60.2.1 rfl) s60.2.2⟩
  refine sf_if (fun c61 => ?_) (fun c61 => ?_)
  · have f62 : iv 16 16 (h 10 ((FX5_firstPart_t a0 (h 28 (a0.toNatClampNeg)) h).toNatClampNeg)) := iv_eql (iv_any (h 10 ((FX5_firstPart_t a0 (h 28 (a0.toNatClampNeg)) h).toNatClampNeg))) (iv_lit (lo := 16) (hi := 16) (x := 16) rfl) c61 rfl
    have s63 := SX3_takeInput_oc2 (z := z) (FX3_slotOf a0 (h 10 (((FX5_firstPart_t a0 (h 28 (a0.toNatClampNeg)) h) + 1).toNatClampNeg))) h I (iv_w (c := 0) (d := 27) s4.2 rfl)
    refine sf_n s63.1 ?_
    exact ⟨trivial, QC_mk (iv_w (c := 0) (d := 19) s63.2.1 rfl) s63.2.2⟩
  refine sf_if (fun c64 => ?_) (fun c64 => ?_)
  · have f65 : iv 17 17 (h 10 ((FX5_firstPart_t a0 (h 28 (a0.toNatClampNeg)) h).toNatClampNeg)) := iv_eql (iv_any (h 10 ((FX5_firstPart_t a0 (h 28 (a0.toNatClampNeg)) h).toNatClampNeg))) (iv_lit (lo := 17) (hi := 17) (x := 17) rfl) c64 rfl
    refine sf_n (fmod_p (m := 4) (by decide) (by decide)) ?_
    have f66 : iv 0 3 (FJ9_floorMod_7cf53 (h 10 (((FX5_firstPart_t a0 (h 28 (a0.toNatClampNeg)) h) + 1).toNatClampNeg)) 4) := fmod_iv (m := 4) rfl
    have s67 := SX3_startThread_oc2 (z := z) (FJ9_floorMod_7cf53 (h 10 (((FX5_firstPart_t a0 (h 28 (a0.toNatClampNeg)) h) + 1).toNatClampNeg)) 4) h I f66
    refine sf_n s67.1 ?_
    exact ⟨trivial, QC_mk (iv_w (c := 0) (d := 19) s67.2.1 rfl) s67.2.2⟩
  refine sf_if (fun c68 => ?_) (fun c68 => ?_)
  · have f69 : iv 18 18 (h 10 ((FX5_firstPart_t a0 (h 28 (a0.toNatClampNeg)) h).toNatClampNeg)) := iv_eql (iv_any (h 10 ((FX5_firstPart_t a0 (h 28 (a0.toNatClampNeg)) h).toNatClampNeg))) (iv_lit (lo := 18) (hi := 18) (x := 18) rfl) c68 rfl
    refine sf_n (fmod_p (m := 10) (by decide) (by decide)) ?_
    have f70 : iv 0 9 (FJ9_floorMod_7cf53 (h 10 (((FX5_firstPart_t a0 (h 28 (a0.toNatClampNeg)) h) + 2).toNatClampNeg)) 10) := fmod_iv (m := 10) rfl
    have f71 : iv 10 19 (10 + (FJ9_floorMod_7cf53 (h 10 (((FX5_firstPart_t a0 (h 28 (a0.toNatClampNeg)) h) + 2).toNatClampNeg)) 10)) := iv_add (iv_lit (lo := 10) (hi := 10) (x := 10) rfl) f70 rfl
    exact ⟨trivial, QC_mk (iv_w (c := 0) (d := 19) f71 rfl) I⟩
  have s72 := SX3_goTo_oc2 (z := z) 24 h I
  refine sf_n s72.1 ?_
  exact ⟨trivial, QC_mk (iv_w (c := 0) (d := 19) s72.2.1 rfl) s72.2.2⟩

-- X3_rise_oc2
set_option maxRecDepth 100000 in
set_option maxHeartbeats 4000000 in
theorem SX3_rise_oc2 {z : zT} (a0 : Int32) (h : ph_H) (I : IC z h) (f_a0 : iv 0 3 a0) : PX3_rise_oc2 a0 h ∧ QC z 0 0 (FX3_rise_oc2 a0 h) := by
  unfold PX3_rise_oc2 FX3_rise_oc2
  refine sf_n (iv_in f_a0 rfl) ?_
  have I1 : IC z (hs h 29 a0.toNatClampNeg 1) := ICs I (k := 29) (i := a0.toNatClampNeg) (v := 1) (iv_any 1) rfl
  refine sf_n (iv_in f_a0 rfl) ?_
  have f2 : iv 0 11 (h 30 (a0.toNatClampNeg)) := ICv I 30 _
  have s3 := SX3_own_oc2 (z := z) a0 (h 30 (a0.toNatClampNeg)) (hs h 29 a0.toNatClampNeg 1) I1 f2
  refine sf_n s3.1 ?_
  exact ⟨trivial, QC_mk s3.2.1 s3.2.2⟩

-- X3_nextInstruction_oc2
set_option maxRecDepth 100000 in
set_option maxHeartbeats 4000000 in
theorem SX3_nextInstruction_oc2 {z : zT} (a0 : Int32) (h : ph_H) (I : IC z h) (f_a0 : iv 0 3 a0) : PX3_nextInstruction_oc2 a0 h ∧ iv 0 24 (FX3_nextInstruction_oc2 a0 h) := by
  unfold PX3_nextInstruction_oc2 FX3_nextInstruction_oc2
  have s1 := SX3_hasEnded_oc2 (z := z) a0 h I f_a0
  refine sf_n s1.1 ?_
  refine sf_if (fun c2 => ?_) (fun c2 => ?_)
  · have f3 : iv 0 23 (h 28 (a0.toNatClampNeg)) := iv_and (iv_any _) (s1.2.2 c2) rfl
    have f4 : iv 0 0 (FX3_hasEnded_oc2 a0 h) := iv_eql s1.2.1 (iv_lit (lo := 0) (hi := 0) (x := 0) rfl) c2 rfl
    refine sf_n (iv_in f_a0 rfl) ?_
    exact ⟨trivial, (iv_w (c := 0) (d := 24) f3 rfl)⟩
  · have f5 : iv 1 1 (FX3_hasEnded_oc2 a0 h) := iv_nel s1.2.1 c2 rfl
    exact ⟨trivial, (iv_w (c := 0) (d := 24) (iv_lit (lo := 24) (hi := 24) (x := 24) rfl) rfl)⟩

-- X3_differences_soc2
set_option maxRecDepth 100000 in
set_option maxHeartbeats 4000000 in
theorem SX3_differences_soc2_51 {z : zT} : ∀ (q : Nat) (x2 : Int32) (x3 : Int32) (h : ph_H), IC z h → iv 0 4 x3 → 4 - (x3).toInt < ((q : Nat) : Int) → PX3_differences_soc2_51  q x2 x3 h ∧ iv (-2147483648) 2147483647 (FX3_differences_soc2_51  q x2 x3 h) := by
  intro q
  induction q with
  | zero =>
    intro x2 x3 h I f_x3 mq
    exact mu_zu f_x3 mq rfl
  | succ q ih =>
    intro x2 x3 h I f_x3 mq
    unfold PX3_differences_soc2_51 FX3_differences_soc2_51
    refine sf_if (fun c1 => ?_) (fun c1 => ?_)
    · have f2 : iv 4 4 x3 := iv_ler f_x3 (iv_lit (lo := 4) (hi := 4) (x := 4) rfl) c1 rfl
      exact ⟨trivial, (iv_any x2)⟩
    · have f3 : iv 0 3 x3 := iv_ltl f_x3 (iv_lit (lo := 4) (hi := 4) (x := 4) rfl) (nle c1) rfl
      have s4 := SX3_nextInstruction_s (z := z) x3 h I f3
      refine sf_n s4.1 ?_
      have s5 := SX3_nextInstruction_oc2 (z := z) x3 h I f3
      refine sf_n s5.1 ?_
      refine sf_if (fun c6 => ?_) (fun c6 => ?_)
      · unfold PX3_differences_soc2_72 FX3_differences_soc2_72
        have f7 : iv 1 4 (x3 + 1) := iv_add f3 (iv_lit (lo := 1) (hi := 1) (x := 1) rfl) rfl
        exact ih x2 (x3 + 1) h I (iv_w (c := 0) (d := 4) f7 rfl) (mu_up f3 mq rfl)
      · unfold PX3_differences_soc2_72 FX3_differences_soc2_72
        have f8 : iv 1 4 (x3 + 1) := iv_add f3 (iv_lit (lo := 1) (hi := 1) (x := 1) rfl) rfl
        exact ih (x2 + 1) (x3 + 1) h I (iv_w (c := 0) (d := 4) f8 rfl) (mu_up f3 mq rfl)
set_option maxRecDepth 100000 in
set_option maxHeartbeats 4000000 in
theorem SX3_differences_soc2_4 {z : zT} : ∀ (q : Nat) (x2 : Int32) (x3 : Int32) (h : ph_H), IC z h → iv 0 28 x3 → 28 - (x3).toInt < ((q : Nat) : Int) → PX3_differences_soc2_4  q x2 x3 h ∧ iv (-2147483648) 2147483647 (FX3_differences_soc2_4  q x2 x3 h) := by
  intro q
  induction q with
  | zero =>
    intro x2 x3 h I f_x3 mq
    exact mu_zu f_x3 mq rfl
  | succ q ih =>
    intro x2 x3 h I f_x3 mq
    unfold PX3_differences_soc2_4 FX3_differences_soc2_4
    refine sf_if (fun c1 => ?_) (fun c1 => ?_)
    · have f2 : iv 28 28 x3 := iv_ler f_x3 (iv_lit (lo := 28) (hi := 28) (x := 28) rfl) c1 rfl
      exact SX3_differences_soc2_51 2000 x2 0 h I (iv_w (c := 0) (d := 4) (iv_lit (lo := 0) (hi := 0) (x := 0) rfl) rfl) (mu_0u (iv_lit (lo := 0) (hi := 0) (x := 0) rfl) rfl)
    · have f3 : iv 0 27 x3 := iv_ltl f_x3 (iv_lit (lo := 28) (hi := 28) (x := 28) rfl) (nle c1) rfl
      refine sf_n (iv_in f3 rfl) ?_
      have f4 : iv 0 3 (h 16 (x3.toNatClampNeg)) := ICv I 16 _
      refine sf_n (iv_in f3 rfl) ?_
      have f5 : iv 0 3 (h 26 (x3.toNatClampNeg)) := ICv I 26 _
      refine sf_if (fun c6 => ?_) (fun c6 => ?_)
      · refine sf_n (iv_in f3 rfl) ?_
        refine sf_n (iv_in f3 rfl) ?_
        refine sf_if (fun c7 => ?_) (fun c7 => ?_)
        · unfold PX3_differences_soc2_43 FX3_differences_soc2_43
          have f8 : iv 1 28 (x3 + 1) := iv_add f3 (iv_lit (lo := 1) (hi := 1) (x := 1) rfl) rfl
          exact ih x2 (x3 + 1) h I (iv_w (c := 0) (d := 28) f8 rfl) (mu_up f3 mq rfl)
        · unfold PX3_differences_soc2_40 FX3_differences_soc2_40
          unfold PX3_differences_soc2_43 FX3_differences_soc2_43
          have f9 : iv 1 28 (x3 + 1) := iv_add f3 (iv_lit (lo := 1) (hi := 1) (x := 1) rfl) rfl
          exact ih (x2 + 1) (x3 + 1) h I (iv_w (c := 0) (d := 28) f9 rfl) (mu_up f3 mq rfl)
      · unfold PX3_differences_soc2_40 FX3_differences_soc2_40
        unfold PX3_differences_soc2_43 FX3_differences_soc2_43
        have f10 : iv 1 28 (x3 + 1) := iv_add f3 (iv_lit (lo := 1) (hi := 1) (x := 1) rfl) rfl
        exact ih (x2 + 1) (x3 + 1) h I (iv_w (c := 0) (d := 28) f10 rfl) (mu_up f3 mq rfl)
set_option maxRecDepth 100000 in
set_option maxHeartbeats 4000000 in
theorem SX3_differences_soc2 {z : zT} (h : ph_H) (I : IC z h) : PX3_differences_soc2 h ∧ iv (-2147483648) 2147483647 (FX3_differences_soc2 h) := by
  unfold PX3_differences_soc2 FX3_differences_soc2
  exact SX3_differences_soc2_4 2000 0 0 h I (iv_w (c := 0) (d := 28) (iv_lit (lo := 0) (hi := 0) (x := 0) rfl) rfl) (mu_0u (iv_lit (lo := 0) (hi := 0) (x := 0) rfl) rfl)

-- X3_rivalsOf_oc1
set_option maxRecDepth 100000 in
set_option maxHeartbeats 4000000 in
theorem SX3_rivalsOf_oc1_4 {z : zT} : ∀ (q : Nat) (x1 : Int32) (x2 : Int32) (x3 : Int32) (h : ph_H), IC z h → iv 0 4 x3 → 4 - (x3).toInt < ((q : Nat) : Int) → PX3_rivalsOf_oc1_4  q x1 x2 x3 h ∧ iv (-2147483648) 2147483647 (FX3_rivalsOf_oc1_4  q x1 x2 x3 h) := by
  intro q
  induction q with
  | zero =>
    intro x1 x2 x3 h I f_x3 mq
    exact mu_zu f_x3 mq rfl
  | succ q ih =>
    intro x1 x2 x3 h I f_x3 mq
    unfold PX3_rivalsOf_oc1_4 FX3_rivalsOf_oc1_4
    refine sf_if (fun c1 => ?_) (fun c1 => ?_)
    · have f2 : iv 4 4 x3 := iv_ler f_x3 (iv_lit (lo := 4) (hi := 4) (x := 4) rfl) c1 rfl
      exact ⟨trivial, (iv_any x2)⟩
    · have f3 : iv 0 3 x3 := iv_ltl f_x3 (iv_lit (lo := 4) (hi := 4) (x := 4) rfl) (nle c1) rfl
      refine sf_if (fun c4 => ?_) (fun c4 => ?_)
      · have f5 : iv 0 3 x1 := iv_eqr (iv_any x1) f3 c4 rfl
        unfold PX3_rivalsOf_oc1_28 FX3_rivalsOf_oc1_28
        have f6 : iv 1 4 (x3 + 1) := iv_add f3 (iv_lit (lo := 1) (hi := 1) (x := 1) rfl) rfl
        exact ih x1 x2 (x3 + 1) h I (iv_w (c := 0) (d := 4) f6 rfl) (mu_up f3 mq rfl)
      · have s7 := SX3_canGo_oc1 (z := z) x3 h I f3
        refine sf_n s7.1 ?_
        refine sf_if (fun c8 => ?_) (fun c8 => ?_)
        · have f9 : iv 0 0 (FX3_canGo_oc1 x3 h) := iv_eql s7.2.1 (iv_lit (lo := 0) (hi := 0) (x := 0) rfl) c8 rfl
          unfold PX3_rivalsOf_oc1_28 FX3_rivalsOf_oc1_28
          have f10 : iv 1 4 (x3 + 1) := iv_add f3 (iv_lit (lo := 1) (hi := 1) (x := 1) rfl) rfl
          exact ih x1 x2 (x3 + 1) h I (iv_w (c := 0) (d := 4) f10 rfl) (mu_up f3 mq rfl)
        · have f11 : iv 0 23 (h 28 (x3.toNatClampNeg)) := iv_and (iv_any _) (s7.2.2 c8) rfl
          have f12 : iv 1 1 (FX3_canGo_oc1 x3 h) := iv_nel s7.2.1 c8 rfl
          unfold PX3_rivalsOf_oc1_28 FX3_rivalsOf_oc1_28
          have f13 : iv 1 4 (x3 + 1) := iv_add f3 (iv_lit (lo := 1) (hi := 1) (x := 1) rfl) rfl
          exact ih x1 (x2 ||| (1 <<< (x3 &&& 31))) (x3 + 1) h I (iv_w (c := 0) (d := 4) f13 rfl) (mu_up f3 mq rfl)
set_option maxRecDepth 100000 in
set_option maxHeartbeats 4000000 in
theorem SX3_rivalsOf_oc1 {z : zT} (a0 : Int32) (h : ph_H) (I : IC z h) : PX3_rivalsOf_oc1 a0 h ∧ iv (-2147483648) 2147483647 (FX3_rivalsOf_oc1 a0 h) := by
  unfold PX3_rivalsOf_oc1 FX3_rivalsOf_oc1
  exact SX3_rivalsOf_oc1_4 2000 a0 0 0 h I (iv_w (c := 0) (d := 4) (iv_lit (lo := 0) (hi := 0) (x := 0) rfl) rfl) (mu_0u (iv_lit (lo := 0) (hi := 0) (x := 0) rfl) rfl)

-- X6_chosen
set_option maxRecDepth 100000 in
set_option maxHeartbeats 4000000 in
theorem SX6_chosen_2 {z : zT} : ∀ (q : Nat) (x1 : Int32) (x2 : Int32) (h : ph_H), IC z h → iv 0 2 x2 → 2 - (x2).toInt < ((q : Nat) : Int) → PX6_chosen_2  q x1 x2 h ∧ iv (-2147483648) 2147483647 (FX6_chosen_2  q x1 x2 h) := by
  intro q
  induction q with
  | zero =>
    intro x1 x2 h I f_x2 mq
    exact mu_zu f_x2 mq rfl
  | succ q ih =>
    intro x1 x2 h I f_x2 mq
    unfold PX6_chosen_2 FX6_chosen_2
    have f1 : iv 0 2 (h 52 6) := ICv I 52 _
    refine sf_if (fun c2 => ?_) (fun c2 => ?_)
    · exact ⟨trivial, (iv_any x1)⟩
    · have f3 : iv 0 1 x2 := iv_ltl f_x2 f1 (nle c2) rfl
      have f4 : iv 1 2 (h 52 6) := iv_ltr f1 f_x2 (nle c2) rfl
      refine sf_if (fun c5 => ?_) (fun c5 => ?_)
      · have f6 : iv 2 1 2 := iv_lel (iv_lit (lo := 2) (hi := 2) (x := 2) rfl) f3 c5 rfl
        exact iv_no f6 rfl
      · refine sf_n (iv_in f3 rfl) ?_
        have f7 : iv 0 301 (h 54 (x2.toNatClampNeg)) := ICv I 54 _
        have f8 : iv 0 300 (h 52 7) := ICv I 52 _
        refine sf_if (fun c9 => ?_) (fun c9 => ?_)
        · have f10 : iv 0 300 (h 54 (x2.toNatClampNeg)) := iv_eql f7 f8 c9 rfl
          refine sf_n (iv_in f3 rfl) ?_
          have f11 : iv (-1) 3 (h 55 (x2.toNatClampNeg)) := ICv I 55 _
          exact ⟨trivial, (iv_any (h 55 (x2.toNatClampNeg)))⟩
        · have f12 : iv 1 2 (x2 + 1) := iv_add f3 (iv_lit (lo := 1) (hi := 1) (x := 1) rfl) rfl
          exact ih x1 (x2 + 1) h I (iv_w (c := 0) (d := 2) f12 rfl) (mu_up f3 mq rfl)
set_option maxRecDepth 100000 in
set_option maxHeartbeats 4000000 in
theorem SX6_chosen {z : zT} (a0 : Int32) (h : ph_H) (I : IC z h) : PX6_chosen a0 h ∧ iv (-2147483648) 2147483647 (FX6_chosen a0 h) := by
  unfold PX6_chosen FX6_chosen
  exact SX6_chosen_2 2000 a0 0 h I (iv_w (c := 0) (d := 2) (iv_lit (lo := 0) (hi := 0) (x := 0) rfl) rfl) (mu_0u (iv_lit (lo := 0) (hi := 0) (x := 0) rfl) rfl)

-- X11_found
set_option maxRecDepth 100000 in
set_option maxHeartbeats 4000000 in
theorem SX11_found {z : zT} (a0 : Int32) (h : ph_H) (I : IC z h) : PX11_found a0 h ∧ iv (-2147483648) 2147483647 (FX11_found a0 h) := by
  unfold PX11_found FX11_found
  refine sf_if (fun c1 => ?_) (fun c1 => ?_)
  · have f2 : iv (-2147483648) (-1) a0 := iv_ltl (iv_any a0) (iv_lit (lo := 0) (hi := 0) (x := 0) rfl) c1 rfl
    exact ⟨trivial, (iv_any (-1))⟩
  · have f3 : iv 0 2147483647 a0 := iv_ler (iv_any a0) (iv_lit (lo := 0) (hi := 0) (x := 0) rfl) (nlt c1) rfl
    refine sf_if (fun c4 => ?_) (fun c4 => ?_)
    · have f5 : iv 0 6 a0 := iv_lel f3 (iv_lit (lo := 6) (hi := 6) (x := 6) rfl) c4 rfl
      refine sf_if (fun c6 => ?_) (fun c6 => ?_)
      · have f7 : iv 6 6 a0 := iv_eql f5 (iv_lit (lo := 6) (hi := 6) (x := 6) rfl) c6 rfl
        have f8 : iv 0 100 (h 52 9) := ICv I 52 _
        exact ⟨trivial, (iv_any (h 52 9))⟩
      · have f9 : iv 0 5 a0 := iv_nel f5 c6 rfl
        have f10 : iv 0 1 (h 52 10) := ICv I 52 _
        refine sf_if (fun c11 => ?_) (fun c11 => ?_)
        · have f12 : iv 0 0 (h 52 10) := iv_eql f10 (iv_lit (lo := 0) (hi := 0) (x := 0) rfl) c11 rfl
          exact ⟨trivial, (iv_any (-2))⟩
        · have f13 : iv 1 1 (h 52 10) := iv_nel f10 c11 rfl
          refine sf_if (fun c14 => ?_) (fun c14 => ?_)
          · have f15 : iv 0 0 a0 := iv_eql f9 (iv_lit (lo := 0) (hi := 0) (x := 0) rfl) c14 rfl
            have f16 : iv 0 2 (h 52 6) := ICv I 52 _
            exact ⟨trivial, (iv_any (h 52 6))⟩
          · have f17 : iv 1 5 a0 := iv_nel f9 c14 rfl
            refine sf_if (fun c18 => ?_) (fun c18 => ?_)
            · have f19 : iv 5 5 a0 := iv_eql f17 (iv_lit (lo := 5) (hi := 5) (x := 5) rfl) c18 rfl
              exact ⟨trivial, (iv_any (h 52 8))⟩
            · have f20 : iv 1 4 a0 := iv_nel f17 c18 rfl
              have f21 : iv 0 3 (a0 - 1) := iv_sub f20 (iv_lit (lo := 1) (hi := 1) (x := 1) rfl) rfl
              have f22 : iv 0 1 ((a0 - 1) / 2) := iv_div (c := 2) f21 rfl
              have f23 : iv 0 2 (h 52 6) := ICv I 52 _
              refine sf_if (fun c24 => ?_) (fun c24 => ?_)
              · have f25 : iv 1 2 (h 52 6) := iv_ltr f23 f22 c24 rfl
                refine sf_if (fun c26 => ?_) (fun c26 => ?_)
                · have f27 : iv 1 1 (a0 - a0 / 2 * 2) := iv_eql (iv_any (a0 - a0 / 2 * 2)) (iv_lit (lo := 1) (hi := 1) (x := 1) rfl) c26 rfl
                  refine sf_n (iv_in f22 rfl) ?_
                  have f28 : iv 0 301 (h 54 (((a0 - 1) / 2).toNatClampNeg)) := ICv I 54 _
                  exact ⟨trivial, (iv_any (h 54 (((a0 - 1) / 2).toNatClampNeg)))⟩
                · refine sf_n (iv_in f22 rfl) ?_
                  have f29 : iv (-1) 3 (h 55 (((a0 - 1) / 2).toNatClampNeg)) := ICv I 55 _
                  exact ⟨trivial, (iv_any (h 55 (((a0 - 1) / 2).toNatClampNeg)))⟩
              · have f30 : iv 0 1 (h 52 6) := iv_lel f23 f22 (nlt c24) rfl
                exact ⟨trivial, (iv_any (-2))⟩
    · have f31 : iv 7 2147483647 a0 := iv_ltr f3 (iv_lit (lo := 6) (hi := 6) (x := 6) rfl) (nle c4) rfl
      exact ⟨trivial, (iv_any (-1))⟩

-- X11_isShelf
set_option maxRecDepth 100000 in
set_option maxHeartbeats 4000000 in
theorem SX11_isShelf  (a0 : Int32) : PX11_isShelf a0 ∧ Qc 0 1 (fun r => ¬ r = 0 → iv 0 7 a0) (FX11_isShelf a0) := by
  unfold PX11_isShelf FX11_isShelf
  refine sf_if (fun c1 => ?_) (fun c1 => ?_)
  · have f2 : iv (-2147483648) (-1) a0 := iv_ltl (iv_any a0) (iv_lit (lo := 0) (hi := 0) (x := 0) rfl) c1 rfl
    exact ⟨trivial, (iv_w (c := 0) (d := 1) (iv_lit (lo := 0) (hi := 0) (x := 0) rfl) rfl), fun z => absurd rfl z⟩
  · have f3 : iv 0 2147483647 a0 := iv_ler (iv_any a0) (iv_lit (lo := 0) (hi := 0) (x := 0) rfl) (nlt c1) rfl
    refine sf_if (fun c4 => ?_) (fun c4 => ?_)
    · have f5 : iv 8 2147483647 a0 := iv_ler f3 (iv_lit (lo := 8) (hi := 8) (x := 8) rfl) c4 rfl
      exact ⟨trivial, (iv_w (c := 0) (d := 1) (iv_lit (lo := 0) (hi := 0) (x := 0) rfl) rfl), fun z => absurd rfl z⟩
    · have f6 : iv 0 7 a0 := iv_ltl f3 (iv_lit (lo := 8) (hi := 8) (x := 8) rfl) (nle c4) rfl
      exact ⟨trivial, (iv_w (c := 0) (d := 1) (iv_lit (lo := 1) (hi := 1) (x := 1) rfl) rfl), fun _ => f6⟩

-- X11_cellSlot
set_option maxRecDepth 100000 in
set_option maxHeartbeats 4000000 in
theorem SX11_cellSlot  (a0 : Int32) : PX11_cellSlot a0 ∧ iv (-1) 11 (FX11_cellSlot a0) := by
  unfold PX11_cellSlot FX11_cellSlot
  have s1 := SX11_isCell a0 
  refine sf_n s1.1 ?_
  refine sf_if (fun c2 => ?_) (fun c2 => ?_)
  · have f3 : iv 0 0 (FX11_isCell a0) := iv_eql s1.2.1 (iv_lit (lo := 0) (hi := 0) (x := 0) rfl) c2 rfl
    exact ⟨trivial, (iv_w (c := (-1)) (d := 11) (iv_lit (lo := (-1)) (hi := (-1)) (x := (-1)) rfl) rfl)⟩
  · have f4 : iv 0 11 a0 := iv_and (iv_any _) (s1.2.2 c2) rfl
    have f5 : iv 1 1 (FX11_isCell a0) := iv_nel s1.2.1 c2 rfl
    exact ⟨trivial, (iv_w (c := (-1)) (d := 11) f4 rfl)⟩

-- X11_localSlot
set_option maxRecDepth 100000 in
set_option maxHeartbeats 4000000 in
theorem SX11_localSlot  (a0 : Int32) (a1 : Int32) : PX11_localSlot a0 a1 ∧ iv (-1) 27 (FX11_localSlot a0 a1) := by
  unfold PX11_localSlot FX11_localSlot
  have s1 := SX11_isThread a0 
  refine sf_n s1.1 ?_
  refine sf_if (fun c2 => ?_) (fun c2 => ?_)
  · have f3 : iv 0 0 (FX11_isThread a0) := iv_eql s1.2.1 (iv_lit (lo := 0) (hi := 0) (x := 0) rfl) c2 rfl
    exact ⟨trivial, (iv_w (c := (-1)) (d := 27) (iv_lit (lo := (-1)) (hi := (-1)) (x := (-1)) rfl) rfl)⟩
  · have f4 : iv 0 3 a0 := iv_and (iv_any _) (s1.2.2 c2) rfl
    have f5 : iv 1 1 (FX11_isThread a0) := iv_nel s1.2.1 c2 rfl
    refine sf_if (fun c6 => ?_) (fun c6 => ?_)
    · have f7 : iv (-2147483648) (-1) a1 := iv_ltl (iv_any a1) (iv_lit (lo := 0) (hi := 0) (x := 0) rfl) c6 rfl
      exact ⟨trivial, (iv_w (c := (-1)) (d := 27) (iv_lit (lo := (-1)) (hi := (-1)) (x := (-1)) rfl) rfl)⟩
    · have f8 : iv 0 2147483647 a1 := iv_ler (iv_any a1) (iv_lit (lo := 0) (hi := 0) (x := 0) rfl) (nlt c6) rfl
      refine sf_if (fun c9 => ?_) (fun c9 => ?_)
      · have f10 : iv 0 3 a1 := iv_ltl f8 (iv_lit (lo := 4) (hi := 4) (x := 4) rfl) c9 rfl
        have f11 : iv 0 12 (a0 * 4) := iv_mulr (c := 4) rfl f4 rfl
        have f12 : iv 12 24 (12 + (a0 * 4)) := iv_add (iv_lit (lo := 12) (hi := 12) (x := 12) rfl) f11 rfl
        have f13 : iv 12 27 ((12 + (a0 * 4)) + a1) := iv_add f12 f10 rfl
        exact ⟨trivial, (iv_w (c := (-1)) (d := 27) f13 rfl)⟩
      · have f14 : iv 4 2147483647 a1 := iv_ler f8 (iv_lit (lo := 4) (hi := 4) (x := 4) rfl) (nlt c9) rfl
        exact ⟨trivial, (iv_w (c := (-1)) (d := 27) (iv_lit (lo := (-1)) (hi := (-1)) (x := (-1)) rfl) rfl)⟩

-- X11_fits
set_option maxRecDepth 100000 in
set_option maxHeartbeats 4000000 in
theorem SX11_fits  (a0 : Int32) (a1 : Int32) (a2 : Int32) : PX11_fits a0 a1 a2 ∧ iv 0 1 (FX11_fits a0 a1 a2) := by
  unfold PX11_fits FX11_fits
  refine sf_if (fun c1 => ?_) (fun c1 => ?_)
  · have f2 : iv (-2147483648) (-1) a1 := iv_ltl (iv_any a1) (iv_lit (lo := 0) (hi := 0) (x := 0) rfl) c1 rfl
    exact ⟨trivial, (iv_w (c := 0) (d := 1) (iv_lit (lo := 0) (hi := 0) (x := 0) rfl) rfl)⟩
  · have f3 : iv 0 2147483647 a1 := iv_ler (iv_any a1) (iv_lit (lo := 0) (hi := 0) (x := 0) rfl) (nlt c1) rfl
    refine sf_if (fun c4 => ?_) (fun c4 => ?_)
    · have f5 : iv (-2147483648) (-1) a0 := iv_ltl (iv_any a0) (iv_lit (lo := 0) (hi := 0) (x := 0) rfl) c4 rfl
      exact ⟨trivial, (iv_w (c := 0) (d := 1) (iv_lit (lo := 0) (hi := 0) (x := 0) rfl) rfl)⟩
    · have f6 : iv 0 2147483647 a0 := iv_ler (iv_any a0) (iv_lit (lo := 0) (hi := 0) (x := 0) rfl) (nlt c4) rfl
      refine sf_if (fun c7 => ?_) (fun c7 => ?_)
      · have f8 : iv (-2147483648) 2147483646 a2 := iv_ltl (iv_any a2) f3 c7 rfl
        exact ⟨trivial, (iv_w (c := 0) (d := 1) (iv_lit (lo := 0) (hi := 0) (x := 0) rfl) rfl)⟩
      · have f9 : iv 0 2147483647 a2 := iv_ler (iv_any a2) f3 (nlt c7) rfl
        have f10 : iv 0 2147483647 (a2 - a1) := iv_subo f9 f3 (nlt c7) rfl
        refine sf_if (fun c11 => ?_) (fun c11 => ?_)
        · have f12 : iv 0 2147483646 (a2 - a1) := iv_ltl f10 f6 c11 rfl
          have f13 : iv 1 2147483647 a0 := iv_ltr f6 f10 c11 rfl
          exact ⟨trivial, (iv_w (c := 0) (d := 1) (iv_lit (lo := 0) (hi := 0) (x := 0) rfl) rfl)⟩
        · exact ⟨trivial, (iv_w (c := 0) (d := 1) (iv_lit (lo := 1) (hi := 1) (x := 1) rfl) rfl)⟩
