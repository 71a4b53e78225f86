-- X3_putCell_oc1
set_option maxRecDepth 100000 in
set_option maxHeartbeats 4000000 in
theorem SX3_putCell_oc1 {z : zT} (a0 : Int32) (a1 : Int32) (h : ph_H) (I : IC z h) (f_a0 : iv 0 11 a0) (f_a1 : iv 0 27 a1) : PX3_putCell_oc1 a0 a1 h ∧ QC z 0 0 (FX3_putCell_oc1 a0 a1 h) := by
  unfold PX3_putCell_oc1 FX3_putCell_oc1
  have I1 : IC z (hs h 25 15 a0) := ICs I (k := 25) (i := 15) (v := a0) (iv_any a0) rfl
  refine sf_n (iv_in f_a1 rfl) ?_
  have f2 : iv 0 3 (h 26 (a1.toNatClampNeg)) := ICv I 26 _
  refine sf_n (iv_in f_a1 rfl) ?_
  have s3 := SX3_hold_oc1 (z := z) a0 (h 26 (a1.toNatClampNeg)) (h 27 (a1.toNatClampNeg)) (hs h 25 15 a0) I1 (iv_w (c := 0) (d := 27) f_a0 rfl) f2 (I.2.1.2.1 _)
  refine sf_n s3.1 ?_
  exact ⟨trivial, QC_mk s3.2.1 s3.2.2⟩

-- X3_hasRowPlace_oc1
set_option maxRecDepth 100000 in
set_option maxHeartbeats 4000000 in
theorem SX3_hasRowPlace_oc1 {z : zT} (a0 : Int32) (a1 : Int32) (h : ph_H) (I : IC z h) : PX3_hasRowPlace_oc1 a0 a1 h ∧ Qc 0 1 (fun r => ¬ r = 0 → iv 0 11 a0 ∧ iv 0 15 a1) (FX3_hasRowPlace_oc1 a0 a1 h) := by
  unfold PX3_hasRowPlace_oc1 FX3_hasRowPlace_oc1
  refine sf_if (fun c1 => ?_) (fun c1 => ?_)
  · have f2 : iv (-2147483648) (-1) a0 := iv_ltl (iv_any a0) (iv_lit (lo := 0) (hi := 0) (x := 0) rfl) c1 rfl
    exact ⟨trivial, (iv_w (c := 0) (d := 1) (iv_lit (lo := 0) (hi := 0) (x := 0) rfl) rfl), fun z => absurd rfl z⟩
  · have f3 : iv 0 2147483647 a0 := iv_ler (iv_any a0) (iv_lit (lo := 0) (hi := 0) (x := 0) rfl) (nlt c1) rfl
    have f4 : iv 0 12 (h 25 10) := ICv I 25 _
    refine sf_if (fun c5 => ?_) (fun c5 => ?_)
    · exact ⟨trivial, (iv_w (c := 0) (d := 1) (iv_lit (lo := 0) (hi := 0) (x := 0) rfl) rfl), fun z => absurd rfl z⟩
    · have f6 : iv 0 11 a0 := iv_ltl f3 f4 (nle c5) rfl
      have f7 : iv 1 12 (h 25 10) := iv_ltr f4 f3 (nle c5) rfl
      refine sf_n (iv_in f6 rfl) ?_
      refine sf_if (fun c8 => ?_) (fun c8 => ?_)
      · have f9 : iv 1 1 (h 31 (a0.toNatClampNeg)) := iv_eql (iv_any (h 31 (a0.toNatClampNeg))) (iv_lit (lo := 1) (hi := 1) (x := 1) rfl) c8 rfl
        refine sf_if (fun c10 => ?_) (fun c10 => ?_)
        · have f11 : iv (-2147483648) (-1) a1 := iv_ltl (iv_any a1) (iv_lit (lo := 0) (hi := 0) (x := 0) rfl) c10 rfl
          exact ⟨trivial, (iv_w (c := 0) (d := 1) (iv_lit (lo := 0) (hi := 0) (x := 0) rfl) rfl), fun z => absurd rfl z⟩
        · have f12 : iv 0 2147483647 a1 := iv_ler (iv_any a1) (iv_lit (lo := 0) (hi := 0) (x := 0) rfl) (nlt c10) rfl
          refine sf_n (iv_in f6 rfl) ?_
          have f13 : iv 0 16 (h 32 (a0.toNatClampNeg)) := ICv I 32 _
          refine sf_if (fun c14 => ?_) (fun c14 => ?_)
          · exact ⟨trivial, (iv_w (c := 0) (d := 1) (iv_lit (lo := 0) (hi := 0) (x := 0) rfl) rfl), fun z => absurd rfl z⟩
          · have f15 : iv 0 15 a1 := iv_ltl f12 f13 (nle c14) rfl
            have f16 : iv 1 16 (h 32 (a0.toNatClampNeg)) := iv_ltr f13 f12 (nle c14) rfl
            exact ⟨trivial, (iv_w (c := 0) (d := 1) (iv_lit (lo := 1) (hi := 1) (x := 1) rfl) rfl), fun _ => ⟨f6, f15⟩⟩
      · exact ⟨trivial, (iv_w (c := 0) (d := 1) (iv_lit (lo := 0) (hi := 0) (x := 0) rfl) rfl), fun z => absurd rfl z⟩

-- X3_readRow_oc1
set_option maxRecDepth 100000 in
set_option maxHeartbeats 4000000 in
theorem SX3_readRow_oc1 {z : zT} (a0 : Int32) (a1 : Int32) (a2 : Int32) (h : ph_H) (I : IC z h) (f_a0 : iv 0 27 a0) (f_a1 : iv 0 27 a1) (f_a2 : iv 0 27 a2) : PX3_readRow_oc1 a0 a1 a2 h ∧ QC z 0 4 (FX3_readRow_oc1 a0 a1 a2 h) := by
  unfold PX3_readRow_oc1 FX3_readRow_oc1
  refine sf_n (iv_in f_a1 rfl) ?_
  have f1 : iv 0 3 (h 26 (a1.toNatClampNeg)) := ICv I 26 _
  refine sf_if (fun c2 => ?_) (fun c2 => ?_)
  · have f3 : iv 1 1 (h 26 (a1.toNatClampNeg)) := iv_eql f1 (iv_lit (lo := 1) (hi := 1) (x := 1) rfl) c2 rfl
    have f4 : iv 0 11 (h 27 (a1.toNatClampNeg)) := KVn_o I f3 rfl
    refine sf_n (iv_in f_a2 rfl) ?_
    have f5 : iv 0 3 (h 26 (a2.toNatClampNeg)) := ICv I 26 _
    refine sf_if (fun c6 => ?_) (fun c6 => ?_)
    · have f7 : iv 0 0 (h 26 (a2.toNatClampNeg)) := iv_eql f5 (iv_lit (lo := 0) (hi := 0) (x := 0) rfl) c6 rfl
      refine sf_n (iv_in f_a1 rfl) ?_
      refine sf_n (iv_in f_a2 rfl) ?_
      have s8 := SX3_hasRowPlace_oc1 (z := z) (h 27 (a1.toNatClampNeg)) (h 27 (a2.toNatClampNeg)) h I
      refine sf_n s8.1 ?_
      refine sf_if (fun c9 => ?_) (fun c9 => ?_)
      · have f10 : iv 0 0 (FX3_hasRowPlace_oc1 (h 27 (a1.toNatClampNeg)) (h 27 (a2.toNatClampNeg)) h) := iv_eql s8.2.1 (iv_lit (lo := 0) (hi := 0) (x := 0) rfl) c9 rfl
        exact ⟨trivial, QC_mk (iv_w (c := 0) (d := 4) (iv_lit (lo := 4) (hi := 4) (x := 4) rfl) rfl) I⟩
      · have f11 : iv 0 15 (h 27 (a2.toNatClampNeg)) := iv_and (iv_any _) (s8.2.2 c9).2 rfl
        have f12 : iv 1 1 (FX3_hasRowPlace_oc1 (h 27 (a1.toNatClampNeg)) (h 27 (a2.toNatClampNeg)) h) := iv_nel s8.2.1 c9 rfl
        have f13 : iv 0 220 ((h 27 (a1.toNatClampNeg)) * 20) := iv_mulr (c := 20) rfl f4 rfl
        have f14 : iv 100 320 (100 + ((h 27 (a1.toNatClampNeg)) * 20)) := iv_add (iv_lit (lo := 100) (hi := 100) (x := 100) rfl) f13 rfl
        have f15 : iv 100 335 ((100 + ((h 27 (a1.toNatClampNeg)) * 20)) + (h 27 (a2.toNatClampNeg))) := iv_add f14 f11 rfl
        have I16 : IC z (hs h 25 14 ((100 + ((h 27 (a1.toNatClampNeg)) * 20)) + (h 27 (a2.toNatClampNeg)))) := ICs I (k := 25) (i := 14) (v := ((100 + ((h 27 (a1.toNatClampNeg)) * 20)) + (h 27 (a2.toNatClampNeg)))) (iv_any ((100 + ((h 27 (a1.toNatClampNeg)) * 20)) + (h 27 (a2.toNatClampNeg)))) rfl
        have f17 : iv 0 176 ((h 27 (a1.toNatClampNeg)) * 16) := iv_mulr (c := 16) rfl f4 rfl
        have f18 : iv 0 191 (((h 27 (a1.toNatClampNeg)) * 16) + (h 27 (a2.toNatClampNeg))) := iv_add f17 f11 rfl
        refine sf_n (iv_in f18 rfl) ?_
        have s19 := SX3_hold_oc1 (z := z) a0 0 (h 34 ((((h 27 (a1.toNatClampNeg)) * 16) + (h 27 (a2.toNatClampNeg))).toNatClampNeg)) (hs h 25 14 ((100 + ((h 27 (a1.toNatClampNeg)) * 20)) + (h 27 (a2.toNatClampNeg)))) I16 f_a0 (iv_w (c := 0) (d := 3) (iv_lit (lo := 0) (hi := 0) (x := 0) rfl) rfl) (Or.inl rfl)
        refine sf_n s19.1 ?_
        exact ⟨trivial, QC_mk (iv_w (c := 0) (d := 4) s19.2.1 rfl) s19.2.2⟩
    · have f20 : iv 1 3 (h 26 (a2.toNatClampNeg)) := iv_nel f5 c6 rfl
      have f21 : iv 0 11 (h 27 (a2.toNatClampNeg)) := KVn_o I f20 rfl
      exact ⟨trivial, QC_mk (iv_w (c := 0) (d := 4) (iv_lit (lo := 1) (hi := 1) (x := 1) rfl) rfl) I⟩
  · exact ⟨trivial, QC_mk (iv_w (c := 0) (d := 4) (iv_lit (lo := 1) (hi := 1) (x := 1) rfl) rfl) I⟩

-- X3_bothNumbers_oc1
set_option maxRecDepth 100000 in
set_option maxHeartbeats 4000000 in
theorem SX3_bothNumbers_oc1 {z : zT} (a0 : Int32) (a1 : Int32) (h : ph_H) (I : IC z h) (f_a0 : iv 0 27 a0) (f_a1 : iv 0 27 a1) : PX3_bothNumbers_oc1 a0 a1 h ∧ iv 0 1 (FX3_bothNumbers_oc1 a0 a1 h) := by
  unfold PX3_bothNumbers_oc1 FX3_bothNumbers_oc1
  refine sf_n (iv_in f_a0 rfl) ?_
  have f1 : iv 0 3 (h 26 (a0.toNatClampNeg)) := ICv I 26 _
  refine sf_if (fun c2 => ?_) (fun c2 => ?_)
  · have f3 : iv 0 0 (h 26 (a0.toNatClampNeg)) := iv_eql f1 (iv_lit (lo := 0) (hi := 0) (x := 0) rfl) c2 rfl
    refine sf_n (iv_in f_a1 rfl) ?_
    have f4 : iv 0 3 (h 26 (a1.toNatClampNeg)) := ICv I 26 _
    refine sf_if (fun c5 => ?_) (fun c5 => ?_)
    · have f6 : iv 0 0 (h 26 (a1.toNatClampNeg)) := iv_eql f4 (iv_lit (lo := 0) (hi := 0) (x := 0) rfl) c5 rfl
      exact ⟨trivial, (iv_w (c := 0) (d := 1) (iv_lit (lo := 1) (hi := 1) (x := 1) rfl) rfl)⟩
    · have f7 : iv 1 3 (h 26 (a1.toNatClampNeg)) := iv_nel f4 c5 rfl
      have f8 : iv 0 11 (h 27 (a1.toNatClampNeg)) := KVn_o I f7 rfl
      exact ⟨trivial, (iv_w (c := 0) (d := 1) (iv_lit (lo := 0) (hi := 0) (x := 0) rfl) rfl)⟩
  · have f9 : iv 1 3 (h 26 (a0.toNatClampNeg)) := iv_nel f1 c2 rfl
    have f10 : iv 0 11 (h 27 (a0.toNatClampNeg)) := KVn_o I f9 rfl
    exact ⟨trivial, (iv_w (c := 0) (d := 1) (iv_lit (lo := 0) (hi := 0) (x := 0) rfl) rfl)⟩

-- X3_reckon_oc1
set_option maxRecDepth 100000 in
set_option maxHeartbeats 4000000 in
theorem SX3_reckon_oc1 {z : zT} (a0 : Int32) (a1 : Int32) (a2 : Int32) (h : ph_H) (I : IC z h) (f_a1 : iv 0 27 a1) (f_a2 : iv 0 27 a2) : PX3_reckon_oc1 a0 a1 a2 h ∧ QC z 0 1 (FX3_reckon_oc1 a0 a1 a2 h) := by
  unfold PX3_reckon_oc1 FX3_reckon_oc1
  have s1 := SX3_bothNumbers_oc1 (z := z) a1 a2 h I f_a1 f_a2
  refine sf_n s1.1 ?_
  refine sf_if (fun c2 => ?_) (fun c2 => ?_)
  · have f3 : iv 0 0 (FX3_bothNumbers_oc1 a1 a2 h) := iv_eql s1.2 (iv_lit (lo := 0) (hi := 0) (x := 0) rfl) c2 rfl
    exact ⟨trivial, QC_mk (iv_w (c := 0) (d := 1) (iv_lit (lo := 1) (hi := 1) (x := 1) rfl) rfl) I⟩
  · have f4 : iv 1 1 (FX3_bothNumbers_oc1 a1 a2 h) := iv_nel s1.2 c2 rfl
    refine sf_n (iv_in f_a1 rfl) ?_
    refine sf_n (iv_in f_a2 rfl) ?_
    refine sf_if (fun c5 => ?_) (fun c5 => ?_)
    · have f6 : iv 3 3 a0 := iv_eql (iv_any a0) (iv_lit (lo := 3) (hi := 3) (x := 3) rfl) c5 rfl
      unfold PX3_reckon_oc1_58 FX3_reckon_oc1_58
      have s7 := SX3_hold_oc1 (z := z) a1 0 ((h 27 (a1.toNatClampNeg)) + (h 27 (a2.toNatClampNeg))) h I f_a1 (iv_w (c := 0) (d := 3) (iv_lit (lo := 0) (hi := 0) (x := 0) rfl) rfl) (Or.inl rfl)
      refine sf_n s7.1 ?_
      exact ⟨trivial, QC_mk (iv_w (c := 0) (d := 1) s7.2.1 rfl) s7.2.2⟩
    · refine sf_if (fun c8 => ?_) (fun c8 => ?_)
      · have f9 : iv 4 4 a0 := iv_eql (iv_any a0) (iv_lit (lo := 4) (hi := 4) (x := 4) rfl) c8 rfl
        unfold PX3_reckon_oc1_58 FX3_reckon_oc1_58
        have s10 := SX3_hold_oc1 (z := z) a1 0 ((h 27 (a1.toNatClampNeg)) - (h 27 (a2.toNatClampNeg))) h I f_a1 (iv_w (c := 0) (d := 3) (iv_lit (lo := 0) (hi := 0) (x := 0) rfl) rfl) (Or.inl rfl)
        refine sf_n s10.1 ?_
        exact ⟨trivial, QC_mk (iv_w (c := 0) (d := 1) s10.2.1 rfl) s10.2.2⟩
      · unfold PX3_reckon_oc1_58 FX3_reckon_oc1_58
        have s11 := SX3_hold_oc1 (z := z) a1 0 ((h 27 (a1.toNatClampNeg)) * (h 27 (a2.toNatClampNeg))) h I f_a1 (iv_w (c := 0) (d := 3) (iv_lit (lo := 0) (hi := 0) (x := 0) rfl) rfl) (Or.inl rfl)
        refine sf_n s11.1 ?_
        exact ⟨trivial, QC_mk (iv_w (c := 0) (d := 1) s11.2.1 rfl) s11.2.2⟩

-- X3_startThread_oc1
set_option maxRecDepth 100000 in
set_option maxHeartbeats 4000000 in
theorem SX3_startThread_oc1 {z : zT} (a0 : Int32) (h : ph_H) (I : IC z h) (f_a0 : iv 0 3 a0) : PX3_startThread_oc1 a0 h ∧ QC z 0 5 (FX3_startThread_oc1 a0 h) := by
  unfold PX3_startThread_oc1 FX3_startThread_oc1
  refine sf_n (iv_in f_a0 rfl) ?_
  refine sf_if (fun c1 => ?_) (fun c1 => ?_)
  · have f2 : iv 0 0 (h 29 (a0.toNatClampNeg)) := iv_eql (iv_any (h 29 (a0.toNatClampNeg))) (iv_lit (lo := 0) (hi := 0) (x := 0) rfl) c1 rfl
    refine sf_n (iv_in f_a0 rfl) ?_
    have I3 : IC z (hs h 29 a0.toNatClampNeg 1) := ICs I (k := 29) (i := a0.toNatClampNeg) (v := 1) (iv_any 1) rfl
    have I4 : IC z (hs (hs h 29 a0.toNatClampNeg 1) 25 16 4) := ICs I3 (k := 25) (i := 16) (v := 4) (iv_w (c := 0) (d := 4) (iv_lit (lo := 4) (hi := 4) (x := 4) rfl) rfl) rfl
    have I5 : IC z (hs (hs (hs h 29 a0.toNatClampNeg 1) 25 16 4) 25 17 a0) := ICs I4 (k := 25) (i := 17) (v := a0) (iv_w (c := 0) (d := 11) f_a0 rfl) rfl
    exact ⟨trivial, QC_mk (iv_w (c := 0) (d := 5) (iv_lit (lo := 0) (hi := 0) (x := 0) rfl) rfl) I5⟩
  · exact ⟨trivial, QC_mk (iv_w (c := 0) (d := 5) (iv_lit (lo := 5) (hi := 5) (x := 5) rfl) rfl) I⟩

-- X3_takeInput_oc1
set_option maxRecDepth 100000 in
set_option maxHeartbeats 4000000 in
theorem SX3_takeInput_oc1 {z : zT} (a0 : Int32) (h : ph_H) (I : IC z h) (f_a0 : iv 0 27 a0) : PX3_takeInput_oc1 a0 h ∧ QC z 0 7 (FX3_takeInput_oc1 a0 h) := by
  unfold PX3_takeInput_oc1 FX3_takeInput_oc1
  have f1 : iv 0 30 (h 25 12) := ICv I 25 _
  refine sf_if (fun c2 => ?_) (fun c2 => ?_)
  · have f3 : iv (-2147483648) 30 (h 25 11) := iv_lel (iv_any (h 25 11)) f1 c2 rfl
    exact ⟨trivial, QC_mk (iv_w (c := 0) (d := 7) (iv_lit (lo := 7) (hi := 7) (x := 7) rfl) rfl) I⟩
  · have f4 : iv 1 2147483647 (h 25 11) := iv_ltr (iv_any (h 25 11)) f1 (nle c2) rfl
    refine sf_if (fun c5 => ?_) (fun c5 => ?_)
    · have f6 : iv 0 29 (h 25 12) := iv_ltl f1 (iv_lit (lo := 30) (hi := 30) (x := 30) rfl) c5 rfl
      have f7 : iv 1 30 ((h 25 12) + 1) := iv_add f6 (iv_lit (lo := 1) (hi := 1) (x := 1) rfl) rfl
      have I8 : IC z (hs h 25 12 ((h 25 12) + 1)) := ICs I (k := 25) (i := 12) (v := ((h 25 12) + 1)) (iv_w (c := 0) (d := 30) f7 rfl) rfl
      have f9 : iv 0 29 (((h 25 12) + 1) - 1) := iv_sub f7 (iv_lit (lo := 1) (hi := 1) (x := 1) rfl) rfl
      refine sf_n (iv_in f9 rfl) ?_
      have s10 := SX3_hold_oc1 (z := z) a0 0 (h 5 ((((h 25 12) + 1) - 1).toNatClampNeg)) (hs h 25 12 ((h 25 12) + 1)) I8 f_a0 (iv_w (c := 0) (d := 3) (iv_lit (lo := 0) (hi := 0) (x := 0) rfl) rfl) (Or.inl rfl)
      refine sf_n s10.1 ?_
      exact ⟨trivial, QC_mk (iv_w (c := 0) (d := 7) s10.2.1 rfl) s10.2.2⟩
    · have f11 : iv 30 30 (h 25 12) := iv_ler f1 (iv_lit (lo := 30) (hi := 30) (x := 30) rfl) (nlt c5) rfl
      exact ⟨trivial, QC_mk (iv_w (c := 0) (d := 7) (iv_lit (lo := 7) (hi := 7) (x := 7) rfl) rfl) I⟩

-- X3_own_oc1
set_option maxRecDepth 100000 in
set_option maxHeartbeats 4000000 in
theorem SX3_own_oc1 {z : zT} (a0 : Int32) (a1 : Int32) (h : ph_H) (I : IC z h) (f_a1 : iv 0 11 a1) : PX3_own_oc1 a0 a1 h ∧ QC z 0 0 (FX3_own_oc1 a0 a1 h) := by
  unfold PX3_own_oc1 FX3_own_oc1
  refine sf_n (iv_in f_a1 rfl) ?_
  have I1 : IC z (hs h 33 a1.toNatClampNeg a0) := ICs I (k := 33) (i := a1.toNatClampNeg) (v := a0) (iv_any a0) rfl
  have I2 : IC z (hs (hs h 33 a1.toNatClampNeg a0) 25 16 1) := ICs I1 (k := 25) (i := 16) (v := 1) (iv_w (c := 0) (d := 4) (iv_lit (lo := 1) (hi := 1) (x := 1) rfl) rfl) rfl
  have I3 : IC z (hs (hs (hs h 33 a1.toNatClampNeg a0) 25 16 1) 25 17 a1) := ICs I2 (k := 25) (i := 17) (v := a1) f_a1 rfl
  exact ⟨trivial, QC_mk (iv_lit (lo := 0) (hi := 0) (x := 0) rfl) I3⟩

-- X3_takeLock_oc1
set_option maxRecDepth 100000 in
set_option maxHeartbeats 4000000 in
theorem SX3_takeLock_oc1 {z : zT} (a0 : Int32) (a1 : Int32) (h : ph_H) (I : IC z h) (f_a0 : iv 0 3 a0) (f_a1 : iv 0 27 a1) : PX3_takeLock_oc1 a0 a1 h ∧ QC z 0 5 (FX3_takeLock_oc1 a0 a1 h) := by
  unfold PX3_takeLock_oc1 FX3_takeLock_oc1
  have s1 := SX3_lockIn_oc1 (z := z) a1 h I f_a1
  refine sf_n s1.1 ?_
  refine sf_if (fun c2 => ?_) (fun c2 => ?_)
  · have f3 : iv 0 11 (FX3_lockIn_oc1 a1 h) := iv_ler s1.2 (iv_lit (lo := 0) (hi := 0) (x := 0) rfl) c2 rfl
    refine sf_n (iv_in f3 rfl) ?_
    refine sf_if (fun c4 => ?_) (fun c4 => ?_)
    · have f5 : iv 0 3 (h 33 ((FX3_lockIn_oc1 a1 h).toNatClampNeg)) := iv_eql (iv_any (h 33 ((FX3_lockIn_oc1 a1 h).toNatClampNeg))) f_a0 c4 rfl
      exact ⟨trivial, QC_mk (iv_w (c := 0) (d := 5) (iv_lit (lo := 5) (hi := 5) (x := 5) rfl) rfl) I⟩
    · have s6 := SX3_own_oc1 (z := z) a0 (FX3_lockIn_oc1 a1 h) h I f3
      refine sf_n s6.1 ?_
      exact ⟨trivial, QC_mk (iv_w (c := 0) (d := 5) s6.2.1 rfl) s6.2.2⟩
  · have f7 : iv (-1) (-1) (FX3_lockIn_oc1 a1 h) := iv_ltl s1.2 (iv_lit (lo := 0) (hi := 0) (x := 0) rfl) (nle c2) rfl
    exact ⟨trivial, QC_mk (iv_w (c := 0) (d := 5) (iv_lit (lo := 1) (hi := 1) (x := 1) rfl) rfl) I⟩

-- X3_wakeSleepers_oc1
set_option maxRecDepth 100000 in
set_option maxHeartbeats 4000000 in
theorem SX3_wakeSleepers_oc1_28 {z : zT} : ∀ (q : Nat) (x3 : Int32) (x4 : Int32) (h : ph_H), IC z h → iv 0 11 x3 → iv 0 4 x4 → 4 - (x4).toInt < ((q : Nat) : Int) → PX3_wakeSleepers_oc1_28  q x3 x4 h ∧ QC z 0 6 (FX3_wakeSleepers_oc1_28  q x3 x4 h) := by
  intro q
  induction q with
  | zero =>
    intro x3 x4 h I f_x3 f_x4 mq
    exact mu_zu f_x4 mq rfl
  | succ q ih =>
    intro x3 x4 h I f_x3 f_x4 mq
    unfold PX3_wakeSleepers_oc1_28 FX3_wakeSleepers_oc1_28
    refine sf_if (fun c1 => ?_) (fun c1 => ?_)
    · have f2 : iv 4 4 x4 := iv_ler f_x4 (iv_lit (lo := 4) (hi := 4) (x := 4) rfl) c1 rfl
      have I3 : IC z (hs h 25 16 3) := ICs I (k := 25) (i := 16) (v := 3) (iv_w (c := 0) (d := 4) (iv_lit (lo := 3) (hi := 3) (x := 3) rfl) rfl) rfl
      exact ⟨trivial, QC_mk (iv_w (c := 0) (d := 6) (iv_lit (lo := 0) (hi := 0) (x := 0) rfl) rfl) I3⟩
    · have f4 : iv 0 3 x4 := iv_ltl f_x4 (iv_lit (lo := 4) (hi := 4) (x := 4) rfl) (nle c1) rfl
      refine sf_n (iv_in f4 rfl) ?_
      refine sf_if (fun c5 => ?_) (fun c5 => ?_)
      · have f6 : iv 2 2 (h 29 (x4.toNatClampNeg)) := iv_eql (iv_any (h 29 (x4.toNatClampNeg))) (iv_lit (lo := 2) (hi := 2) (x := 2) rfl) c5 rfl
        refine sf_n (iv_in f4 rfl) ?_
        have f7 : iv 0 11 (h 30 (x4.toNatClampNeg)) := ICv I 30 _
        refine sf_if (fun c8 => ?_) (fun c8 => ?_)
        · refine sf_n (iv_in f4 rfl) ?_
          have I9 : IC z (hs h 29 x4.toNatClampNeg 3) := ICs I (k := 29) (i := x4.toNatClampNeg) (v := 3) (iv_any 3) rfl
          unfold PX3_wakeSleepers_oc1_64 FX3_wakeSleepers_oc1_64
          have f10 : iv 1 4 (x4 + 1) := iv_add f4 (iv_lit (lo := 1) (hi := 1) (x := 1) rfl) rfl
          exact ih x3 (x4 + 1) (hs h 29 x4.toNatClampNeg 3) I9 f_x3 (iv_w (c := 0) (d := 4) f10 rfl) (mu_up f4 mq rfl)
        · unfold PX3_wakeSleepers_oc1_64 FX3_wakeSleepers_oc1_64
          have f11 : iv 1 4 (x4 + 1) := iv_add f4 (iv_lit (lo := 1) (hi := 1) (x := 1) rfl) rfl
          exact ih x3 (x4 + 1) h I f_x3 (iv_w (c := 0) (d := 4) f11 rfl) (mu_up f4 mq rfl)
      · unfold PX3_wakeSleepers_oc1_64 FX3_wakeSleepers_oc1_64
        have f12 : iv 1 4 (x4 + 1) := iv_add f4 (iv_lit (lo := 1) (hi := 1) (x := 1) rfl) rfl
        exact ih x3 (x4 + 1) h I f_x3 (iv_w (c := 0) (d := 4) f12 rfl) (mu_up f4 mq rfl)
set_option maxRecDepth 100000 in
set_option maxHeartbeats 4000000 in
theorem SX3_wakeSleepers_oc1 {z : zT} (a0 : Int32) (a1 : Int32) (h : ph_H) (I : IC z h) (f_a1 : iv 0 27 a1) : PX3_wakeSleepers_oc1 a0 a1 h ∧ QC z 0 6 (FX3_wakeSleepers_oc1 a0 a1 h) := by
  unfold PX3_wakeSleepers_oc1 FX3_wakeSleepers_oc1
  have s1 := SX3_gateIn_oc1 (z := z) a1 h I f_a1
  refine sf_n s1.1 ?_
  refine sf_if (fun c2 => ?_) (fun c2 => ?_)
  · have f3 : iv 0 11 (FX3_gateIn_oc1 a1 h) := iv_ler s1.2 (iv_lit (lo := 0) (hi := 0) (x := 0) rfl) c2 rfl
    refine sf_n (iv_in f3 rfl) ?_
    refine sf_if (fun c4 => ?_) (fun c4 => ?_)
    · exact SX3_wakeSleepers_oc1_28 2000 (FX3_gateIn_oc1 a1 h) 0 h I f3 (iv_w (c := 0) (d := 4) (iv_lit (lo := 0) (hi := 0) (x := 0) rfl) rfl) (mu_0u (iv_lit (lo := 0) (hi := 0) (x := 0) rfl) rfl)
    · exact ⟨trivial, QC_mk (iv_w (c := 0) (d := 6) (iv_lit (lo := 6) (hi := 6) (x := 6) rfl) rfl) I⟩
  · have f5 : iv (-1) (-1) (FX3_gateIn_oc1 a1 h) := iv_ltl s1.2 (iv_lit (lo := 0) (hi := 0) (x := 0) rfl) (nle c2) rfl
    exact ⟨trivial, QC_mk (iv_w (c := 0) (d := 6) (iv_lit (lo := 1) (hi := 1) (x := 1) rfl) rfl) I⟩

-- X3_writeRow_oc1
set_option maxRecDepth 100000 in
set_option maxHeartbeats 4000000 in
theorem SX3_writeRow_oc1 {z : zT} (a0 : Int32) (a1 : Int32) (a2 : Int32) (h : ph_H) (I : IC z h) (f_a0 : iv 0 27 a0) (f_a1 : iv 0 27 a1) (f_a2 : iv 0 27 a2) : PX3_writeRow_oc1 a0 a1 a2 h ∧ QC z 0 4 (FX3_writeRow_oc1 a0 a1 a2 h) := by
  unfold PX3_writeRow_oc1 FX3_writeRow_oc1
  refine sf_n (iv_in f_a0 rfl) ?_
  have f1 : iv 0 3 (h 26 (a0.toNatClampNeg)) := ICv I 26 _
  refine sf_if (fun c2 => ?_) (fun c2 => ?_)
  · have f3 : iv 1 1 (h 26 (a0.toNatClampNeg)) := iv_eql f1 (iv_lit (lo := 1) (hi := 1) (x := 1) rfl) c2 rfl
    have f4 : iv 0 11 (h 27 (a0.toNatClampNeg)) := KVn_o I f3 rfl
    have s5 := SX3_bothNumbers_oc1 (z := z) a1 a2 h I f_a1 f_a2
    refine sf_n s5.1 ?_
    refine sf_if (fun c6 => ?_) (fun c6 => ?_)
    · have f7 : iv 0 0 (FX3_bothNumbers_oc1 a1 a2 h) := iv_eql s5.2 (iv_lit (lo := 0) (hi := 0) (x := 0) rfl) c6 rfl
      exact ⟨trivial, QC_mk (iv_w (c := 0) (d := 4) (iv_lit (lo := 1) (hi := 1) (x := 1) rfl) rfl) I⟩
    · have f8 : iv 1 1 (FX3_bothNumbers_oc1 a1 a2 h) := iv_nel s5.2 c6 rfl
      refine sf_n (iv_in f_a0 rfl) ?_
      refine sf_n (iv_in f_a1 rfl) ?_
      have s9 := SX3_hasRowPlace_oc1 (z := z) (h 27 (a0.toNatClampNeg)) (h 27 (a1.toNatClampNeg)) h I
      refine sf_n s9.1 ?_
      refine sf_if (fun c10 => ?_) (fun c10 => ?_)
      · have f11 : iv 0 0 (FX3_hasRowPlace_oc1 (h 27 (a0.toNatClampNeg)) (h 27 (a1.toNatClampNeg)) h) := iv_eql s9.2.1 (iv_lit (lo := 0) (hi := 0) (x := 0) rfl) c10 rfl
        exact ⟨trivial, QC_mk (iv_w (c := 0) (d := 4) (iv_lit (lo := 4) (hi := 4) (x := 4) rfl) rfl) I⟩
      · have f12 : iv 0 15 (h 27 (a1.toNatClampNeg)) := iv_and (iv_any _) (s9.2.2 c10).2 rfl
        have f13 : iv 1 1 (FX3_hasRowPlace_oc1 (h 27 (a0.toNatClampNeg)) (h 27 (a1.toNatClampNeg)) h) := iv_nel s9.2.1 c10 rfl
        have f14 : iv 0 220 ((h 27 (a0.toNatClampNeg)) * 20) := iv_mulr (c := 20) rfl f4 rfl
        have f15 : iv 100 320 (100 + ((h 27 (a0.toNatClampNeg)) * 20)) := iv_add (iv_lit (lo := 100) (hi := 100) (x := 100) rfl) f14 rfl
        have f16 : iv 100 335 ((100 + ((h 27 (a0.toNatClampNeg)) * 20)) + (h 27 (a1.toNatClampNeg))) := iv_add f15 f12 rfl
        have I17 : IC z (hs h 25 15 ((100 + ((h 27 (a0.toNatClampNeg)) * 20)) + (h 27 (a1.toNatClampNeg)))) := ICs I (k := 25) (i := 15) (v := ((100 + ((h 27 (a0.toNatClampNeg)) * 20)) + (h 27 (a1.toNatClampNeg)))) (iv_any ((100 + ((h 27 (a0.toNatClampNeg)) * 20)) + (h 27 (a1.toNatClampNeg)))) rfl
        have f18 : iv 0 176 ((h 27 (a0.toNatClampNeg)) * 16) := iv_mulr (c := 16) rfl f4 rfl
        have f19 : iv 0 191 (((h 27 (a0.toNatClampNeg)) * 16) + (h 27 (a1.toNatClampNeg))) := iv_add f18 f12 rfl
        refine sf_n (iv_in f_a2 rfl) ?_
        refine sf_n (iv_in f19 rfl) ?_
        have I20 : IC z (hs (hs h 25 15 ((100 + ((h 27 (a0.toNatClampNeg)) * 20)) + (h 27 (a1.toNatClampNeg)))) 34 (((h 27 (a0.toNatClampNeg)) * 16) + (h 27 (a1.toNatClampNeg))).toNatClampNeg (h 27 (a2.toNatClampNeg))) := ICs I17 (k := 34) (i := (((h 27 (a0.toNatClampNeg)) * 16) + (h 27 (a1.toNatClampNeg))).toNatClampNeg) (v := (h 27 (a2.toNatClampNeg))) (iv_any (h 27 (a2.toNatClampNeg))) rfl
        exact ⟨trivial, QC_mk (iv_w (c := 0) (d := 4) (iv_lit (lo := 0) (hi := 0) (x := 0) rfl) rfl) I20⟩
  · exact ⟨trivial, QC_mk (iv_w (c := 0) (d := 4) (iv_lit (lo := 1) (hi := 1) (x := 1) rfl) rfl) I⟩

-- X3_perform_oc1
set_option maxRecDepth 100000 in
set_option maxHeartbeats 4000000 in
theorem SX3_perform_oc1 {z : zT} (a0 : Int32) (h : ph_H) (I : IC z h) (f_a0 : iv 0 3 a0) (e_0 : iv 0 23 (h 28 (a0.toNatClampNeg))) : PX3_perform_oc1 a0 h ∧ QC z 0 19 (FX3_perform_oc1 a0 h) := by
  unfold PX3_perform_oc1 FX3_perform_oc1
  refine sf_n (iv_in f_a0 rfl) ?_
  have s1 := SX5_firstPart_n (z := z) a0 (h 28 (a0.toNatClampNeg)) h I f_a0 e_0
  refine sf_n s1.1 ?_
  have f2 : iv 1 381 ((FX5_firstPart_n a0 (h 28 (a0.toNatClampNeg)) h) + 1) := iv_add s1.2 (iv_lit (lo := 1) (hi := 1) (x := 1) rfl) rfl
  refine sf_n (iv_in f2 rfl) ?_
  have f3 : iv 2 382 ((FX5_firstPart_n a0 (h 28 (a0.toNatClampNeg)) h) + 2) := iv_add s1.2 (iv_lit (lo := 2) (hi := 2) (x := 2) rfl) rfl
  refine sf_n (iv_in f3 rfl) ?_
  have s4 := SX3_slotOf a0 (h 3 (((FX5_firstPart_n a0 (h 28 (a0.toNatClampNeg)) h) + 1).toNatClampNeg)) f_a0
  refine sf_n s4.1 ?_
  have s5 := SX3_slotOf a0 (h 3 (((FX5_firstPart_n a0 (h 28 (a0.toNatClampNeg)) h) + 2).toNatClampNeg)) f_a0
  refine sf_n s5.1 ?_
  have f6 : iv 3 383 ((FX5_firstPart_n a0 (h 28 (a0.toNatClampNeg)) h) + 3) := iv_add s1.2 (iv_lit (lo := 3) (hi := 3) (x := 3) rfl) rfl
  refine sf_n (iv_in f6 rfl) ?_
  have s7 := SX3_slotOf a0 (h 3 (((FX5_firstPart_n a0 (h 28 (a0.toNatClampNeg)) h) + 3).toNatClampNeg)) f_a0
  refine sf_n s7.1 ?_
  refine sf_n (iv_in s1.2 rfl) ?_
  refine sf_if (fun c8 => ?_) (fun c8 => ?_)
  · have f9 : iv 0 0 (h 3 ((FX5_firstPart_n a0 (h 28 (a0.toNatClampNeg)) h).toNatClampNeg)) := iv_eql (iv_any (h 3 ((FX5_firstPart_n a0 (h 28 (a0.toNatClampNeg)) h).toNatClampNeg))) (iv_lit (lo := 0) (hi := 0) (x := 0) rfl) c8 rfl
    have s10 := SX3_hold_oc1 (z := z) (FX3_slotOf a0 (h 3 (((FX5_firstPart_n a0 (h 28 (a0.toNatClampNeg)) h) + 1).toNatClampNeg))) 0 (h 3 (((FX5_firstPart_n a0 (h 28 (a0.toNatClampNeg)) h) + 2).toNatClampNeg)) h I (iv_w (c := 0) (d := 27) s4.2 rfl) (iv_w (c := 0) (d := 3) (iv_lit (lo := 0) (hi := 0) (x := 0) rfl) rfl) (Or.inl rfl)
    refine sf_n s10.1 ?_
    exact ⟨trivial, QC_mk (iv_w (c := 0) (d := 19) s10.2.1 rfl) s10.2.2⟩
  refine sf_if (fun c11 => ?_) (fun c11 => ?_)
  · have f12 : iv 1 1 (h 3 ((FX5_firstPart_n a0 (h 28 (a0.toNatClampNeg)) h).toNatClampNeg)) := iv_eql (iv_any (h 3 ((FX5_firstPart_n a0 (h 28 (a0.toNatClampNeg)) h).toNatClampNeg))) (iv_lit (lo := 1) (hi := 1) (x := 1) rfl) c11 rfl
    refine sf_n (fmod_p (m := 12) (by decide) (by decide)) ?_
    have f13 : iv 0 11 (FJ9_floorMod_7cf53 (h 3 (((FX5_firstPart_n a0 (h 28 (a0.toNatClampNeg)) h) + 2).toNatClampNeg)) 12) := fmod_iv (m := 12) rfl
    have s14 := SX3_getCell_oc1 (z := z) (FX3_slotOf a0 (h 3 (((FX5_firstPart_n a0 (h 28 (a0.toNatClampNeg)) h) + 1).toNatClampNeg))) (FJ9_floorMod_7cf53 (h 3 (((FX5_firstPart_n a0 (h 28 (a0.toNatClampNeg)) h) + 2).toNatClampNeg)) 12) h I (iv_w (c := 0) (d := 27) s4.2 rfl) f13
    refine sf_n s14.1 ?_
    exact ⟨trivial, QC_mk (iv_w (c := 0) (d := 19) s14.2.1 rfl) s14.2.2⟩
  refine sf_if (fun c15 => ?_) (fun c15 => ?_)
  · have f16 : iv 2 2 (h 3 ((FX5_firstPart_n a0 (h 28 (a0.toNatClampNeg)) h).toNatClampNeg)) := iv_eql (iv_any (h 3 ((FX5_firstPart_n a0 (h 28 (a0.toNatClampNeg)) h).toNatClampNeg))) (iv_lit (lo := 2) (hi := 2) (x := 2) rfl) c15 rfl
    refine sf_n (fmod_p (m := 12) (by decide) (by decide)) ?_
    have f17 : iv 0 11 (FJ9_floorMod_7cf53 (h 3 (((FX5_firstPart_n a0 (h 28 (a0.toNatClampNeg)) h) + 1).toNatClampNeg)) 12) := fmod_iv (m := 12) rfl
    have s18 := SX3_putCell_oc1 (z := z) (FJ9_floorMod_7cf53 (h 3 (((FX5_firstPart_n a0 (h 28 (a0.toNatClampNeg)) h) + 1).toNatClampNeg)) 12) (FX3_slotOf a0 (h 3 (((FX5_firstPart_n a0 (h 28 (a0.toNatClampNeg)) h) + 2).toNatClampNeg))) h I f17 (iv_w (c := 0) (d := 27) s5.2 rfl)
    refine sf_n s18.1 ?_
    exact ⟨trivial, QC_mk (iv_w (c := 0) (d := 19) s18.2.1 rfl) s18.2.2⟩
  refine sf_if (fun c19 => ?_) (fun c19 => ?_)
  · have f20 : iv 3 3 (h 3 ((FX5_firstPart_n a0 (h 28 (a0.toNatClampNeg)) h).toNatClampNeg)) := iv_eql (iv_any (h 3 ((FX5_firstPart_n a0 (h 28 (a0.toNatClampNeg)) h).toNatClampNeg))) (iv_lit (lo := 3) (hi := 3) (x := 3) rfl) c19 rfl
    refine sf_n (iv_in s1.2 rfl) ?_
    have s21 := SX3_reckon_oc1 (z := z) (h 3 ((FX5_firstPart_n a0 (h 28 (a0.toNatClampNeg)) h).toNatClampNeg)) (FX3_slotOf a0 (h 3 (((FX5_firstPart_n a0 (h 28 (a0.toNatClampNeg)) h) + 1).toNatClampNeg))) (FX3_slotOf a0 (h 3 (((FX5_firstPart_n a0 (h 28 (a0.toNatClampNeg)) h) + 2).toNatClampNeg))) h I (iv_w (c := 0) (d := 27) s4.2 rfl) (iv_w (c := 0) (d := 27) s5.2 rfl)
    refine sf_n s21.1 ?_
    exact ⟨trivial, QC_mk (iv_w (c := 0) (d := 19) s21.2.1 rfl) s21.2.2⟩
  refine sf_if (fun c22 => ?_) (fun c22 => ?_)
  · have f23 : iv 4 4 (h 3 ((FX5_firstPart_n a0 (h 28 (a0.toNatClampNeg)) h).toNatClampNeg)) := iv_eql (iv_any (h 3 ((FX5_firstPart_n a0 (h 28 (a0.toNatClampNeg)) h).toNatClampNeg))) (iv_lit (lo := 4) (hi := 4) (x := 4) rfl) c22 rfl
    refine sf_n (iv_in s1.2 rfl) ?_
    have s24 := SX3_reckon_oc1 (z := z) (h 3 ((FX5_firstPart_n a0 (h 28 (a0.toNatClampNeg)) h).toNatClampNeg)) (FX3_slotOf a0 (h 3 (((FX5_firstPart_n a0 (h 28 (a0.toNatClampNeg)) h) + 1).toNatClampNeg))) (FX3_slotOf a0 (h 3 (((FX5_firstPart_n a0 (h 28 (a0.toNatClampNeg)) h) + 2).toNatClampNeg))) h I (iv_w (c := 0) (d := 27) s4.2 rfl) (iv_w (c := 0) (d := 27) s5.2 rfl)
    refine sf_n s24.1 ?_
    exact ⟨trivial, QC_mk (iv_w (c := 0) (d := 19) s24.2.1 rfl) s24.2.2⟩
  refine sf_if (fun c25 => ?_) (fun c25 => ?_)
  · have f26 : iv 5 5 (h 3 ((FX5_firstPart_n a0 (h 28 (a0.toNatClampNeg)) h).toNatClampNeg)) := iv_eql (iv_any (h 3 ((FX5_firstPart_n a0 (h 28 (a0.toNatClampNeg)) h).toNatClampNeg))) (iv_lit (lo := 5) (hi := 5) (x := 5) rfl) c25 rfl
    refine sf_n (iv_in s1.2 rfl) ?_
    have s27 := SX3_reckon_oc1 (z := z) (h 3 ((FX5_firstPart_n a0 (h 28 (a0.toNatClampNeg)) h).toNatClampNeg)) (FX3_slotOf a0 (h 3 (((FX5_firstPart_n a0 (h 28 (a0.toNatClampNeg)) h) + 1).toNatClampNeg))) (FX3_slotOf a0 (h 3 (((FX5_firstPart_n a0 (h 28 (a0.toNatClampNeg)) h) + 2).toNatClampNeg))) h I (iv_w (c := 0) (d := 27) s4.2 rfl) (iv_w (c := 0) (d := 27) s5.2 rfl)
    refine sf_n s27.1 ?_
    exact ⟨trivial, QC_mk (iv_w (c := 0) (d := 19) s27.2.1 rfl) s27.2.2⟩
  refine sf_if (fun c28 => ?_) (fun c28 => ?_)
  · have f29 : iv 6 6 (h 3 ((FX5_firstPart_n a0 (h 28 (a0.toNatClampNeg)) h).toNatClampNeg)) := iv_eql (iv_any (h 3 ((FX5_firstPart_n a0 (h 28 (a0.toNatClampNeg)) h).toNatClampNeg))) (iv_lit (lo := 6) (hi := 6) (x := 6) rfl) c28 rfl
    have s30 := SX3_goTo_oc1 (z := z) (h 3 (((FX5_firstPart_n a0 (h 28 (a0.toNatClampNeg)) h) + 1).toNatClampNeg)) h I
    refine sf_n s30.1 ?_
    exact ⟨trivial, QC_mk (iv_w (c := 0) (d := 19) s30.2.1 rfl) s30.2.2⟩
  refine sf_if (fun c31 => ?_) (fun c31 => ?_)
  · have f32 : iv 7 7 (h 3 ((FX5_firstPart_n a0 (h 28 (a0.toNatClampNeg)) h).toNatClampNeg)) := iv_eql (iv_any (h 3 ((FX5_firstPart_n a0 (h 28 (a0.toNatClampNeg)) h).toNatClampNeg))) (iv_lit (lo := 7) (hi := 7) (x := 7) rfl) c31 rfl
    have s33 := SX3_goUnless_oc1 (z := z) (FX3_slotOf a0 (h 3 (((FX5_firstPart_n a0 (h 28 (a0.toNatClampNeg)) h) + 1).toNatClampNeg))) (h 3 (((FX5_firstPart_n a0 (h 28 (a0.toNatClampNeg)) h) + 2).toNatClampNeg)) h I (iv_w (c := 0) (d := 27) s4.2 rfl)
    refine sf_n s33.1 ?_
    exact ⟨trivial, QC_mk (iv_w (c := 0) (d := 19) s33.2.1 rfl) s33.2.2⟩
  refine sf_if (fun c34 => ?_) (fun c34 => ?_)
  · have f35 : iv 8 8 (h 3 ((FX5_firstPart_n a0 (h 28 (a0.toNatClampNeg)) h).toNatClampNeg)) := iv_eql (iv_any (h 3 ((FX5_firstPart_n a0 (h 28 (a0.toNatClampNeg)) h).toNatClampNeg))) (iv_lit (lo := 8) (hi := 8) (x := 8) rfl) c34 rfl
    have s36 := SX3_makeRow_oc1 (z := z) (FX3_slotOf a0 (h 3 (((FX5_firstPart_n a0 (h 28 (a0.toNatClampNeg)) h) + 1).toNatClampNeg))) (FX3_slotOf a0 (h 3 (((FX5_firstPart_n a0 (h 28 (a0.toNatClampNeg)) h) + 2).toNatClampNeg))) h I (iv_w (c := 0) (d := 27) s4.2 rfl) (iv_w (c := 0) (d := 27) s5.2 rfl)
    refine sf_n s36.1 ?_
    exact ⟨trivial, QC_mk (iv_w (c := 0) (d := 19) s36.2.1 rfl) s36.2.2⟩
  refine sf_if (fun c37 => ?_) (fun c37 => ?_)
  · have f38 : iv 9 9 (h 3 ((FX5_firstPart_n a0 (h 28 (a0.toNatClampNeg)) h).toNatClampNeg)) := iv_eql (iv_any (h 3 ((FX5_firstPart_n a0 (h 28 (a0.toNatClampNeg)) h).toNatClampNeg))) (iv_lit (lo := 9) (hi := 9) (x := 9) rfl) c37 rfl
    have s39 := SX3_readRow_oc1 (z := z) (FX3_slotOf a0 (h 3 (((FX5_firstPart_n a0 (h 28 (a0.toNatClampNeg)) h) + 1).toNatClampNeg))) (FX3_slotOf a0 (h 3 (((FX5_firstPart_n a0 (h 28 (a0.toNatClampNeg)) h) + 2).toNatClampNeg))) (FX3_slotOf a0 (h 3 (((FX5_firstPart_n a0 (h 28 (a0.toNatClampNeg)) h) + 3).toNatClampNeg))) h I (iv_w (c := 0) (d := 27) s4.2 rfl) (iv_w (c := 0) (d := 27) s5.2 rfl) (iv_w (c := 0) (d := 27) s7.2 rfl)
    refine sf_n s39.1 ?_
    exact ⟨trivial, QC_mk (iv_w (c := 0) (d := 19) s39.2.1 rfl) s39.2.2⟩
  refine sf_if (fun c40 => ?_) (fun c40 => ?_)
  · have f41 : iv 10 10 (h 3 ((FX5_firstPart_n a0 (h 28 (a0.toNatClampNeg)) h).toNatClampNeg)) := iv_eql (iv_any (h 3 ((FX5_firstPart_n a0 (h 28 (a0.toNatClampNeg)) h).toNatClampNeg))) (iv_lit (lo := 10) (hi := 10) (x := 10) rfl) c40 rfl
    have s42 := SX3_writeRow_oc1 (z := z) (FX3_slotOf a0 (h 3 (((FX5_firstPart_n a0 (h 28 (a0.toNatClampNeg)) h) + 1).toNatClampNeg))) (FX3_slotOf a0 (h 3 (((FX5_firstPart_n a0 (h 28 (a0.toNatClampNeg)) h) + 2).toNatClampNeg))) (FX3_slotOf a0 (h 3 (((FX5_firstPart_n a0 (h 28 (a0.toNatClampNeg)) h) + 3).toNatClampNeg))) h I (iv_w (c := 0) (d := 27) s4.2 rfl) (iv_w (c := 0) (d := 27) s5.2 rfl) (iv_w (c := 0) (d := 27) s7.2 rfl)
    refine sf_n s42.1 ?_
    exact ⟨trivial, QC_mk (iv_w (c := 0) (d := 19) s42.2.1 rfl) s42.2.2⟩
  refine sf_if (fun c43 => ?_) (fun c43 => ?_)
  · have f44 : iv 11 11 (h 3 ((FX5_firstPart_n a0 (h 28 (a0.toNatClampNeg)) h).toNatClampNeg)) := iv_eql (iv_any (h 3 ((FX5_firstPart_n a0 (h 28 (a0.toNatClampNeg)) h).toNatClampNeg))) (iv_lit (lo := 11) (hi := 11) (x := 11) rfl) c43 rfl
    refine sf_if (fun c45 => ?_) (fun c45 => ?_)
    · have f46 : iv 0 0 ((h 3 (((FX5_firstPart_n a0 (h 28 (a0.toNatClampNeg)) h) + 2).toNatClampNeg)) &&& 1) := iv_eql (iv_any ((h 3 (((FX5_firstPart_n a0 (h 28 (a0.toNatClampNeg)) h) + 2).toNatClampNeg)) &&& 1)) (iv_lit (lo := 0) (hi := 0) (x := 0) rfl) c45 rfl
      unfold PX3_perform_oc1_288 FX3_perform_oc1_288
      have s47 := SX3_makeLock_oc1 (z := z) (FX3_slotOf a0 (h 3 (((FX5_firstPart_n a0 (h 28 (a0.toNatClampNeg)) h) + 1).toNatClampNeg))) 0 h I (iv_w (c := 0) (d := 27) s4.2 rfl) (iv_w (c := 0) (d := 1) (iv_lit (lo := 0) (hi := 0) (x := 0) rfl) rfl)
      refine sf_n s47.1 ?_
      exact ⟨trivial, QC_mk (iv_w (c := 0) (d := 19) s47.2.1 rfl) s47.2.2⟩
    · unfold PX3_perform_oc1_288 FX3_perform_oc1_288
      have s48 := SX3_makeLock_oc1 (z := z) (FX3_slotOf a0 (h 3 (((FX5_firstPart_n a0 (h 28 (a0.toNatClampNeg)) h) + 1).toNatClampNeg))) 1 h I (iv_w (c := 0) (d := 27) s4.2 rfl) (iv_w (c := 0) (d := 1) (iv_lit (lo := 1) (hi := 1) (x := 1) rfl) rfl)
      refine sf_n s48.1 ?_
      exact ⟨trivial, QC_mk (iv_w (c := 0) (d := 19) s48.2.1 rfl) s48.2.2⟩
  refine sf_if (fun c49 => ?_) (fun c49 => ?_)
  · have f50 : iv 12 12 (h 3 ((FX5_firstPart_n a0 (h 28 (a0.toNatClampNeg)) h).toNatClampNeg)) := iv_eql (iv_any (h 3 ((FX5_firstPart_n a0 (h 28 (a0.toNatClampNeg)) h).toNatClampNeg))) (iv_lit (lo := 12) (hi := 12) (x := 12) rfl) c49 rfl
    have s51 := SX3_takeLock_oc1 (z := z) a0 (FX3_slotOf a0 (h 3 (((FX5_firstPart_n a0 (h 28 (a0.toNatClampNeg)) h) + 1).toNatClampNeg))) h I f_a0 (iv_w (c := 0) (d := 27) s4.2 rfl)
    refine sf_n s51.1 ?_
    exact ⟨trivial, QC_mk (iv_w (c := 0) (d := 19) s51.2.1 rfl) s51.2.2⟩
  refine sf_if (fun c52 => ?_) (fun c52 => ?_)
  · have f53 : iv 13 13 (h 3 ((FX5_firstPart_n a0 (h 28 (a0.toNatClampNeg)) h).toNatClampNeg)) := iv_eql (iv_any (h 3 ((FX5_firstPart_n a0 (h 28 (a0.toNatClampNeg)) h).toNatClampNeg))) (iv_lit (lo := 13) (hi := 13) (x := 13) rfl) c52 rfl
    have s54 := SX3_leaveLock_oc1 (z := z) a0 (FX3_slotOf a0 (h 3 (((FX5_firstPart_n a0 (h 28 (a0.toNatClampNeg)) h) + 1).toNatClampNeg))) h I (iv_w (c := 0) (d := 27) s4.2 rfl)
    refine sf_n s54.1 ?_
    exact ⟨trivial, QC_mk (iv_w (c := 0) (d := 19) s54.2.1 rfl) s54.2.2⟩
  refine sf_if (fun c55 => ?_) (fun c55 => ?_)
  · have f56 : iv 14 14 (h 3 ((FX5_firstPart_n a0 (h 28 (a0.toNatClampNeg)) h).toNatClampNeg)) := iv_eql (iv_any (h 3 ((FX5_firstPart_n a0 (h 28 (a0.toNatClampNeg)) h).toNatClampNeg))) (iv_lit (lo := 14) (hi := 14) (x := 14) rfl) c55 rfl
    have s57 := SX3_lieDown_oc1 (z := z) a0 (FX3_slotOf a0 (h 3 (((FX5_firstPart_n a0 (h 28 (a0.toNatClampNeg)) h) + 1).toNatClampNeg))) h I f_a0 (iv_w (c := 0) (d := 27) s4.2 rfl)
    refine sf_n s57.1 ?_
    exact ⟨trivial, QC_mk (iv_w (c := 0) (d := 19) s57.2.1 rfl) s57.2.2⟩
  refine sf_if (fun c58 => ?_) (fun c58 => ?_)
  · have f59 : iv 15 15 (h 3 ((FX5_firstPart_n a0 (h 28 (a0.toNatClampNeg)) h).toNatClampNeg)) := iv_eql (iv_any (h 3 ((FX5_firstPart_n a0 (h 28 (a0.toNatClampNeg)) h).toNatClampNeg))) (iv_lit (lo := 15) (hi := 15) (x := 15) rfl) c58 rfl
    have s60 := SX3_wakeSleepers_oc1 (z := z) a0 (FX3_slotOf a0 (h 3 (((FX5_firstPart_n a0 (h 28 (a0.toNatClampNeg)) h) + 1).toNatClampNeg))) h I (iv_w (c := 0) (d := 27) s4.2 rfl)
    refine sf_n s60.1 ?_
    exact ⟨trivial, QC_mk (iv_w (c := 0) (d := 19) s60.2.1 rfl) s60.2.2⟩
  refine sf_if (fun c61 => ?_) (fun c61 => ?_)
  · have f62 : iv 16 16 (h 3 ((FX5_firstPart_n a0 (h 28 (a0.toNatClampNeg)) h).toNatClampNeg)) := iv_eql (iv_any (h 3 ((FX5_firstPart_n a0 (h 28 (a0.toNatClampNeg)) h).toNatClampNeg))) (iv_lit (lo := 16) (hi := 16) (x := 16) rfl) c61 rfl
    have s63 := SX3_takeInput_oc1 (z := z) (FX3_slotOf a0 (h 3 (((FX5_firstPart_n a0 (h 28 (a0.toNatClampNeg)) h) + 1).toNatClampNeg))) h I (iv_w (c := 0) (d := 27) s4.2 rfl)
    refine sf_n s63.1 ?_
    exact ⟨trivial, QC_mk (iv_w (c := 0) (d := 19) s63.2.1 rfl) s63.2.2⟩
  refine sf_if (fun c64 => ?_) (fun c64 => ?_)
  · have f65 : iv 17 17 (h 3 ((FX5_firstPart_n a0 (h 28 (a0.toNatClampNeg)) h).toNatClampNeg)) := iv_eql (iv_any (h 3 ((FX5_firstPart_n a0 (h 28 (a0.toNatClampNeg)) h).toNatClampNeg))) (iv_lit (lo := 17) (hi := 17) (x := 17) rfl) c64 rfl
    refine sf_n (fmod_p (m := 4) (by decide) (by decide)) ?_
    have f66 : iv 0 3 (FJ9_floorMod_7cf53 (h 3 (((FX5_firstPart_n a0 (h 28 (a0.toNatClampNeg)) h) + 1).toNatClampNeg)) 4) := fmod_iv (m := 4) rfl
    have s67 := SX3_startThread_oc1 (z := z) (FJ9_floorMod_7cf53 (h 3 (((FX5_firstPart_n a0 (h 28 (a0.toNatClampNeg)) h) + 1).toNatClampNeg)) 4) h I f66
    refine sf_n s67.1 ?_
    exact ⟨trivial, QC_mk (iv_w (c := 0) (d := 19) s67.2.1 rfl) s67.2.2⟩
  refine sf_if (fun c68 => ?_) (fun c68 => ?_)
  · have f69 : iv 18 18 (h 3 ((FX5_firstPart_n a0 (h 28 (a0.toNatClampNeg)) h).toNatClampNeg)) := iv_eql (iv_any (h 3 ((FX5_firstPart_n a0 (h 28 (a0.toNatClampNeg)) h).toNatClampNeg))) (iv_lit (lo := 18) (hi := 18) (x := 18) rfl) c68 rfl
    refine sf_n (fmod_p (m := 10) (by decide) (by decide)) ?_
    have f70 : iv 0 9 (FJ9_floorMod_7cf53 (h 3 (((FX5_firstPart_n a0 (h 28 (a0.toNatClampNeg)) h) + 2).toNatClampNeg)) 10) := fmod_iv (m := 10) rfl
    have f71 : iv 10 19 (10 + (FJ9_floorMod_7cf53 (h 3 (((FX5_firstPart_n a0 (h 28 (a0.toNatClampNeg)) h) + 2).toNatClampNeg)) 10)) := iv_add (iv_lit (lo := 10) (hi := 10) (x := 10) rfl) f70 rfl
    exact ⟨trivial, QC_mk (iv_w (c := 0) (d := 19) f71 rfl) I⟩
  have s72 := SX3_goTo_oc1 (z := z) 24 h I
  refine sf_n s72.1 ?_
  exact ⟨trivial, QC_mk (iv_w (c := 0) (d := 19) s72.2.1 rfl) s72.2.2⟩

-- X3_rise_oc1
set_option maxRecDepth 100000 in
set_option maxHeartbeats 4000000 in
theorem SX3_rise_oc1 {z : zT} (a0 : Int32) (h : ph_H) (I : IC z h) (f_a0 : iv 0 3 a0) : PX3_rise_oc1 a0 h ∧ QC z 0 0 (FX3_rise_oc1 a0 h) := by
  unfold PX3_rise_oc1 FX3_rise_oc1
  refine sf_n (iv_in f_a0 rfl) ?_
  have I1 : IC z (hs h 29 a0.toNatClampNeg 1) := ICs I (k := 29) (i := a0.toNatClampNeg) (v := 1) (iv_any 1) rfl
  refine sf_n (iv_in f_a0 rfl) ?_
  have f2 : iv 0 11 (h 30 (a0.toNatClampNeg)) := ICv I 30 _
  have s3 := SX3_own_oc1 (z := z) a0 (h 30 (a0.toNatClampNeg)) (hs h 29 a0.toNatClampNeg 1) I1 f2
  refine sf_n s3.1 ?_
  exact ⟨trivial, QC_mk s3.2.1 s3.2.2⟩

-- X3_whoGoes_oc1
set_option maxRecDepth 100000 in
set_option maxHeartbeats 4000000 in
theorem SX3_whoGoes_oc1_21 {z : zT} : ∀ (q : Nat) (x2 : Int32) (h : ph_H), IC z h → iv 0 4 x2 → 4 - (x2).toInt < ((q : Nat) : Int) → PX3_whoGoes_oc1_21  q x2 h ∧ iv (-1) 3 (FX3_whoGoes_oc1_21  q x2 h) := by
  intro q
  induction q with
  | zero =>
    intro x2 h I f_x2 mq
    exact mu_zu f_x2 mq rfl
  | succ q ih =>
    intro x2 h I f_x2 mq
    unfold PX3_whoGoes_oc1_21 FX3_whoGoes_oc1_21
    refine sf_if (fun c1 => ?_) (fun c1 => ?_)
    · have f2 : iv 4 4 x2 := iv_ler f_x2 (iv_lit (lo := 4) (hi := 4) (x := 4) rfl) c1 rfl
      exact ⟨trivial, (iv_w (c := (-1)) (d := 3) (iv_lit (lo := (-1)) (hi := (-1)) (x := (-1)) rfl) rfl)⟩
    · have f3 : iv 0 3 x2 := iv_ltl f_x2 (iv_lit (lo := 4) (hi := 4) (x := 4) rfl) (nle c1) rfl
      have s4 := SX3_canGo_oc1 (z := z) x2 h I f3
      refine sf_n s4.1 ?_
      refine sf_if (fun c5 => ?_) (fun c5 => ?_)
      · have f6 : iv 0 0 (FX3_canGo_oc1 x2 h) := iv_eql s4.2.1 (iv_lit (lo := 0) (hi := 0) (x := 0) rfl) c5 rfl
        have f7 : iv 1 4 (x2 + 1) := iv_add f3 (iv_lit (lo := 1) (hi := 1) (x := 1) rfl) rfl
        exact ih (x2 + 1) h I (iv_w (c := 0) (d := 4) f7 rfl) (mu_up f3 mq rfl)
      · have f8 : iv 0 23 (h 28 (x2.toNatClampNeg)) := iv_and (iv_any _) (s4.2.2 c5) rfl
        have f9 : iv 1 1 (FX3_canGo_oc1 x2 h) := iv_nel s4.2.1 c5 rfl
        exact ⟨trivial, (iv_w (c := (-1)) (d := 3) f3 rfl)⟩
set_option maxRecDepth 100000 in
set_option maxHeartbeats 4000000 in
theorem SX3_whoGoes_oc1 {z : zT} (a0 : Int32) (h : ph_H) (I : IC z h) : PX3_whoGoes_oc1 a0 h ∧ iv (-1) 3 (FX3_whoGoes_oc1 a0 h) := by
  unfold PX3_whoGoes_oc1 FX3_whoGoes_oc1
  refine sf_if (fun c1 => ?_) (fun c1 => ?_)
  · have f2 : iv (-2147483648) (-1) a0 := iv_ltl (iv_any a0) (iv_lit (lo := 0) (hi := 0) (x := 0) rfl) c1 rfl
    unfold PX3_whoGoes_oc1_19 FX3_whoGoes_oc1_19
    exact SX3_whoGoes_oc1_21 2000 0 h I (iv_w (c := 0) (d := 4) (iv_lit (lo := 0) (hi := 0) (x := 0) rfl) rfl) (mu_0u (iv_lit (lo := 0) (hi := 0) (x := 0) rfl) rfl)
  · have f3 : iv 0 2147483647 a0 := iv_ler (iv_any a0) (iv_lit (lo := 0) (hi := 0) (x := 0) rfl) (nlt c1) rfl
    refine sf_if (fun c4 => ?_) (fun c4 => ?_)
    · have f5 : iv 4 2147483647 a0 := iv_ler f3 (iv_lit (lo := 4) (hi := 4) (x := 4) rfl) c4 rfl
      unfold PX3_whoGoes_oc1_19 FX3_whoGoes_oc1_19
      exact SX3_whoGoes_oc1_21 2000 0 h I (iv_w (c := 0) (d := 4) (iv_lit (lo := 0) (hi := 0) (x := 0) rfl) rfl) (mu_0u (iv_lit (lo := 0) (hi := 0) (x := 0) rfl) rfl)
    · have f6 : iv 0 3 a0 := iv_ltl f3 (iv_lit (lo := 4) (hi := 4) (x := 4) rfl) (nle c4) rfl
      have s7 := SX3_canGo_oc1 (z := z) a0 h I f6
      refine sf_n s7.1 ?_
      refine sf_if (fun c8 => ?_) (fun c8 => ?_)
      · have f9 : iv 0 0 (FX3_canGo_oc1 a0 h) := iv_eql s7.2.1 (iv_lit (lo := 0) (hi := 0) (x := 0) rfl) c8 rfl
        unfold PX3_whoGoes_oc1_19 FX3_whoGoes_oc1_19
        exact SX3_whoGoes_oc1_21 2000 0 h I (iv_w (c := 0) (d := 4) (iv_lit (lo := 0) (hi := 0) (x := 0) rfl) rfl) (mu_0u (iv_lit (lo := 0) (hi := 0) (x := 0) rfl) rfl)
      · have f10 : iv 0 23 (h 28 (a0.toNatClampNeg)) := iv_and (iv_any _) (s7.2.2 c8) rfl
        have f11 : iv 1 1 (FX3_canGo_oc1 a0 h) := iv_nel s7.2.1 c8 rfl
        exact ⟨trivial, (iv_w (c := (-1)) (d := 3) f6 rfl)⟩

-- J7_fill_53178_k28
set_option maxRecDepth 100000 in
set_option maxHeartbeats 4000000 in
theorem SJ7_fill_53178_k28_5 {z : zT} : ∀ (q : Nat) (x1 : Int32) (x2 : Int32) (x3 : Int32) (h : ph_H), IC z h → iv 0 4 x2 → iv 4 4 x3 → 4 - (x2).toInt < ((q : Nat) : Int) → PJ7_fill_53178_k28_5  q x1 x2 x3 h ∧ IC z (FJ7_fill_53178_k28_5  q x1 x2 x3 h) := by
  intro q
  induction q with
  | zero =>
    intro x1 x2 x3 h I f_x2 f_x3 mq
    exact mu_zu f_x2 mq rfl
  | succ q ih =>
    intro x1 x2 x3 h I f_x2 f_x3 mq
    unfold PJ7_fill_53178_k28_5 FJ7_fill_53178_k28_5
    refine sf_if (fun c1 => ?_) (fun c1 => ?_)
    · have f2 : iv 4 4 x2 := iv_ler f_x2 f_x3 c1 rfl
      exact ⟨trivial, I⟩
    · have f3 : iv 0 3 x2 := iv_ltl f_x2 f_x3 (nle c1) rfl
      refine sf_n (iv_in f3 rfl) ?_
      have I4 : IC z (hs h 28 x2.toNatClampNeg x1) := ICs I (k := 28) (i := x2.toNatClampNeg) (v := x1) (iv_any x1) rfl
      have f5 : iv 1 4 (x2 + 1) := iv_add f3 (iv_lit (lo := 1) (hi := 1) (x := 1) rfl) rfl
      exact ih x1 (x2 + 1) x3 (hs h 28 x2.toNatClampNeg x1) I4 (iv_w (c := 0) (d := 4) f5 rfl) f_x3 (mu_up f3 mq rfl)
set_option maxRecDepth 100000 in
set_option maxHeartbeats 4000000 in
theorem SJ7_fill_53178_k28 {z : zT} (a1 : Int32) (h : ph_H) (I : IC z h) : PJ7_fill_53178_k28 a1 h ∧ IC z (FJ7_fill_53178_k28 a1 h) := by
  unfold PJ7_fill_53178_k28 FJ7_fill_53178_k28
  exact SJ7_fill_53178_k28_5 2000 a1 0 4 h I (iv_w (c := 0) (d := 4) (iv_lit (lo := 0) (hi := 0) (x := 0) rfl) rfl) (iv_lit (lo := 4) (hi := 4) (x := 4) rfl) (mu_0u (iv_lit (lo := 0) (hi := 0) (x := 0) rfl) rfl)

-- J7_fill_53178_k29
set_option maxRecDepth 100000 in
set_option maxHeartbeats 4000000 in
theorem SJ7_fill_53178_k29_5 {z : zT} : ∀ (q : Nat) (x1 : Int32) (x2 : Int32) (x3 : Int32) (h : ph_H), IC z h → iv 0 4 x2 → iv 4 4 x3 → 4 - (x2).toInt < ((q : Nat) : Int) → PJ7_fill_53178_k29_5  q x1 x2 x3 h ∧ IC z (FJ7_fill_53178_k29_5  q x1 x2 x3 h) := by
  intro q
  induction q with
  | zero =>
    intro x1 x2 x3 h I f_x2 f_x3 mq
    exact mu_zu f_x2 mq rfl
  | succ q ih =>
    intro x1 x2 x3 h I f_x2 f_x3 mq
    unfold PJ7_fill_53178_k29_5 FJ7_fill_53178_k29_5
    refine sf_if (fun c1 => ?_) (fun c1 => ?_)
    · have f2 : iv 4 4 x2 := iv_ler f_x2 f_x3 c1 rfl
      exact ⟨trivial, I⟩
    · have f3 : iv 0 3 x2 := iv_ltl f_x2 f_x3 (nle c1) rfl
      refine sf_n (iv_in f3 rfl) ?_
      have I4 : IC z (hs h 29 x2.toNatClampNeg x1) := ICs I (k := 29) (i := x2.toNatClampNeg) (v := x1) (iv_any x1) rfl
      have f5 : iv 1 4 (x2 + 1) := iv_add f3 (iv_lit (lo := 1) (hi := 1) (x := 1) rfl) rfl
      exact ih x1 (x2 + 1) x3 (hs h 29 x2.toNatClampNeg x1) I4 (iv_w (c := 0) (d := 4) f5 rfl) f_x3 (mu_up f3 mq rfl)
set_option maxRecDepth 100000 in
set_option maxHeartbeats 4000000 in
theorem SJ7_fill_53178_k29 {z : zT} (a1 : Int32) (h : ph_H) (I : IC z h) : PJ7_fill_53178_k29 a1 h ∧ IC z (FJ7_fill_53178_k29 a1 h) := by
  unfold PJ7_fill_53178_k29 FJ7_fill_53178_k29
  exact SJ7_fill_53178_k29_5 2000 a1 0 4 h I (iv_w (c := 0) (d := 4) (iv_lit (lo := 0) (hi := 0) (x := 0) rfl) rfl) (iv_lit (lo := 4) (hi := 4) (x := 4) rfl) (mu_0u (iv_lit (lo := 0) (hi := 0) (x := 0) rfl) rfl)

-- X11_ended
set_option maxRecDepth 100000 in
set_option maxHeartbeats 4000000 in
theorem SX11_ended {z : zT} (h : ph_H) (I : IC z h) : PX11_ended h ∧ iv (-2147483648) 2147483647 (FX11_ended h) := by
  unfold PX11_ended FX11_ended
  exact ⟨trivial, (iv_any (h 0 12))⟩

-- X11_isMoment
set_option maxRecDepth 100000 in
set_option maxHeartbeats 4000000 in
theorem SX11_isMoment {z : zT} (a0 : Int32) (h : ph_H) (I : IC z h) : PX11_isMoment a0 h ∧ Qc 0 1 (fun r => ¬ r = 0 → iv 0 300 a0) (FX11_isMoment a0 h) := by
  unfold PX11_isMoment FX11_isMoment
  refine sf_if (fun c1 => ?_) (fun c1 => ?_)
  · have f2 : iv (-2147483648) (-1) a0 := iv_ltl (iv_any a0) (iv_lit (lo := 0) (hi := 0) (x := 0) rfl) c1 rfl
    exact ⟨trivial, (iv_w (c := 0) (d := 1) (iv_lit (lo := 0) (hi := 0) (x := 0) rfl) rfl), fun z => absurd rfl z⟩
  · have f3 : iv 0 2147483647 a0 := iv_ler (iv_any a0) (iv_lit (lo := 0) (hi := 0) (x := 0) rfl) (nlt c1) rfl
    have f4 : iv 0 300 (h 35 11) := ICv I 35 _
    refine sf_if (fun c5 => ?_) (fun c5 => ?_)
    · have f6 : iv 1 2147483647 a0 := iv_ltr f3 f4 c5 rfl
      exact ⟨trivial, (iv_w (c := 0) (d := 1) (iv_lit (lo := 0) (hi := 0) (x := 0) rfl) rfl), fun z => absurd rfl z⟩
    · have f7 : iv 0 300 a0 := iv_lel f3 f4 (nlt c5) rfl
      exact ⟨trivial, (iv_w (c := 0) (d := 1) (iv_lit (lo := 1) (hi := 1) (x := 1) rfl) rfl), fun _ => f7⟩

-- X11_to
set_option maxRecDepth 100000 in
set_option maxHeartbeats 4000000 in
theorem SX11_to {z : zT} (a0 : Int32) (h : ph_H) (I : IC z h) : PX11_to a0 h ∧ QC z (-2) 300 (FX11_to a0 h) := by
  unfold PX11_to FX11_to
  have f1 : iv 0 1 (h 0 8) := ICv I 0 _
  refine sf_if (fun c2 => ?_) (fun c2 => ?_)
  · have f3 : iv 0 0 (h 0 8) := iv_eql f1 (iv_lit (lo := 0) (hi := 0) (x := 0) rfl) c2 rfl
    exact ⟨trivial, QC_mk (iv_w (c := (-2)) (d := 300) (iv_lit (lo := (-2)) (hi := (-2)) (x := (-2)) rfl) rfl) I⟩
  · have f4 : iv 1 1 (h 0 8) := iv_nel f1 c2 rfl
    have s5 := SX11_isMoment (z := z) a0 h I
    refine sf_n s5.1 ?_
    refine sf_if (fun c6 => ?_) (fun c6 => ?_)
    · have f7 : iv 0 0 (FX11_isMoment a0 h) := iv_eql s5.2.1 (iv_lit (lo := 0) (hi := 0) (x := 0) rfl) c6 rfl
      exact ⟨trivial, QC_mk (iv_w (c := (-2)) (d := 300) (iv_lit (lo := (-1)) (hi := (-1)) (x := (-1)) rfl) rfl) I⟩
    · have f8 : iv 0 300 a0 := iv_and (iv_any _) (s5.2.2 c6) rfl
      have f9 : iv 1 1 (FX11_isMoment a0 h) := iv_nel s5.2.1 c6 rfl
      have I10 : IC z (hs h 0 10 a0) := ICs I (k := 0) (i := 10) (v := a0) f8 rfl
      exact ⟨trivial, QC_mk (iv_w (c := (-2)) (d := 300) f8 rfl) I10⟩

-- X11_back
set_option maxRecDepth 100000 in
set_option maxHeartbeats 4000000 in
theorem SX11_back {z : zT} (a0 : Int32) (h : ph_H) (I : IC z h) : PX11_back a0 h ∧ QC z (-2) 300 (FX11_back a0 h) := by
  unfold PX11_back FX11_back
  have f1 : iv 0 1 (h 0 8) := ICv I 0 _
  refine sf_if (fun c2 => ?_) (fun c2 => ?_)
  · have f3 : iv 0 0 (h 0 8) := iv_eql f1 (iv_lit (lo := 0) (hi := 0) (x := 0) rfl) c2 rfl
    exact ⟨trivial, QC_mk (iv_w (c := (-2)) (d := 300) (iv_lit (lo := (-2)) (hi := (-2)) (x := (-2)) rfl) rfl) I⟩
  · have f4 : iv 1 1 (h 0 8) := iv_nel f1 c2 rfl
    refine sf_if (fun c5 => ?_) (fun c5 => ?_)
    · have f6 : iv (-2147483648) (-1) a0 := iv_ltl (iv_any a0) (iv_lit (lo := 0) (hi := 0) (x := 0) rfl) c5 rfl
      exact ⟨trivial, QC_mk (iv_w (c := (-2)) (d := 300) (iv_lit (lo := (-1)) (hi := (-1)) (x := (-1)) rfl) rfl) I⟩
    · have f7 : iv 0 2147483647 a0 := iv_ler (iv_any a0) (iv_lit (lo := 0) (hi := 0) (x := 0) rfl) (nlt c5) rfl
      have f8 : iv 0 300 (h 0 10) := ICv I 0 _
      refine sf_if (fun c9 => ?_) (fun c9 => ?_)
      · have f10 : iv 0 300 a0 := iv_lel f7 f8 c9 rfl
        have f11 : iv 0 300 ((h 0 10) - a0) := iv_subo f8 f10 c9 rfl
        have I12 : IC z (hs h 0 10 ((h 0 10) - a0)) := ICs I (k := 0) (i := 10) (v := ((h 0 10) - a0)) f11 rfl
        exact ⟨trivial, QC_mk (iv_w (c := (-2)) (d := 300) f11 rfl) I12⟩
      · have f13 : iv 1 2147483647 a0 := iv_ltr f7 f8 (nle c9) rfl
        exact ⟨trivial, QC_mk (iv_w (c := (-2)) (d := 300) (iv_lit (lo := (-1)) (hi := (-1)) (x := (-1)) rfl) rfl) I⟩

-- X3_hasThing_s
set_option maxRecDepth 100000 in
set_option maxHeartbeats 4000000 in
theorem SX3_hasThing_s {z : zT} (a0 : Int32) (h : ph_H) (I : IC z h) : PX3_hasThing_s a0 h ∧ Qc 0 1 (fun r => ¬ r = 0 → iv 0 11 a0) (FX3_hasThing_s a0 h) := by
  unfold PX3_hasThing_s FX3_hasThing_s
  refine sf_if (fun c1 => ?_) (fun c1 => ?_)
  · have f2 : iv (-2147483648) (-1) a0 := iv_ltl (iv_any a0) (iv_lit (lo := 0) (hi := 0) (x := 0) rfl) c1 rfl
    exact ⟨trivial, (iv_w (c := 0) (d := 1) (iv_lit (lo := 0) (hi := 0) (x := 0) rfl) rfl), fun z => absurd rfl z⟩
  · have f3 : iv 0 2147483647 a0 := iv_ler (iv_any a0) (iv_lit (lo := 0) (hi := 0) (x := 0) rfl) (nlt c1) rfl
    have f4 : iv 0 12 (h 15 10) := ICv I 15 _
    refine sf_if (fun c5 => ?_) (fun c5 => ?_)
    · exact ⟨trivial, (iv_w (c := 0) (d := 1) (iv_lit (lo := 0) (hi := 0) (x := 0) rfl) rfl), fun z => absurd rfl z⟩
    · have f6 : iv 0 11 a0 := iv_ltl f3 f4 (nle c5) rfl
      have f7 : iv 1 12 (h 15 10) := iv_ltr f4 f3 (nle c5) rfl
      exact ⟨trivial, (iv_w (c := 0) (d := 1) (iv_lit (lo := 1) (hi := 1) (x := 1) rfl) rfl), fun _ => f6⟩

-- X3_standing_s
set_option maxRecDepth 100000 in
set_option maxHeartbeats 4000000 in
theorem SX3_standing_s {z : zT} (a0 : Int32) (h : ph_H) (I : IC z h) (f_a0 : iv 0 3 a0) : PX3_standing_s a0 h ∧ iv 0 4 (FX3_standing_s a0 h) := by
  unfold PX3_standing_s FX3_standing_s
  refine sf_n (iv_in f_a0 rfl) ?_
  refine sf_if (fun c1 => ?_) (fun c1 => ?_)
  · have f2 : iv 0 0 (h 19 (a0.toNatClampNeg)) := iv_eql (iv_any (h 19 (a0.toNatClampNeg))) (iv_lit (lo := 0) (hi := 0) (x := 0) rfl) c1 rfl
    exact ⟨trivial, (iv_w (c := 0) (d := 4) (iv_lit (lo := 0) (hi := 0) (x := 0) rfl) rfl)⟩
  · refine sf_n (iv_in f_a0 rfl) ?_
    refine sf_if (fun c3 => ?_) (fun c3 => ?_)
    · have f4 : iv 2 2 (h 19 (a0.toNatClampNeg)) := iv_eql (iv_any (h 19 (a0.toNatClampNeg))) (iv_lit (lo := 2) (hi := 2) (x := 2) rfl) c3 rfl
      exact ⟨trivial, (iv_w (c := 0) (d := 4) (iv_lit (lo := 3) (hi := 3) (x := 3) rfl) rfl)⟩
    · have s5 := SX3_hasEnded_s (z := z) a0 h I f_a0
      refine sf_n s5.1 ?_
      refine sf_if (fun c6 => ?_) (fun c6 => ?_)
      · have f7 : iv 0 23 (h 18 (a0.toNatClampNeg)) := iv_and (iv_any _) (s5.2.2 c6) rfl
        have f8 : iv 0 0 (FX3_hasEnded_s a0 h) := iv_eql s5.2.1 (iv_lit (lo := 0) (hi := 0) (x := 0) rfl) c6 rfl
        have s9 := SX3_canGo_s (z := z) a0 h I f_a0
        refine sf_n s9.1 ?_
        refine sf_if (fun c10 => ?_) (fun c10 => ?_)
        · have f11 : iv 0 0 (FX3_canGo_s a0 h) := iv_eql s9.2.1 (iv_lit (lo := 0) (hi := 0) (x := 0) rfl) c10 rfl
          exact ⟨trivial, (iv_w (c := 0) (d := 4) (iv_lit (lo := 2) (hi := 2) (x := 2) rfl) rfl)⟩
        · have f12 : iv 1 1 (FX3_canGo_s a0 h) := iv_nel s9.2.1 c10 rfl
          exact ⟨trivial, (iv_w (c := 0) (d := 4) (iv_lit (lo := 1) (hi := 1) (x := 1) rfl) rfl)⟩
      · have f13 : iv 1 1 (FX3_hasEnded_s a0 h) := iv_nel s5.2.1 c6 rfl
        exact ⟨trivial, (iv_w (c := 0) (d := 4) (iv_lit (lo := 4) (hi := 4) (x := 4) rfl) rfl)⟩

-- X10_lastWrite
set_option maxRecDepth 100000 in
set_option maxHeartbeats 4000000 in
theorem SX10_lastWrite_10 {z : zT} : ∀ (q : Nat) (x1 : Int32) (x3 : Int32) (h : ph_H), IC z h → iv 0 300 x3 → (x3).toInt - 0 < ((q : Nat) : Int) → PX10_lastWrite_10  q x1 x3 h ∧ iv 0 300 (FX10_lastWrite_10  q x1 x3 h) := by
  intro q
  induction q with
  | zero =>
    intro x1 x3 h I f_x3 mq
    exact mu_zd f_x3 mq rfl
  | succ q ih =>
    intro x1 x3 h I f_x3 mq
    unfold PX10_lastWrite_10 FX10_lastWrite_10
    refine sf_if (fun c1 => ?_) (fun c1 => ?_)
    · have f2 : iv 0 0 x3 := iv_lel f_x3 (iv_lit (lo := 0) (hi := 0) (x := 0) rfl) c1 rfl
      exact ⟨trivial, (iv_w (c := 0) (d := 300) (iv_lit (lo := 0) (hi := 0) (x := 0) rfl) rfl)⟩
    · have f3 : iv 1 300 x3 := iv_ltr f_x3 (iv_lit (lo := 0) (hi := 0) (x := 0) rfl) (nle c1) rfl
      refine sf_n (iv_in f3 rfl) ?_
      refine sf_if (fun c4 => ?_) (fun c4 => ?_)
      · exact ⟨trivial, (iv_w (c := 0) (d := 300) f3 rfl)⟩
      · have f5 : iv 0 299 (x3 + (-1)) := iv_add f3 (iv_lit (lo := (-1)) (hi := (-1)) (x := (-1)) rfl) rfl
        exact ih x1 (x3 + (-1)) h I (iv_w (c := 0) (d := 300) f5 rfl) (mu_dn f3 mq rfl)
set_option maxRecDepth 100000 in
set_option maxHeartbeats 4000000 in
theorem SX10_lastWrite {z : zT} (a0 : Int32) (a1 : Int32) (h : ph_H) (I : IC z h) (f_a1 : iv 0 300 a1) : PX10_lastWrite a0 a1 h ∧ iv 0 300 (FX10_lastWrite a0 a1 h) := by
  unfold PX10_lastWrite FX10_lastWrite
  refine sf_if (fun c1 => ?_) (fun c1 => ?_)
  · have f2 : iv (-2) (-2) a0 := iv_eql (iv_any a0) (iv_lit (lo := (-2)) (hi := (-2)) (x := (-2)) rfl) c1 rfl
    exact ⟨trivial, (iv_w (c := 0) (d := 300) (iv_lit (lo := 0) (hi := 0) (x := 0) rfl) rfl)⟩
  · exact SX10_lastWrite_10 2000 a0 a1 h I f_a1 (mu_0d f_a1 rfl)

-- X11_last
set_option maxRecDepth 100000 in
set_option maxHeartbeats 4000000 in
theorem SX11_last {z : zT} (a0 : Int32) (a1 : Int32) (h : ph_H) (I : IC z h) : PX11_last a0 a1 h ∧ iv (-2) 300 (FX11_last a0 a1 h) := by
  unfold PX11_last FX11_last
  have f1 : iv 0 1 (h 0 8) := ICv I 0 _
  refine sf_if (fun c2 => ?_) (fun c2 => ?_)
  · have f3 : iv 0 0 (h 0 8) := iv_eql f1 (iv_lit (lo := 0) (hi := 0) (x := 0) rfl) c2 rfl
    exact ⟨trivial, (iv_w (c := (-2)) (d := 300) (iv_lit (lo := (-2)) (hi := (-2)) (x := (-2)) rfl) rfl)⟩
  · have f4 : iv 1 1 (h 0 8) := iv_nel f1 c2 rfl
    have s5 := SX11_isMoment (z := z) a1 h I
    refine sf_n s5.1 ?_
    refine sf_if (fun c6 => ?_) (fun c6 => ?_)
    · have f7 : iv 0 0 (FX11_isMoment a1 h) := iv_eql s5.2.1 (iv_lit (lo := 0) (hi := 0) (x := 0) rfl) c6 rfl
      exact ⟨trivial, (iv_w (c := (-2)) (d := 300) (iv_lit (lo := (-1)) (hi := (-1)) (x := (-1)) rfl) rfl)⟩
    · have f8 : iv 0 300 a1 := iv_and (iv_any _) (s5.2.2 c6) rfl
      have f9 : iv 1 1 (FX11_isMoment a1 h) := iv_nel s5.2.1 c6 rfl
      have s10 := SX10_lastWrite (z := z) a0 a1 h I f8
      refine sf_n s10.1 ?_
      exact ⟨trivial, (iv_w (c := (-2)) (d := 300) s10.2 rfl)⟩

-- X10_nextRead
set_option maxRecDepth 100000 in
set_option maxHeartbeats 4000000 in
theorem SX10_nextRead_12 {z : zT} : ∀ (q : Nat) (x1 : Int32) (x3 : Int32) (h : ph_H), IC z h → iv 1 301 x3 → 301 - (x3).toInt < ((q : Nat) : Int) → PX10_nextRead_12  q x1 x3 h ∧ iv 0 300 (FX10_nextRead_12  q x1 x3 h) := by
  intro q
  induction q with
  | zero =>
    intro x1 x3 h I f_x3 mq
    exact mu_zu f_x3 mq rfl
  | succ q ih =>
    intro x1 x3 h I f_x3 mq
    unfold PX10_nextRead_12 FX10_nextRead_12
    have f1 : iv 0 300 (h 35 11) := ICv I 35 _
    refine sf_if (fun c2 => ?_) (fun c2 => ?_)
    · exact ⟨trivial, (iv_w (c := 0) (d := 300) (iv_lit (lo := 0) (hi := 0) (x := 0) rfl) rfl)⟩
    · have f3 : iv 1 300 x3 := iv_lel f_x3 f1 (nlt c2) rfl
      have f4 : iv 1 300 (h 35 11) := iv_ler f1 f_x3 (nlt c2) rfl
      refine sf_n (iv_in f3 rfl) ?_
      refine sf_if (fun c5 => ?_) (fun c5 => ?_)
      · exact ⟨trivial, (iv_w (c := 0) (d := 300) f3 rfl)⟩
      · have f6 : iv 2 301 (x3 + 1) := iv_add f3 (iv_lit (lo := 1) (hi := 1) (x := 1) rfl) rfl
        exact ih x1 (x3 + 1) h I (iv_w (c := 1) (d := 301) f6 rfl) (mu_up f3 mq rfl)
set_option maxRecDepth 100000 in
set_option maxHeartbeats 4000000 in
theorem SX10_nextRead {z : zT} (a0 : Int32) (a1 : Int32) (h : ph_H) (I : IC z h) (f_a1 : iv 0 300 a1) : PX10_nextRead a0 a1 h ∧ iv 0 300 (FX10_nextRead a0 a1 h) := by
  unfold PX10_nextRead FX10_nextRead
  refine sf_if (fun c1 => ?_) (fun c1 => ?_)
  · have f2 : iv (-2) (-2) a0 := iv_eql (iv_any a0) (iv_lit (lo := (-2)) (hi := (-2)) (x := (-2)) rfl) c1 rfl
    exact ⟨trivial, (iv_w (c := 0) (d := 300) (iv_lit (lo := 0) (hi := 0) (x := 0) rfl) rfl)⟩
  · have f3 : iv 1 301 (a1 + 1) := iv_add f_a1 (iv_lit (lo := 1) (hi := 1) (x := 1) rfl) rfl
    exact SX10_nextRead_12 2000 a0 (a1 + 1) h I f3 (mu_0u f3 rfl)

-- X11_next
set_option maxRecDepth 100000 in
set_option maxHeartbeats 4000000 in
theorem SX11_next {z : zT} (a0 : Int32) (a1 : Int32) (h : ph_H) (I : IC z h) : PX11_next a0 a1 h ∧ iv (-2) 300 (FX11_next a0 a1 h) := by
  unfold PX11_next FX11_next
  have f1 : iv 0 1 (h 0 8) := ICv I 0 _
  refine sf_if (fun c2 => ?_) (fun c2 => ?_)
  · have f3 : iv 0 0 (h 0 8) := iv_eql f1 (iv_lit (lo := 0) (hi := 0) (x := 0) rfl) c2 rfl
    exact ⟨trivial, (iv_w (c := (-2)) (d := 300) (iv_lit (lo := (-2)) (hi := (-2)) (x := (-2)) rfl) rfl)⟩
  · have f4 : iv 1 1 (h 0 8) := iv_nel f1 c2 rfl
    have s5 := SX11_isMoment (z := z) a1 h I
    refine sf_n s5.1 ?_
    refine sf_if (fun c6 => ?_) (fun c6 => ?_)
    · have f7 : iv 0 0 (FX11_isMoment a1 h) := iv_eql s5.2.1 (iv_lit (lo := 0) (hi := 0) (x := 0) rfl) c6 rfl
      exact ⟨trivial, (iv_w (c := (-2)) (d := 300) (iv_lit (lo := (-1)) (hi := (-1)) (x := (-1)) rfl) rfl)⟩
    · have f8 : iv 0 300 a1 := iv_and (iv_any _) (s5.2.2 c6) rfl
      have f9 : iv 1 1 (FX11_isMoment a1 h) := iv_nel s5.2.1 c6 rfl
      have s10 := SX10_nextRead (z := z) a0 a1 h I f8
      refine sf_n s10.1 ?_
      exact ⟨trivial, (iv_w (c := (-2)) (d := 300) s10.2 rfl)⟩

-- X10_holdsBehind
set_option maxRecDepth 100000 in
set_option maxHeartbeats 4000000 in
theorem SX10_holdsBehind {z : zT} (a0 : Int32) (a1 : Int32) (a2 : Int32) (a3 : Int32) (h : ph_H) (I : IC z h) (f_a0 : iv 0 300 a0) (f_a3 : iv 0 1 a3) : PX10_holdsBehind a0 a1 a2 a3 h ∧ iv 0 1 (FX10_holdsBehind a0 a1 a2 a3 h) := by
  unfold PX10_holdsBehind FX10_holdsBehind
  refine sf_if (fun c1 => ?_) (fun c1 => ?_)
  · have f2 : iv 0 0 a0 := iv_eql f_a0 (iv_lit (lo := 0) (hi := 0) (x := 0) rfl) c1 rfl
    refine sf_n (iv_bo f_a3) ?_
    exact ⟨trivial, f_a3⟩
  · have f3 : iv 1 300 a0 := iv_nel f_a0 c1 rfl
    refine sf_n (iv_in f3 rfl) ?_
    refine sf_if (fun c4 => ?_) (fun c4 => ?_)
    · refine sf_n (iv_in f3 rfl) ?_
      refine sf_if (fun c5 => ?_) (fun c5 => ?_)
      · have f6 : iv 0 0 (h 41 (a0.toNatClampNeg)) := iv_eql (iv_any (h 41 (a0.toNatClampNeg))) (iv_lit (lo := 0) (hi := 0) (x := 0) rfl) c5 rfl
        refine sf_n (iv_in f3 rfl) ?_
        refine sf_if (fun c7 => ?_) (fun c7 => ?_)
        · exact ⟨trivial, (iv_w (c := 0) (d := 1) (iv_lit (lo := 1) (hi := 1) (x := 1) rfl) rfl)⟩
        · exact ⟨trivial, (iv_w (c := 0) (d := 1) (iv_lit (lo := 0) (hi := 0) (x := 0) rfl) rfl)⟩
      · exact ⟨trivial, (iv_w (c := 0) (d := 1) (iv_lit (lo := 0) (hi := 0) (x := 0) rfl) rfl)⟩
    · refine sf_n (iv_bo f_a3) ?_
      exact ⟨trivial, f_a3⟩

-- X10_spanCount
set_option maxRecDepth 100000 in
set_option maxHeartbeats 4000000 in
theorem SX10_spanCount_21 {z : zT} : ∀ (q : Nat) (x1 : Int32) (x2 : Int32) (x4 : Int32) (x5 : Int32) (x6 : Int32) (x7 : Int32) (h : ph_H), IC z h → iv 0 1 x5 → iv 0 1 x6 → iv 0 301 x7 → 301 - (x7).toInt < ((q : Nat) : Int) → PX10_spanCount_21  q x1 x2 x4 x5 x6 x7 h ∧ iv (-2147483648) 2147483647 (FX10_spanCount_21  q x1 x2 x4 x5 x6 x7 h) := by
  intro q
  induction q with
  | zero =>
    intro x1 x2 x4 x5 x6 x7 h I f_x5 f_x6 f_x7 mq
    exact mu_zu f_x7 mq rfl
  | succ q ih =>
    intro x1 x2 x4 x5 x6 x7 h I f_x5 f_x6 f_x7 mq
    unfold PX10_spanCount_21 FX10_spanCount_21
    have f1 : iv 0 300 (h 35 11) := ICv I 35 _
    refine sf_if (fun c2 => ?_) (fun c2 => ?_)
    · have f3 : iv 1 301 x7 := iv_ltr f_x7 f1 c2 rfl
      exact ⟨trivial, (iv_any x4)⟩
    · have f4 : iv 0 300 x7 := iv_lel f_x7 f1 (nlt c2) rfl
      have s5 := SX10_holdsBehind (z := z) x7 x1 x2 x6 h I f4 f_x6
      refine sf_n s5.1 ?_
      refine sf_if (fun c6 => ?_) (fun c6 => ?_)
      · have f7 : iv 0 0 (FX10_holdsBehind x7 x1 x2 x6 h) := iv_eql s5.2 (iv_lit (lo := 0) (hi := 0) (x := 0) rfl) c6 rfl
        unfold PX10_spanCount_55 FX10_spanCount_55
        have f8 : iv 1 301 (x7 + 1) := iv_add f4 (iv_lit (lo := 1) (hi := 1) (x := 1) rfl) rfl
        exact ih x1 x2 x4 (FX10_holdsBehind x7 x1 x2 x6 h) (FX10_holdsBehind x7 x1 x2 x6 h) (x7 + 1) h I (iv_w (c := 0) (d := 1) f7 rfl) (iv_w (c := 0) (d := 1) f7 rfl) (iv_w (c := 0) (d := 301) f8 rfl) (mu_up f4 mq rfl)
      · have f9 : iv 1 1 (FX10_holdsBehind x7 x1 x2 x6 h) := iv_nel s5.2 c6 rfl
        refine sf_if (fun c10 => ?_) (fun c10 => ?_)
        · have f11 : iv 0 0 x5 := iv_eql f_x5 (iv_lit (lo := 0) (hi := 0) (x := 0) rfl) c10 rfl
          unfold PX10_spanCount_55 FX10_spanCount_55
          have f12 : iv 1 301 (x7 + 1) := iv_add f4 (iv_lit (lo := 1) (hi := 1) (x := 1) rfl) rfl
          exact ih x1 x2 (x4 + 1) (FX10_holdsBehind x7 x1 x2 x6 h) (FX10_holdsBehind x7 x1 x2 x6 h) (x7 + 1) h I (iv_w (c := 0) (d := 1) f9 rfl) (iv_w (c := 0) (d := 1) f9 rfl) (iv_w (c := 0) (d := 301) f12 rfl) (mu_up f4 mq rfl)
        · have f13 : iv 1 1 x5 := iv_nel f_x5 c10 rfl
          unfold PX10_spanCount_55 FX10_spanCount_55
          have f14 : iv 1 301 (x7 + 1) := iv_add f4 (iv_lit (lo := 1) (hi := 1) (x := 1) rfl) rfl
          exact ih x1 x2 x4 (FX10_holdsBehind x7 x1 x2 x6 h) (FX10_holdsBehind x7 x1 x2 x6 h) (x7 + 1) h I (iv_w (c := 0) (d := 1) f9 rfl) (iv_w (c := 0) (d := 1) f9 rfl) (iv_w (c := 0) (d := 301) f14 rfl) (mu_up f4 mq rfl)
set_option maxRecDepth 100000 in
set_option maxHeartbeats 4000000 in
theorem SX10_spanCount {z : zT} (a0 : Int32) (a1 : Int32) (a2 : Int32) (h : ph_H) (I : IC z h) : PX10_spanCount a0 a1 a2 h ∧ iv (-2147483648) 2147483647 (FX10_spanCount a0 a1 a2 h) := by
  unfold PX10_spanCount FX10_spanCount
  refine sf_if (fun c1 => ?_) (fun c1 => ?_)
  · unfold PX10_spanCount_16 FX10_spanCount_16
    exact SX10_spanCount_21 2000 a0 a1 0 0 1 0 h I (iv_w (c := 0) (d := 1) (iv_lit (lo := 0) (hi := 0) (x := 0) rfl) rfl) (iv_w (c := 0) (d := 1) (iv_lit (lo := 1) (hi := 1) (x := 1) rfl) rfl) (iv_w (c := 0) (d := 301) (iv_lit (lo := 0) (hi := 0) (x := 0) rfl) rfl) (mu_0u (iv_lit (lo := 0) (hi := 0) (x := 0) rfl) rfl)
  · unfold PX10_spanCount_16 FX10_spanCount_16
    exact SX10_spanCount_21 2000 a0 a1 0 0 0 0 h I (iv_w (c := 0) (d := 1) (iv_lit (lo := 0) (hi := 0) (x := 0) rfl) rfl) (iv_w (c := 0) (d := 1) (iv_lit (lo := 0) (hi := 0) (x := 0) rfl) rfl) (iv_w (c := 0) (d := 301) (iv_lit (lo := 0) (hi := 0) (x := 0) rfl) rfl) (mu_0u (iv_lit (lo := 0) (hi := 0) (x := 0) rfl) rfl)

-- X10_spanEdge
set_option maxRecDepth 100000 in
set_option maxHeartbeats 4000000 in
theorem SX10_spanEdge_21 {z : zT} : ∀ (q : Nat) (x1 : Int32) (x2 : Int32) (x4 : Int32) (x5 : Int32) (x6 : Int32) (x7 : Int32) (x8 : Int32) (x9 : Int32) (h : ph_H), IC z h → iv 0 1 x5 → iv 0 1 x7 → iv 0 1 x8 → iv 0 301 x9 → 301 - (x9).toInt < ((q : Nat) : Int) → PX10_spanEdge_21  q x1 x2 x4 x5 x6 x7 x8 x9 h ∧ iv (-1) 300 (FX10_spanEdge_21  q x1 x2 x4 x5 x6 x7 x8 x9 h) := by
  intro q
  induction q with
  | zero =>
    intro x1 x2 x4 x5 x6 x7 x8 x9 h I f_x5 f_x7 f_x8 f_x9 mq
    exact mu_zu f_x9 mq rfl
  | succ q ih =>
    intro x1 x2 x4 x5 x6 x7 x8 x9 h I f_x5 f_x7 f_x8 f_x9 mq
    unfold PX10_spanEdge_21 FX10_spanEdge_21
    have f1 : iv 0 300 (h 35 11) := ICv I 35 _
    refine sf_if (fun c2 => ?_) (fun c2 => ?_)
    · have f3 : iv 1 301 x9 := iv_ltr f_x9 f1 c2 rfl
      refine sf_if (fun c4 => ?_) (fun c4 => ?_)
      · have f5 : iv 0 0 x7 := iv_eql f_x7 (iv_lit (lo := 0) (hi := 0) (x := 0) rfl) c4 rfl
        exact ⟨trivial, (iv_w (c := (-1)) (d := 300) (iv_lit (lo := (-1)) (hi := (-1)) (x := (-1)) rfl) rfl)⟩
      · have f6 : iv 1 1 x7 := iv_nel f_x7 c4 rfl
        refine sf_if (fun c7 => ?_) (fun c7 => ?_)
        · have f8 : iv 0 0 x5 := iv_eql f_x5 (iv_lit (lo := 0) (hi := 0) (x := 0) rfl) c7 rfl
          refine sf_if (fun c9 => ?_) (fun c9 => ?_)
          · exact ⟨trivial, (iv_w (c := (-1)) (d := 300) f1 rfl)⟩
          · exact ⟨trivial, (iv_w (c := (-1)) (d := 300) (iv_lit (lo := (-1)) (hi := (-1)) (x := (-1)) rfl) rfl)⟩
        · have f10 : iv 1 1 x5 := iv_nel f_x5 c7 rfl
          exact ⟨trivial, (iv_w (c := (-1)) (d := 300) (iv_lit (lo := (-1)) (hi := (-1)) (x := (-1)) rfl) rfl)⟩
    · have f11 : iv 0 300 x9 := iv_lel f_x9 f1 (nlt c2) rfl
      have s12 := SX10_holdsBehind (z := z) x9 x1 x2 x8 h I f11 f_x8
      refine sf_n s12.1 ?_
      refine sf_if (fun c13 => ?_) (fun c13 => ?_)
      · have f14 : iv 0 0 (FX10_holdsBehind x9 x1 x2 x8 h) := iv_eql s12.2 (iv_lit (lo := 0) (hi := 0) (x := 0) rfl) c13 rfl
        unfold PX10_spanEdge_70 FX10_spanEdge_70
        refine sf_if (fun c15 => ?_) (fun c15 => ?_)
        · have f16 : iv 0 0 x7 := iv_eql f_x7 (iv_lit (lo := 0) (hi := 0) (x := 0) rfl) c15 rfl
          unfold PX10_spanEdge_92 FX10_spanEdge_92
          have f17 : iv 1 301 (x9 + 1) := iv_add f11 (iv_lit (lo := 1) (hi := 1) (x := 1) rfl) rfl
          exact ih x1 x2 x4 x5 x6 (FX10_holdsBehind x9 x1 x2 x8 h) (FX10_holdsBehind x9 x1 x2 x8 h) (x9 + 1) h I f_x5 (iv_w (c := 0) (d := 1) f14 rfl) (iv_w (c := 0) (d := 1) f14 rfl) (iv_w (c := 0) (d := 301) f17 rfl) (mu_up f11 mq rfl)
        · have f18 : iv 1 1 x7 := iv_nel f_x7 c15 rfl
          refine sf_if (fun c19 => ?_) (fun c19 => ?_)
          · refine sf_if (fun c20 => ?_) (fun c20 => ?_)
            · have f21 : iv (-1) 299 (x9 - 1) := iv_sub f11 (iv_lit (lo := 1) (hi := 1) (x := 1) rfl) rfl
              exact ⟨trivial, (iv_w (c := (-1)) (d := 300) f21 rfl)⟩
            · unfold PX10_spanEdge_92 FX10_spanEdge_92
              have f22 : iv 1 301 (x9 + 1) := iv_add f11 (iv_lit (lo := 1) (hi := 1) (x := 1) rfl) rfl
              exact ih x1 x2 x4 x5 x6 (FX10_holdsBehind x9 x1 x2 x8 h) (FX10_holdsBehind x9 x1 x2 x8 h) (x9 + 1) h I f_x5 (iv_w (c := 0) (d := 1) f14 rfl) (iv_w (c := 0) (d := 1) f14 rfl) (iv_w (c := 0) (d := 301) f22 rfl) (mu_up f11 mq rfl)
          · have f23 : iv 0 (-1) (FX10_holdsBehind x9 x1 x2 x8 h) := iv_nel f14 c19 rfl
            exact iv_no f23 rfl
      · have f24 : iv 1 1 (FX10_holdsBehind x9 x1 x2 x8 h) := iv_nel s12.2 c13 rfl
        refine sf_if (fun c25 => ?_) (fun c25 => ?_)
        · have f26 : iv 0 0 x7 := iv_eql f_x7 (iv_lit (lo := 0) (hi := 0) (x := 0) rfl) c25 rfl
          refine sf_if (fun c27 => ?_) (fun c27 => ?_)
          · have f28 : iv 0 0 x5 := iv_eql f_x5 (iv_lit (lo := 0) (hi := 0) (x := 0) rfl) c27 rfl
            unfold PX10_spanEdge_70 FX10_spanEdge_70
            refine sf_if (fun c29 => ?_) (fun c29 => ?_)
            · unfold PX10_spanEdge_92 FX10_spanEdge_92
              have f30 : iv 1 301 (x9 + 1) := iv_add f11 (iv_lit (lo := 1) (hi := 1) (x := 1) rfl) rfl
              exact ih x1 x2 x4 x5 (x6 + 1) (FX10_holdsBehind x9 x1 x2 x8 h) (FX10_holdsBehind x9 x1 x2 x8 h) (x9 + 1) h I (iv_w (c := 0) (d := 1) f28 rfl) (iv_w (c := 0) (d := 1) f24 rfl) (iv_w (c := 0) (d := 1) f24 rfl) (iv_w (c := 0) (d := 301) f30 rfl) (mu_up f11 mq rfl)
            · have f31 : iv 0 (-1) x7 := iv_nel f26 c29 rfl
              exact iv_no f31 rfl
          · have f32 : iv 1 1 x5 := iv_nel f_x5 c27 rfl
            refine sf_if (fun c33 => ?_) (fun c33 => ?_)
            · exact ⟨trivial, (iv_w (c := (-1)) (d := 300) f11 rfl)⟩
            · unfold PX10_spanEdge_70 FX10_spanEdge_70
              refine sf_if (fun c34 => ?_) (fun c34 => ?_)
              · unfold PX10_spanEdge_92 FX10_spanEdge_92
                have f35 : iv 1 301 (x9 + 1) := iv_add f11 (iv_lit (lo := 1) (hi := 1) (x := 1) rfl) rfl
                exact ih x1 x2 x4 x5 (x6 + 1) (FX10_holdsBehind x9 x1 x2 x8 h) (FX10_holdsBehind x9 x1 x2 x8 h) (x9 + 1) h I (iv_w (c := 0) (d := 1) f32 rfl) (iv_w (c := 0) (d := 1) f24 rfl) (iv_w (c := 0) (d := 1) f24 rfl) (iv_w (c := 0) (d := 301) f35 rfl) (mu_up f11 mq rfl)
              · have f36 : iv 0 (-1) x7 := iv_nel f26 c34 rfl
                exact iv_no f36 rfl
        · have f37 : iv 1 1 x7 := iv_nel f_x7 c25 rfl
          unfold PX10_spanEdge_70 FX10_spanEdge_70
          refine sf_if (fun c38 => ?_) (fun c38 => ?_)
          · have f39 : iv 1 0 x7 := iv_eql f37 (iv_lit (lo := 0) (hi := 0) (x := 0) rfl) c38 rfl
            exact iv_no f39 rfl
          · refine sf_if (fun c40 => ?_) (fun c40 => ?_)
            · have f41 : iv 1 0 (FX10_holdsBehind x9 x1 x2 x8 h) := iv_eql f24 (iv_lit (lo := 0) (hi := 0) (x := 0) rfl) c40 rfl
              exact iv_no f41 rfl
            · unfold PX10_spanEdge_92 FX10_spanEdge_92
              have f42 : iv 1 301 (x9 + 1) := iv_add f11 (iv_lit (lo := 1) (hi := 1) (x := 1) rfl) rfl
              exact ih x1 x2 x4 x5 x6 (FX10_holdsBehind x9 x1 x2 x8 h) (FX10_holdsBehind x9 x1 x2 x8 h) (x9 + 1) h I f_x5 (iv_w (c := 0) (d := 1) f24 rfl) (iv_w (c := 0) (d := 1) f24 rfl) (iv_w (c := 0) (d := 301) f42 rfl) (mu_up f11 mq rfl)
set_option maxRecDepth 100000 in
set_option maxHeartbeats 4000000 in
theorem SX10_spanEdge {z : zT} (a0 : Int32) (a1 : Int32) (a2 : Int32) (a3 : Int32) (a4 : Int32) (h : ph_H) (I : IC z h) (f_a4 : iv 0 1 a4) : PX10_spanEdge a0 a1 a2 a3 a4 h ∧ iv (-1) 300 (FX10_spanEdge a0 a1 a2 a3 a4 h) := by
  unfold PX10_spanEdge FX10_spanEdge
  refine sf_if (fun c1 => ?_) (fun c1 => ?_)
  · unfold PX10_spanEdge_16 FX10_spanEdge_16
    exact SX10_spanEdge_21 2000 a0 a1 a3 a4 (-1) 0 1 0 h I f_a4 (iv_w (c := 0) (d := 1) (iv_lit (lo := 0) (hi := 0) (x := 0) rfl) rfl) (iv_w (c := 0) (d := 1) (iv_lit (lo := 1) (hi := 1) (x := 1) rfl) rfl) (iv_w (c := 0) (d := 301) (iv_lit (lo := 0) (hi := 0) (x := 0) rfl) rfl) (mu_0u (iv_lit (lo := 0) (hi := 0) (x := 0) rfl) rfl)
  · unfold PX10_spanEdge_16 FX10_spanEdge_16
    exact SX10_spanEdge_21 2000 a0 a1 a3 a4 (-1) 0 0 0 h I f_a4 (iv_w (c := 0) (d := 1) (iv_lit (lo := 0) (hi := 0) (x := 0) rfl) rfl) (iv_w (c := 0) (d := 1) (iv_lit (lo := 0) (hi := 0) (x := 0) rfl) rfl) (iv_w (c := 0) (d := 301) (iv_lit (lo := 0) (hi := 0) (x := 0) rfl) rfl) (mu_0u (iv_lit (lo := 0) (hi := 0) (x := 0) rfl) rfl)

-- X11_when
set_option maxRecDepth 100000 in
set_option maxHeartbeats 4000000 in
theorem SX11_when {z : zT} (a0 : Int32) (a1 : Int32) (a2 : Int32) (a3 : Int32) (h : ph_H) (I : IC z h) : PX11_when a0 a1 a2 a3 h ∧ iv (-2147483648) 2147483647 (FX11_when a0 a1 a2 a3 h) := by
  unfold PX11_when FX11_when
  have f1 : iv 0 1 (h 0 8) := ICv I 0 _
  refine sf_if (fun c2 => ?_) (fun c2 => ?_)
  · have f3 : iv 0 0 (h 0 8) := iv_eql f1 (iv_lit (lo := 0) (hi := 0) (x := 0) rfl) c2 rfl
    exact ⟨trivial, (iv_any (-2))⟩
  · have f4 : iv 1 1 (h 0 8) := iv_nel f1 c2 rfl
    have s5 := SX11_isCell a0 
    refine sf_n s5.1 ?_
    refine sf_if (fun c6 => ?_) (fun c6 => ?_)
    · have f7 : iv 0 0 (FX11_isCell a0) := iv_eql s5.2.1 (iv_lit (lo := 0) (hi := 0) (x := 0) rfl) c6 rfl
      exact ⟨trivial, (iv_any (-1))⟩
    · have f8 : iv 0 11 a0 := iv_and (iv_any _) (s5.2.2 c6) rfl
      have f9 : iv 1 1 (FX11_isCell a0) := iv_nel s5.2.1 c6 rfl
      refine sf_if (fun c10 => ?_) (fun c10 => ?_)
      · have f11 : iv (-2147483648) (-1) a3 := iv_ltl (iv_any a3) (iv_lit (lo := 0) (hi := 0) (x := 0) rfl) c10 rfl
        exact ⟨trivial, (iv_any (-1))⟩
      · have f12 : iv 0 2147483647 a3 := iv_ler (iv_any a3) (iv_lit (lo := 0) (hi := 0) (x := 0) rfl) (nlt c10) rfl
        refine sf_if (fun c13 => ?_) (fun c13 => ?_)
        · have f14 : iv 0 2 a3 := iv_lel f12 (iv_lit (lo := 2) (hi := 2) (x := 2) rfl) c13 rfl
          refine sf_if (fun c15 => ?_) (fun c15 => ?_)
          · have f16 : iv 0 0 a3 := iv_eql f14 (iv_lit (lo := 0) (hi := 0) (x := 0) rfl) c15 rfl
            refine sf_n (iv_in f8 rfl) ?_
            have s17 := SX10_spanCount (z := z) a0 a1 (h 11 (a0.toNatClampNeg)) h I
            refine sf_n s17.1 ?_
            exact ⟨trivial, s17.2⟩
          · have f18 : iv 1 2 a3 := iv_nel f14 c15 rfl
            refine sf_n (iv_in f8 rfl) ?_
            refine sf_if (fun c19 => ?_) (fun c19 => ?_)
            · have f20 : iv 1 1 a3 := iv_eql f18 (iv_lit (lo := 1) (hi := 1) (x := 1) rfl) c19 rfl
              unfold PX11_when_81 FX11_when_81
              have s21 := SX10_spanEdge (z := z) a0 a1 (h 11 (a0.toNatClampNeg)) a2 1 h I (iv_w (c := 0) (d := 1) (iv_lit (lo := 1) (hi := 1) (x := 1) rfl) rfl)
              refine sf_n s21.1 ?_
              exact ⟨trivial, (iv_any (FX10_spanEdge a0 a1 (h 11 (a0.toNatClampNeg)) a2 1 h))⟩
            · have f22 : iv 2 2 a3 := iv_nel f18 c19 rfl
              unfold PX11_when_81 FX11_when_81
              have s23 := SX10_spanEdge (z := z) a0 a1 (h 11 (a0.toNatClampNeg)) a2 0 h I (iv_w (c := 0) (d := 1) (iv_lit (lo := 0) (hi := 0) (x := 0) rfl) rfl)
              refine sf_n s23.1 ?_
              exact ⟨trivial, (iv_any (FX10_spanEdge a0 a1 (h 11 (a0.toNatClampNeg)) a2 0 h))⟩
        · have f24 : iv 3 2147483647 a3 := iv_ltr f12 (iv_lit (lo := 2) (hi := 2) (x := 2) rfl) (nle c13) rfl
          exact ⟨trivial, (iv_any (-1))⟩

-- X4_isAhead
set_option maxRecDepth 100000 in
set_option maxHeartbeats 4000000 in
theorem SX4_isAhead {z : zT} (a0 : Int32) (a1 : Int32) (h : ph_H) (I : IC z h) (f_a0 : iv 0 300 a0) (f_a1 : iv 0 300 a1) : PX4_isAhead a0 a1 h ∧ iv 0 1 (FX4_isAhead a0 a1 h) := by
  unfold PX4_isAhead FX4_isAhead
  refine sf_if (fun c1 => ?_) (fun c1 => ?_)
  · exact ⟨trivial, (iv_w (c := 0) (d := 1) (iv_lit (lo := 0) (hi := 0) (x := 0) rfl) rfl)⟩
  · have f2 : iv 0 299 a0 := iv_ltl f_a0 f_a1 (nle c1) rfl
    have f3 : iv 1 300 a1 := iv_ltr f_a1 f_a0 (nle c1) rfl
    have f4 : iv 4 1200 (a1 * 4) := iv_mulr (c := 4) rfl f3 rfl
    refine sf_n (iv_in f2 rfl) ?_
    have f5 : iv 0 3 (h 36 (a0.toNatClampNeg)) := ICv I 36 _
    have f6 : iv 4 1203 ((a1 * 4) + (h 36 (a0.toNatClampNeg))) := iv_add f4 f5 rfl
    refine sf_n (iv_in f6 rfl) ?_
    refine sf_if (fun c7 => ?_) (fun c7 => ?_)
    · have f8 : iv (-2147483648) 298 (h 48 (((a1 * 4) + (h 36 (a0.toNatClampNeg))).toNatClampNeg)) := iv_ltl (iv_any (h 48 (((a1 * 4) + (h 36 (a0.toNatClampNeg))).toNatClampNeg))) f2 c7 rfl
      exact ⟨trivial, (iv_w (c := 0) (d := 1) (iv_lit (lo := 0) (hi := 0) (x := 0) rfl) rfl)⟩
    · have f9 : iv 0 2147483647 (h 48 (((a1 * 4) + (h 36 (a0.toNatClampNeg))).toNatClampNeg)) := iv_ler (iv_any (h 48 (((a1 * 4) + (h 36 (a0.toNatClampNeg))).toNatClampNeg))) f2 (nlt c7) rfl
      exact ⟨trivial, (iv_w (c := 0) (d := 1) (iv_lit (lo := 1) (hi := 1) (x := 1) rfl) rfl)⟩

-- J7_fill_53178_k49
set_option maxRecDepth 100000 in
set_option maxHeartbeats 4000000 in
theorem SJ7_fill_53178_k49_5 {z : zT} : ∀ (q : Nat) (x1 : Int32) (x2 : Int32) (x3 : Int32) (h : ph_H), IC z h → iv 0 16 x2 → iv 16 16 x3 → 16 - (x2).toInt < ((q : Nat) : Int) → PJ7_fill_53178_k49_5  q x1 x2 x3 h ∧ IC z (FJ7_fill_53178_k49_5  q x1 x2 x3 h) := by
  intro q
  induction q with
  | zero =>
    intro x1 x2 x3 h I f_x2 f_x3 mq
    exact mu_zu f_x2 mq rfl
  | succ q ih =>
    intro x1 x2 x3 h I f_x2 f_x3 mq
    unfold PJ7_fill_53178_k49_5 FJ7_fill_53178_k49_5
    refine sf_if (fun c1 => ?_) (fun c1 => ?_)
    · have f2 : iv 16 16 x2 := iv_ler f_x2 f_x3 c1 rfl
      exact ⟨trivial, I⟩
    · have f3 : iv 0 15 x2 := iv_ltl f_x2 f_x3 (nle c1) rfl
      refine sf_n (iv_in f3 rfl) ?_
      have I4 : IC z (hs h 49 x2.toNatClampNeg x1) := ICs I (k := 49) (i := x2.toNatClampNeg) (v := x1) (iv_any x1) rfl
      have f5 : iv 1 16 (x2 + 1) := iv_add f3 (iv_lit (lo := 1) (hi := 1) (x := 1) rfl) rfl
      exact ih x1 (x2 + 1) x3 (hs h 49 x2.toNatClampNeg x1) I4 (iv_w (c := 0) (d := 16) f5 rfl) f_x3 (mu_up f3 mq rfl)
set_option maxRecDepth 100000 in
set_option maxHeartbeats 4000000 in
theorem SJ7_fill_53178_k49 {z : zT} (a1 : Int32) (h : ph_H) (I : IC z h) : PJ7_fill_53178_k49 a1 h ∧ IC z (FJ7_fill_53178_k49 a1 h) := by
  unfold PJ7_fill_53178_k49 FJ7_fill_53178_k49
  exact SJ7_fill_53178_k49_5 2000 a1 0 16 h I (iv_w (c := 0) (d := 16) (iv_lit (lo := 0) (hi := 0) (x := 0) rfl) rfl) (iv_lit (lo := 16) (hi := 16) (x := 16) rfl) (mu_0u (iv_lit (lo := 0) (hi := 0) (x := 0) rfl) rfl)

-- J7_fill_53178_k50
set_option maxRecDepth 100000 in
set_option maxHeartbeats 4000000 in
theorem SJ7_fill_53178_k50_5 {z : zT} : ∀ (q : Nat) (x1 : Int32) (x2 : Int32) (x3 : Int32) (h : ph_H), IC z h → iv 0 48 x2 → iv 48 48 x3 → 48 - (x2).toInt < ((q : Nat) : Int) → PJ7_fill_53178_k50_5  q x1 x2 x3 h ∧ IC z (FJ7_fill_53178_k50_5  q x1 x2 x3 h) := by
  intro q
  induction q with
  | zero =>
    intro x1 x2 x3 h I f_x2 f_x3 mq
    exact mu_zu f_x2 mq rfl
  | succ q ih =>
    intro x1 x2 x3 h I f_x2 f_x3 mq
    unfold PJ7_fill_53178_k50_5 FJ7_fill_53178_k50_5
    refine sf_if (fun c1 => ?_) (fun c1 => ?_)
    · have f2 : iv 48 48 x2 := iv_ler f_x2 f_x3 c1 rfl
      exact ⟨trivial, I⟩
    · have f3 : iv 0 47 x2 := iv_ltl f_x2 f_x3 (nle c1) rfl
      refine sf_n (iv_in f3 rfl) ?_
      have I4 : IC z (hs h 50 x2.toNatClampNeg x1) := ICs I (k := 50) (i := x2.toNatClampNeg) (v := x1) (iv_any x1) rfl
      have f5 : iv 1 48 (x2 + 1) := iv_add f3 (iv_lit (lo := 1) (hi := 1) (x := 1) rfl) rfl
      exact ih x1 (x2 + 1) x3 (hs h 50 x2.toNatClampNeg x1) I4 (iv_w (c := 0) (d := 48) f5 rfl) f_x3 (mu_up f3 mq rfl)
set_option maxRecDepth 100000 in
set_option maxHeartbeats 4000000 in
theorem SJ7_fill_53178_k50 {z : zT} (a1 : Int32) (h : ph_H) (I : IC z h) : PJ7_fill_53178_k50 a1 h ∧ IC z (FJ7_fill_53178_k50 a1 h) := by
  unfold PJ7_fill_53178_k50 FJ7_fill_53178_k50
  exact SJ7_fill_53178_k50_5 2000 a1 0 48 h I (iv_w (c := 0) (d := 48) (iv_lit (lo := 0) (hi := 0) (x := 0) rfl) rfl) (iv_lit (lo := 48) (hi := 48) (x := 48) rfl) (mu_0u (iv_lit (lo := 0) (hi := 0) (x := 0) rfl) rfl)

-- X10_placeOf
set_option maxRecDepth 100000 in
set_option maxHeartbeats 4000000 in
theorem SX10_placeOf {z : zT} (a0 : Int32) (h : ph_H) (I : IC z h) (f_a0 : iv 0 300 a0) : PX10_placeOf a0 h ∧ iv (-2147483648) 2147483647 (FX10_placeOf a0 h) := by
  unfold PX10_placeOf FX10_placeOf
  refine sf_n (iv_in f_a0 rfl) ?_
  refine sf_if (fun c1 => ?_) (fun c1 => ?_)
  · have f2 : iv (-2) (-2) (h 39 (a0.toNatClampNeg)) := iv_eql (iv_any (h 39 (a0.toNatClampNeg))) (iv_lit (lo := (-2)) (hi := (-2)) (x := (-2)) rfl) c1 rfl
    refine sf_n (iv_in f_a0 rfl) ?_
    exact ⟨trivial, (iv_any (h 40 (a0.toNatClampNeg)))⟩
  · refine sf_n (iv_in f_a0 rfl) ?_
    exact ⟨trivial, (iv_any (h 39 (a0.toNatClampNeg)))⟩

-- X4_isRace
set_option maxRecDepth 100000 in
set_option maxHeartbeats 4000000 in
theorem SX4_isRace {z : zT} (a0 : Int32) (a1 : Int32) (h : ph_H) (I : IC z h) (f_a0 : iv 0 300 a0) (f_a1 : iv 0 300 a1) : PX4_isRace a0 a1 h ∧ iv 0 1 (FX4_isRace a0 a1 h) := by
  unfold PX4_isRace FX4_isRace
  have s1 := SX10_placeOf (z := z) a1 h I f_a1
  refine sf_n s1.1 ?_
  refine sf_if (fun c2 => ?_) (fun c2 => ?_)
  · have f3 : iv (-2) (-2) (FX10_placeOf a1 h) := iv_eql s1.2 (iv_lit (lo := (-2)) (hi := (-2)) (x := (-2)) rfl) c2 rfl
    exact ⟨trivial, (iv_w (c := 0) (d := 1) (iv_lit (lo := 0) (hi := 0) (x := 0) rfl) rfl)⟩
  · have s4 := SX10_placeOf (z := z) a0 h I f_a0
    refine sf_n s4.1 ?_
    refine sf_if (fun c5 => ?_) (fun c5 => ?_)
    · refine sf_n (iv_in f_a0 rfl) ?_
      have f6 : iv 0 3 (h 36 (a0.toNatClampNeg)) := ICv I 36 _
      refine sf_n (iv_in f_a1 rfl) ?_
      have f7 : iv 0 3 (h 36 (a1.toNatClampNeg)) := ICv I 36 _
      refine sf_if (fun c8 => ?_) (fun c8 => ?_)
      · exact ⟨trivial, (iv_w (c := 0) (d := 1) (iv_lit (lo := 0) (hi := 0) (x := 0) rfl) rfl)⟩
      · refine sf_n (iv_in f_a0 rfl) ?_
        refine sf_if (fun c9 => ?_) (fun c9 => ?_)
        · unfold PX4_isRace_76 FX4_isRace_76
          have s10 := SX4_isAhead (z := z) a0 a1 h I f_a0 f_a1
          refine sf_n s10.1 ?_
          refine sf_if (fun c11 => ?_) (fun c11 => ?_)
          · have f12 : iv 0 0 (FX4_isAhead a0 a1 h) := iv_eql s10.2 (iv_lit (lo := 0) (hi := 0) (x := 0) rfl) c11 rfl
            exact ⟨trivial, (iv_w (c := 0) (d := 1) (iv_lit (lo := 1) (hi := 1) (x := 1) rfl) rfl)⟩
          · have f13 : iv 1 1 (FX4_isAhead a0 a1 h) := iv_nel s10.2 c11 rfl
            exact ⟨trivial, (iv_w (c := 0) (d := 1) (iv_lit (lo := 0) (hi := 0) (x := 0) rfl) rfl)⟩
        · refine sf_n (iv_in f_a1 rfl) ?_
          refine sf_if (fun c14 => ?_) (fun c14 => ?_)
          · unfold PX4_isRace_76 FX4_isRace_76
            have s15 := SX4_isAhead (z := z) a0 a1 h I f_a0 f_a1
            refine sf_n s15.1 ?_
            refine sf_if (fun c16 => ?_) (fun c16 => ?_)
            · have f17 : iv 0 0 (FX4_isAhead a0 a1 h) := iv_eql s15.2 (iv_lit (lo := 0) (hi := 0) (x := 0) rfl) c16 rfl
              exact ⟨trivial, (iv_w (c := 0) (d := 1) (iv_lit (lo := 1) (hi := 1) (x := 1) rfl) rfl)⟩
            · have f18 : iv 1 1 (FX4_isAhead a0 a1 h) := iv_nel s15.2 c16 rfl
              exact ⟨trivial, (iv_w (c := 0) (d := 1) (iv_lit (lo := 0) (hi := 0) (x := 0) rfl) rfl)⟩
          · exact ⟨trivial, (iv_w (c := 0) (d := 1) (iv_lit (lo := 0) (hi := 0) (x := 0) rfl) rfl)⟩
    · exact ⟨trivial, (iv_w (c := 0) (d := 1) (iv_lit (lo := 0) (hi := 0) (x := 0) rfl) rfl)⟩

-- X4_countRaces
set_option maxRecDepth 100000 in
set_option maxHeartbeats 4000000 in
theorem SX4_countRaces_19 {z : zT} : ∀ (q : Nat) (x1 : Int32) (x2 : Int32) (x3 : Int32) (h : ph_H), IC z h → iv 0 300 x1 → iv 1 300 x3 → 300 - (x3).toInt < ((q : Nat) : Int) → PX4_countRaces_19  q x1 x2 x3 h ∧ iv (-2147483648) 2147483647 (FX4_countRaces_19  q x1 x2 x3 h) := by
  intro q
  induction q with
  | zero =>
    intro x1 x2 x3 h I f_x1 f_x3 mq
    exact mu_zu f_x3 mq rfl
  | succ q ih =>
    intro x1 x2 x3 h I f_x1 f_x3 mq
    unfold PX4_countRaces_19 FX4_countRaces_19
    refine sf_if (fun c1 => ?_) (fun c1 => ?_)
    · exact ⟨trivial, (iv_any x2)⟩
    · have f2 : iv 1 299 x3 := iv_ltl f_x3 f_x1 (nle c1) rfl
      have f3 : iv 2 300 x1 := iv_ltr f_x1 f_x3 (nle c1) rfl
      have s4 := SX4_isRace (z := z) x3 x1 h I (iv_w (c := 0) (d := 300) f2 rfl) (iv_w (c := 0) (d := 300) f3 rfl)
      refine sf_n s4.1 ?_
      refine sf_if (fun c5 => ?_) (fun c5 => ?_)
      · have f6 : iv 0 0 (FX4_isRace x3 x1 h) := iv_eql s4.2 (iv_lit (lo := 0) (hi := 0) (x := 0) rfl) c5 rfl
        unfold PX4_countRaces_36 FX4_countRaces_36
        have f7 : iv 2 300 (x3 + 1) := iv_add f2 (iv_lit (lo := 1) (hi := 1) (x := 1) rfl) rfl
        exact ih x1 x2 (x3 + 1) h I (iv_w (c := 0) (d := 300) f3 rfl) (iv_w (c := 1) (d := 300) f7 rfl) (mu_up f2 mq rfl)
      · have f8 : iv 1 1 (FX4_isRace x3 x1 h) := iv_nel s4.2 c5 rfl
        unfold PX4_countRaces_36 FX4_countRaces_36
        have f9 : iv 2 300 (x3 + 1) := iv_add f2 (iv_lit (lo := 1) (hi := 1) (x := 1) rfl) rfl
        exact ih x1 (x2 + 1) (x3 + 1) h I (iv_w (c := 0) (d := 300) f3 rfl) (iv_w (c := 1) (d := 300) f9 rfl) (mu_up f2 mq rfl)
set_option maxRecDepth 100000 in
set_option maxHeartbeats 4000000 in
theorem SX4_countRaces {z : zT} (a0 : Int32) (h : ph_H) (I : IC z h) (f_a0 : iv 0 300 a0) : PX4_countRaces a0 h ∧ iv (-2147483648) 2147483647 (FX4_countRaces a0 h) := by
  unfold PX4_countRaces FX4_countRaces
  have s1 := SX10_placeOf (z := z) a0 h I f_a0
  refine sf_n s1.1 ?_
  refine sf_if (fun c2 => ?_) (fun c2 => ?_)
  · have f3 : iv (-2) (-2) (FX10_placeOf a0 h) := iv_eql s1.2 (iv_lit (lo := (-2)) (hi := (-2)) (x := (-2)) rfl) c2 rfl
    exact ⟨trivial, (iv_any 0)⟩
  · exact SX4_countRaces_19 2000 a0 0 1 h I f_a0 (iv_w (c := 1) (d := 300) (iv_lit (lo := 1) (hi := 1) (x := 1) rfl) rfl) (mu_0u (iv_lit (lo := 1) (hi := 1) (x := 1) rfl) rfl)

-- X4_join_k49k49
set_option maxRecDepth 100000 in
set_option maxHeartbeats 4000000 in
theorem SX4_join_k49k49_3 {z : zT} : ∀ (q : Nat) (x1 : Int32) (x3 : Int32) (x4 : Int32) (h : ph_H), IC z h → iv 0 12 x1 → iv 0 12 x3 → iv 0 4 x4 → 4 - (x4).toInt < ((q : Nat) : Int) → PX4_join_k49k49_3  q x1 x3 x4 h ∧ IC z (FX4_join_k49k49_3  q x1 x3 x4 h) := by
  intro q
  induction q with
  | zero =>
    intro x1 x3 x4 h I f_x1 f_x3 f_x4 mq
    exact mu_zu f_x4 mq rfl
  | succ q ih =>
    intro x1 x3 x4 h I f_x1 f_x3 f_x4 mq
    unfold PX4_join_k49k49_3 FX4_join_k49k49_3
    refine sf_if (fun c1 => ?_) (fun c1 => ?_)
    · have f2 : iv 4 4 x4 := iv_ler f_x4 (iv_lit (lo := 4) (hi := 4) (x := 4) rfl) c1 rfl
      exact ⟨trivial, I⟩
    · have f3 : iv 0 3 x4 := iv_ltl f_x4 (iv_lit (lo := 4) (hi := 4) (x := 4) rfl) (nle c1) rfl
      have f4 : iv 0 15 (x3 + x4) := iv_add f_x3 f3 rfl
      refine sf_n (iv_in f4 rfl) ?_
      have f5 : iv 0 15 (x1 + x4) := iv_add f_x1 f3 rfl
      refine sf_n (iv_in f5 rfl) ?_
      refine sf_n (iv_in f4 rfl) ?_
      have I6 : IC z (hs h 49 (x3 + x4).toNatClampNeg (if (h 49 ((x3 + x4).toNatClampNeg)) < (h 49 ((x1 + x4).toNatClampNeg)) then (h 49 ((x1 + x4).toNatClampNeg)) else (h 49 ((x3 + x4).toNatClampNeg)))) := ICs I (k := 49) (i := (x3 + x4).toNatClampNeg) (v := (if (h 49 ((x3 + x4).toNatClampNeg)) < (h 49 ((x1 + x4).toNatClampNeg)) then (h 49 ((x1 + x4).toNatClampNeg)) else (h 49 ((x3 + x4).toNatClampNeg)))) (iv_any (if (h 49 ((x3 + x4).toNatClampNeg)) < (h 49 ((x1 + x4).toNatClampNeg)) then (h 49 ((x1 + x4).toNatClampNeg)) else (h 49 ((x3 + x4).toNatClampNeg)))) rfl
      have f7 : iv 1 4 (x4 + 1) := iv_add f3 (iv_lit (lo := 1) (hi := 1) (x := 1) rfl) rfl
      exact ih x1 x3 (x4 + 1) (hs h 49 (x3 + x4).toNatClampNeg (if (h 49 ((x3 + x4).toNatClampNeg)) < (h 49 ((x1 + x4).toNatClampNeg)) then (h 49 ((x1 + x4).toNatClampNeg)) else (h 49 ((x3 + x4).toNatClampNeg)))) I6 f_x1 f_x3 (iv_w (c := 0) (d := 4) f7 rfl) (mu_up f3 mq rfl)
set_option maxRecDepth 100000 in
set_option maxHeartbeats 4000000 in
theorem SX4_join_k49k49 {z : zT} (a1 : Int32) (a3 : Int32) (h : ph_H) (I : IC z h) (f_a1 : iv 0 12 a1) (f_a3 : iv 0 12 a3) : PX4_join_k49k49 a1 a3 h ∧ IC z (FX4_join_k49k49 a1 a3 h) := by
  unfold PX4_join_k49k49 FX4_join_k49k49
  exact SX4_join_k49k49_3 2000 a1 a3 0 h I f_a1 f_a3 (iv_w (c := 0) (d := 4) (iv_lit (lo := 0) (hi := 0) (x := 0) rfl) rfl) (mu_0u (iv_lit (lo := 0) (hi := 0) (x := 0) rfl) rfl)

-- X4_join_k49k50
set_option maxRecDepth 100000 in
set_option maxHeartbeats 4000000 in
theorem SX4_join_k49k50_3 {z : zT} : ∀ (q : Nat) (x1 : Int32) (x3 : Int32) (x4 : Int32) (h : ph_H), IC z h → iv 0 12 x1 → iv 0 44 x3 → iv 0 4 x4 → 4 - (x4).toInt < ((q : Nat) : Int) → PX4_join_k49k50_3  q x1 x3 x4 h ∧ IC z (FX4_join_k49k50_3  q x1 x3 x4 h) := by
  intro q
  induction q with
  | zero =>
    intro x1 x3 x4 h I f_x1 f_x3 f_x4 mq
    exact mu_zu f_x4 mq rfl
  | succ q ih =>
    intro x1 x3 x4 h I f_x1 f_x3 f_x4 mq
    unfold PX4_join_k49k50_3 FX4_join_k49k50_3
    refine sf_if (fun c1 => ?_) (fun c1 => ?_)
    · have f2 : iv 4 4 x4 := iv_ler f_x4 (iv_lit (lo := 4) (hi := 4) (x := 4) rfl) c1 rfl
      exact ⟨trivial, I⟩
    · have f3 : iv 0 3 x4 := iv_ltl f_x4 (iv_lit (lo := 4) (hi := 4) (x := 4) rfl) (nle c1) rfl
      have f4 : iv 0 47 (x3 + x4) := iv_add f_x3 f3 rfl
      refine sf_n (iv_in f4 rfl) ?_
      have f5 : iv 0 15 (x1 + x4) := iv_add f_x1 f3 rfl
      refine sf_n (iv_in f5 rfl) ?_
      refine sf_n (iv_in f4 rfl) ?_
      have I6 : IC z (hs h 50 (x3 + x4).toNatClampNeg (if (h 50 ((x3 + x4).toNatClampNeg)) < (h 49 ((x1 + x4).toNatClampNeg)) then (h 49 ((x1 + x4).toNatClampNeg)) else (h 50 ((x3 + x4).toNatClampNeg)))) := ICs I (k := 50) (i := (x3 + x4).toNatClampNeg) (v := (if (h 50 ((x3 + x4).toNatClampNeg)) < (h 49 ((x1 + x4).toNatClampNeg)) then (h 49 ((x1 + x4).toNatClampNeg)) else (h 50 ((x3 + x4).toNatClampNeg)))) (iv_any (if (h 50 ((x3 + x4).toNatClampNeg)) < (h 49 ((x1 + x4).toNatClampNeg)) then (h 49 ((x1 + x4).toNatClampNeg)) else (h 50 ((x3 + x4).toNatClampNeg)))) rfl
      have f7 : iv 1 4 (x4 + 1) := iv_add f3 (iv_lit (lo := 1) (hi := 1) (x := 1) rfl) rfl
      exact ih x1 x3 (x4 + 1) (hs h 50 (x3 + x4).toNatClampNeg (if (h 50 ((x3 + x4).toNatClampNeg)) < (h 49 ((x1 + x4).toNatClampNeg)) then (h 49 ((x1 + x4).toNatClampNeg)) else (h 50 ((x3 + x4).toNatClampNeg)))) I6 f_x1 f_x3 (iv_w (c := 0) (d := 4) f7 rfl) (mu_up f3 mq rfl)
set_option maxRecDepth 100000 in
set_option maxHeartbeats 4000000 in
theorem SX4_join_k49k50 {z : zT} (a1 : Int32) (a3 : Int32) (h : ph_H) (I : IC z h) (f_a1 : iv 0 12 a1) (f_a3 : iv 0 44 a3) : PX4_join_k49k50 a1 a3 h ∧ IC z (FX4_join_k49k50 a1 a3 h) := by
  unfold PX4_join_k49k50 FX4_join_k49k50
  exact SX4_join_k49k50_3 2000 a1 a3 0 h I f_a1 f_a3 (iv_w (c := 0) (d := 4) (iv_lit (lo := 0) (hi := 0) (x := 0) rfl) rfl) (mu_0u (iv_lit (lo := 0) (hi := 0) (x := 0) rfl) rfl)

-- X4_join_k50k49
set_option maxRecDepth 100000 in
set_option maxHeartbeats 4000000 in
theorem SX4_join_k50k49_3 {z : zT} : ∀ (q : Nat) (x1 : Int32) (x3 : Int32) (x4 : Int32) (h : ph_H), IC z h → iv 0 44 x1 → iv 0 12 x3 → iv 0 4 x4 → 4 - (x4).toInt < ((q : Nat) : Int) → PX4_join_k50k49_3  q x1 x3 x4 h ∧ IC z (FX4_join_k50k49_3  q x1 x3 x4 h) := by
  intro q
  induction q with
  | zero =>
    intro x1 x3 x4 h I f_x1 f_x3 f_x4 mq
    exact mu_zu f_x4 mq rfl
  | succ q ih =>
    intro x1 x3 x4 h I f_x1 f_x3 f_x4 mq
    unfold PX4_join_k50k49_3 FX4_join_k50k49_3
    refine sf_if (fun c1 => ?_) (fun c1 => ?_)
    · have f2 : iv 4 4 x4 := iv_ler f_x4 (iv_lit (lo := 4) (hi := 4) (x := 4) rfl) c1 rfl
      exact ⟨trivial, I⟩
    · have f3 : iv 0 3 x4 := iv_ltl f_x4 (iv_lit (lo := 4) (hi := 4) (x := 4) rfl) (nle c1) rfl
      have f4 : iv 0 15 (x3 + x4) := iv_add f_x3 f3 rfl
      refine sf_n (iv_in f4 rfl) ?_
      have f5 : iv 0 47 (x1 + x4) := iv_add f_x1 f3 rfl
      refine sf_n (iv_in f5 rfl) ?_
      refine sf_n (iv_in f4 rfl) ?_
      have I6 : IC z (hs h 49 (x3 + x4).toNatClampNeg (if (h 49 ((x3 + x4).toNatClampNeg)) < (h 50 ((x1 + x4).toNatClampNeg)) then (h 50 ((x1 + x4).toNatClampNeg)) else (h 49 ((x3 + x4).toNatClampNeg)))) := ICs I (k := 49) (i := (x3 + x4).toNatClampNeg) (v := (if (h 49 ((x3 + x4).toNatClampNeg)) < (h 50 ((x1 + x4).toNatClampNeg)) then (h 50 ((x1 + x4).toNatClampNeg)) else (h 49 ((x3 + x4).toNatClampNeg)))) (iv_any (if (h 49 ((x3 + x4).toNatClampNeg)) < (h 50 ((x1 + x4).toNatClampNeg)) then (h 50 ((x1 + x4).toNatClampNeg)) else (h 49 ((x3 + x4).toNatClampNeg)))) rfl
      have f7 : iv 1 4 (x4 + 1) := iv_add f3 (iv_lit (lo := 1) (hi := 1) (x := 1) rfl) rfl
      exact ih x1 x3 (x4 + 1) (hs h 49 (x3 + x4).toNatClampNeg (if (h 49 ((x3 + x4).toNatClampNeg)) < (h 50 ((x1 + x4).toNatClampNeg)) then (h 50 ((x1 + x4).toNatClampNeg)) else (h 49 ((x3 + x4).toNatClampNeg)))) I6 f_x1 f_x3 (iv_w (c := 0) (d := 4) f7 rfl) (mu_up f3 mq rfl)
set_option maxRecDepth 100000 in
set_option maxHeartbeats 4000000 in
theorem SX4_join_k50k49 {z : zT} (a1 : Int32) (a3 : Int32) (h : ph_H) (I : IC z h) (f_a1 : iv 0 44 a1) (f_a3 : iv 0 12 a3) : PX4_join_k50k49 a1 a3 h ∧ IC z (FX4_join_k50k49 a1 a3 h) := by
  unfold PX4_join_k50k49 FX4_join_k50k49
  exact SX4_join_k50k49_3 2000 a1 a3 0 h I f_a1 f_a3 (iv_w (c := 0) (d := 4) (iv_lit (lo := 0) (hi := 0) (x := 0) rfl) rfl) (mu_0u (iv_lit (lo := 0) (hi := 0) (x := 0) rfl) rfl)

-- X4_earlierOf
set_option maxRecDepth 100000 in
set_option maxHeartbeats 4000000 in
theorem SX4_earlierOf_30 {z : zT} : ∀ (q : Nat) (x2 : Int32) (x3 : Int32) (x4 : Int32) (h : ph_H), IC z h → iv 0 300 x2 → iv 1 300 x4 → 300 - (x4).toInt < ((q : Nat) : Int) → PX4_earlierOf_30  q x2 x3 x4 h ∧ iv 0 299 (FX4_earlierOf_30  q x2 x3 x4 h) := by
  intro q
  induction q with
  | zero =>
    intro x2 x3 x4 h I f_x2 f_x4 mq
    exact mu_zu f_x4 mq rfl
  | succ q ih =>
    intro x2 x3 x4 h I f_x2 f_x4 mq
    unfold PX4_earlierOf_30 FX4_earlierOf_30
    refine sf_if (fun c1 => ?_) (fun c1 => ?_)
    · exact ⟨trivial, (iv_w (c := 0) (d := 299) (iv_lit (lo := 0) (hi := 0) (x := 0) rfl) rfl)⟩
    · have f2 : iv 1 299 x4 := iv_ltl f_x4 f_x2 (nle c1) rfl
      have f3 : iv 2 300 x2 := iv_ltr f_x2 f_x4 (nle c1) rfl
      have s4 := SX4_isRace (z := z) x4 x2 h I (iv_w (c := 0) (d := 300) f2 rfl) (iv_w (c := 0) (d := 300) f3 rfl)
      refine sf_n s4.1 ?_
      refine sf_if (fun c5 => ?_) (fun c5 => ?_)
      · have f6 : iv 0 0 (FX4_isRace x4 x2 h) := iv_eql s4.2 (iv_lit (lo := 0) (hi := 0) (x := 0) rfl) c5 rfl
        unfold PX4_earlierOf_56 FX4_earlierOf_56
        have f7 : iv 2 300 (x4 + 1) := iv_add f2 (iv_lit (lo := 1) (hi := 1) (x := 1) rfl) rfl
        exact ih x2 x3 (x4 + 1) h I (iv_w (c := 0) (d := 300) f3 rfl) (iv_w (c := 1) (d := 300) f7 rfl) (mu_up f2 mq rfl)
      · have f8 : iv 1 1 (FX4_isRace x4 x2 h) := iv_nel s4.2 c5 rfl
        refine sf_if (fun c9 => ?_) (fun c9 => ?_)
        · have f10 : iv 0 0 x3 := iv_eql (iv_any x3) (iv_lit (lo := 0) (hi := 0) (x := 0) rfl) c9 rfl
          exact ⟨trivial, (iv_w (c := 0) (d := 299) f2 rfl)⟩
        · unfold PX4_earlierOf_56 FX4_earlierOf_56
          have f11 : iv 2 300 (x4 + 1) := iv_add f2 (iv_lit (lo := 1) (hi := 1) (x := 1) rfl) rfl
          exact ih x2 (x3 + (-1)) (x4 + 1) h I (iv_w (c := 0) (d := 300) f3 rfl) (iv_w (c := 1) (d := 300) f11 rfl) (mu_up f2 mq rfl)
set_option maxRecDepth 100000 in
set_option maxHeartbeats 4000000 in
theorem SX4_earlierOf_5 {z : zT} : ∀ (q : Nat) (x2 : Int32) (x3 : Int32) (x4 : Int32) (h : ph_H), IC z h → iv 0 300 x2 → iv 1 300 x4 → 300 - (x4).toInt < ((q : Nat) : Int) → PX4_earlierOf_5  q x2 x3 x4 h ∧ iv 0 299 (FX4_earlierOf_5  q x2 x3 x4 h) := by
  intro q
  induction q with
  | zero =>
    intro x2 x3 x4 h I f_x2 f_x4 mq
    exact mu_zu f_x4 mq rfl
  | succ q ih =>
    intro x2 x3 x4 h I f_x2 f_x4 mq
    unfold PX4_earlierOf_5 FX4_earlierOf_5
    refine sf_if (fun c1 => ?_) (fun c1 => ?_)
    · exact SX4_earlierOf_30 2000 x2 x3 1 h I f_x2 (iv_w (c := 1) (d := 300) (iv_lit (lo := 1) (hi := 1) (x := 1) rfl) rfl) (mu_0u (iv_lit (lo := 1) (hi := 1) (x := 1) rfl) rfl)
    · have f2 : iv 1 299 x4 := iv_ltl f_x4 f_x2 (nle c1) rfl
      have f3 : iv 2 300 x2 := iv_ltr f_x2 f_x4 (nle c1) rfl
      refine sf_n (iv_in f2 rfl) ?_
      have f4 : iv 2 300 (x4 + 1) := iv_add f2 (iv_lit (lo := 1) (hi := 1) (x := 1) rfl) rfl
      exact ih x2 (x3 - (h 51 (x4.toNatClampNeg))) (x4 + 1) h I (iv_w (c := 0) (d := 300) f3 rfl) (iv_w (c := 1) (d := 300) f4 rfl) (mu_up f2 mq rfl)
set_option maxRecDepth 100000 in
set_option maxHeartbeats 4000000 in
theorem SX4_earlierOf {z : zT} (a0 : Int32) (a1 : Int32) (h : ph_H) (I : IC z h) (f_a1 : iv 0 300 a1) : PX4_earlierOf a0 a1 h ∧ iv 0 299 (FX4_earlierOf a0 a1 h) := by
  unfold PX4_earlierOf FX4_earlierOf
  exact SX4_earlierOf_5 2000 a1 a0 1 h I f_a1 (iv_w (c := 1) (d := 300) (iv_lit (lo := 1) (hi := 1) (x := 1) rfl) rfl) (mu_0u (iv_lit (lo := 1) (hi := 1) (x := 1) rfl) rfl)

-- X4_laterOf
set_option maxRecDepth 100000 in
set_option maxHeartbeats 4000000 in
theorem SX4_laterOf_4 {z : zT} : ∀ (q : Nat) (x1 : Int32) (x2 : Int32) (x3 : Int32) (h : ph_H), IC z h → iv 1 301 x3 → 301 - (x3).toInt < ((q : Nat) : Int) → PX4_laterOf_4  q x1 x2 x3 h ∧ iv 0 300 (FX4_laterOf_4  q x1 x2 x3 h) := by
  intro q
  induction q with
  | zero =>
    intro x1 x2 x3 h I f_x3 mq
    exact mu_zu f_x3 mq rfl
  | succ q ih =>
    intro x1 x2 x3 h I f_x3 mq
    unfold PX4_laterOf_4 FX4_laterOf_4
    have f1 : iv 0 300 (h 35 11) := ICv I 35 _
    refine sf_if (fun c2 => ?_) (fun c2 => ?_)
    · exact ⟨trivial, (iv_w (c := 0) (d := 300) (iv_lit (lo := 0) (hi := 0) (x := 0) rfl) rfl)⟩
    · have f3 : iv 1 300 x3 := iv_lel f_x3 f1 (nlt c2) rfl
      have f4 : iv 1 300 (h 35 11) := iv_ler f1 f_x3 (nlt c2) rfl
      refine sf_n (iv_in f3 rfl) ?_
      refine sf_if (fun c5 => ?_) (fun c5 => ?_)
      · have f6 : iv 2 301 (x3 + 1) := iv_add f3 (iv_lit (lo := 1) (hi := 1) (x := 1) rfl) rfl
        exact ih x1 (x2 + (h 51 (x3.toNatClampNeg))) (x3 + 1) h I (iv_w (c := 1) (d := 301) f6 rfl) (mu_up f3 mq rfl)
      · have f7 : iv (-2147483648) 2147483646 x1 := iv_ltl (iv_any x1) (iv_any (x2 + (h 51 (x3.toNatClampNeg)))) (nle c5) rfl
        have f8 : iv (-2147483647) 2147483647 (x2 + (h 51 (x3.toNatClampNeg))) := iv_ltr (iv_any (x2 + (h 51 (x3.toNatClampNeg)))) (iv_any x1) (nle c5) rfl
        exact ⟨trivial, (iv_w (c := 0) (d := 300) f3 rfl)⟩
set_option maxRecDepth 100000 in
set_option maxHeartbeats 4000000 in
theorem SX4_laterOf {z : zT} (a0 : Int32) (h : ph_H) (I : IC z h) : PX4_laterOf a0 h ∧ iv 0 300 (FX4_laterOf a0 h) := by
  unfold PX4_laterOf FX4_laterOf
  exact SX4_laterOf_4 2000 a0 0 1 h I (iv_w (c := 1) (d := 301) (iv_lit (lo := 1) (hi := 1) (x := 1) rfl) rfl) (mu_0u (iv_lit (lo := 1) (hi := 1) (x := 1) rfl) rfl)

-- X3_hasEnded_oc2
set_option maxRecDepth 100000 in
set_option maxHeartbeats 4000000 in
theorem SX3_hasEnded_oc2 {z : zT} (a0 : Int32) (h : ph_H) (I : IC z h) (f_a0 : iv 0 3 a0) : PX3_hasEnded_oc2 a0 h ∧ Qc 0 1 (fun r => r = 0 → iv 0 23 (h 28 (a0.toNatClampNeg))) (FX3_hasEnded_oc2 a0 h) := by
  unfold PX3_hasEnded_oc2 FX3_hasEnded_oc2
  refine sf_n (iv_in f_a0 rfl) ?_
  have s1 := SX5_has_t (z := z) a0 (h 28 (a0.toNatClampNeg)) h I f_a0
  refine sf_n s1.1 ?_
  refine sf_if (fun c2 => ?_) (fun c2 => ?_)
  · have f3 : iv 0 0 (FX5_has_t a0 (h 28 (a0.toNatClampNeg)) h) := iv_eql s1.2.1 (iv_lit (lo := 0) (hi := 0) (x := 0) rfl) c2 rfl
    exact ⟨trivial, (iv_w (c := 0) (d := 1) (iv_lit (lo := 1) (hi := 1) (x := 1) rfl) rfl), fun z => absurd z (by decide)⟩
  · have f4 : iv 0 23 (h 28 (a0.toNatClampNeg)) := iv_and (iv_any _) (s1.2.2 c2) rfl
    have f5 : iv 1 1 (FX5_has_t a0 (h 28 (a0.toNatClampNeg)) h) := iv_nel s1.2.1 c2 rfl
    exact ⟨trivial, (iv_w (c := 0) (d := 1) (iv_lit (lo := 0) (hi := 0) (x := 0) rfl) rfl), fun _ => f4⟩

-- X3_lockIn_oc2
set_option maxRecDepth 100000 in
set_option maxHeartbeats 4000000 in
theorem SX3_lockIn_oc2 {z : zT} (a0 : Int32) (h : ph_H) (I : IC z h) (f_a0 : iv 0 27 a0) : PX3_lockIn_oc2 a0 h ∧ iv (-1) 11 (FX3_lockIn_oc2 a0 h) := by
  unfold PX3_lockIn_oc2 FX3_lockIn_oc2
  refine sf_n (iv_in f_a0 rfl) ?_
  have f1 : iv 0 3 (h 26 (a0.toNatClampNeg)) := ICv I 26 _
  refine sf_if (fun c2 => ?_) (fun c2 => ?_)
  · have f3 : iv 2 2 (h 26 (a0.toNatClampNeg)) := iv_eql f1 (iv_lit (lo := 2) (hi := 2) (x := 2) rfl) c2 rfl
    have f4 : iv 0 11 (h 27 (a0.toNatClampNeg)) := KVn_o I f3 rfl
    unfold PX3_lockIn_oc2_20 FX3_lockIn_oc2_20
    refine sf_n (iv_in f_a0 rfl) ?_
    exact ⟨trivial, (iv_w (c := (-1)) (d := 11) f4 rfl)⟩
  · refine sf_n (iv_in f_a0 rfl) ?_
    refine sf_if (fun c5 => ?_) (fun c5 => ?_)
    · have f6 : iv 3 3 (h 26 (a0.toNatClampNeg)) := iv_eql f1 (iv_lit (lo := 3) (hi := 3) (x := 3) rfl) c5 rfl
      have f7 : iv 0 11 (h 27 (a0.toNatClampNeg)) := KVn_o I f6 rfl
      unfold PX3_lockIn_oc2_20 FX3_lockIn_oc2_20
      refine sf_n (iv_in f_a0 rfl) ?_
      exact ⟨trivial, (iv_w (c := (-1)) (d := 11) f7 rfl)⟩
    · have f8 : iv 0 2 (h 26 (a0.toNatClampNeg)) := iv_nel f1 c5 rfl
      exact ⟨trivial, (iv_w (c := (-1)) (d := 11) (iv_lit (lo := (-1)) (hi := (-1)) (x := (-1)) rfl) rfl)⟩

-- X3_canGo_oc2
set_option maxRecDepth 100000 in
set_option maxHeartbeats 4000000 in
theorem SX3_canGo_oc2 {z : zT} (a0 : Int32) (h : ph_H) (I : IC z h) (f_a0 : iv 0 3 a0) : PX3_canGo_oc2 a0 h ∧ Qc 0 1 (fun r => ¬ r = 0 → iv 0 23 (h 28 (a0.toNatClampNeg))) (FX3_canGo_oc2 a0 h) := by
  unfold PX3_canGo_oc2 FX3_canGo_oc2
  refine sf_n (iv_in f_a0 rfl) ?_
  refine sf_if (fun c1 => ?_) (fun c1 => ?_)
  · have f2 : iv 0 0 (h 29 (a0.toNatClampNeg)) := iv_eql (iv_any (h 29 (a0.toNatClampNeg))) (iv_lit (lo := 0) (hi := 0) (x := 0) rfl) c1 rfl
    exact ⟨trivial, (iv_w (c := 0) (d := 1) (iv_lit (lo := 0) (hi := 0) (x := 0) rfl) rfl), fun z => absurd rfl z⟩
  · refine sf_n (iv_in f_a0 rfl) ?_
    refine sf_if (fun c3 => ?_) (fun c3 => ?_)
    · have f4 : iv 2 2 (h 29 (a0.toNatClampNeg)) := iv_eql (iv_any (h 29 (a0.toNatClampNeg))) (iv_lit (lo := 2) (hi := 2) (x := 2) rfl) c3 rfl
      exact ⟨trivial, (iv_w (c := 0) (d := 1) (iv_lit (lo := 0) (hi := 0) (x := 0) rfl) rfl), fun z => absurd rfl z⟩
    · have s5 := SX3_hasEnded_oc2 (z := z) a0 h I f_a0
      refine sf_n s5.1 ?_
      refine sf_if (fun c6 => ?_) (fun c6 => ?_)
      · have f7 : iv 0 23 (h 28 (a0.toNatClampNeg)) := iv_and (iv_any _) (s5.2.2 c6) rfl
        have f8 : iv 0 0 (FX3_hasEnded_oc2 a0 h) := iv_eql s5.2.1 (iv_lit (lo := 0) (hi := 0) (x := 0) rfl) c6 rfl
        refine sf_n (iv_in f_a0 rfl) ?_
        refine sf_if (fun c9 => ?_) (fun c9 => ?_)
        · have f10 : iv 3 3 (h 29 (a0.toNatClampNeg)) := iv_eql (iv_any (h 29 (a0.toNatClampNeg))) (iv_lit (lo := 3) (hi := 3) (x := 3) rfl) c9 rfl
          refine sf_n (iv_in f_a0 rfl) ?_
          have f11 : iv 0 11 (h 30 (a0.toNatClampNeg)) := ICv I 30 _
          refine sf_n (iv_in f11 rfl) ?_
          refine sf_if (fun c12 => ?_) (fun c12 => ?_)
          · have f13 : iv (-2) (-2) (h 33 ((h 30 (a0.toNatClampNeg)).toNatClampNeg)) := iv_eql (iv_any (h 33 ((h 30 (a0.toNatClampNeg)).toNatClampNeg))) (iv_lit (lo := (-2)) (hi := (-2)) (x := (-2)) rfl) c12 rfl
            exact ⟨trivial, (iv_w (c := 0) (d := 1) (iv_lit (lo := 1) (hi := 1) (x := 1) rfl) rfl), fun _ => f7⟩
          · exact ⟨trivial, (iv_w (c := 0) (d := 1) (iv_lit (lo := 0) (hi := 0) (x := 0) rfl) rfl), fun z => absurd rfl z⟩
        · refine sf_n (iv_in f_a0 rfl) ?_
          have s14 := SX5_firstPart_t (z := z) a0 (h 28 (a0.toNatClampNeg)) h I f_a0 f7
          refine sf_n s14.1 ?_
          refine sf_n (iv_in s14.2 rfl) ?_
          refine sf_if (fun c15 => ?_) (fun c15 => ?_)
          · have f16 : iv 12 12 (h 10 ((FX5_firstPart_t a0 (h 28 (a0.toNatClampNeg)) h).toNatClampNeg)) := iv_eql (iv_any (h 10 ((FX5_firstPart_t a0 (h 28 (a0.toNatClampNeg)) h).toNatClampNeg))) (iv_lit (lo := 12) (hi := 12) (x := 12) rfl) c15 rfl
            have f17 : iv 1 381 ((FX5_firstPart_t a0 (h 28 (a0.toNatClampNeg)) h) + 1) := iv_add s14.2 (iv_lit (lo := 1) (hi := 1) (x := 1) rfl) rfl
            refine sf_n (iv_in f17 rfl) ?_
            have s18 := SX3_slotOf a0 (h 10 (((FX5_firstPart_t a0 (h 28 (a0.toNatClampNeg)) h) + 1).toNatClampNeg)) f_a0
            refine sf_n s18.1 ?_
            have s19 := SX3_lockIn_oc2 (z := z) (FX3_slotOf a0 (h 10 (((FX5_firstPart_t a0 (h 28 (a0.toNatClampNeg)) h) + 1).toNatClampNeg))) h I (iv_w (c := 0) (d := 27) s18.2 rfl)
            refine sf_n s19.1 ?_
            refine sf_if (fun c20 => ?_) (fun c20 => ?_)
            · have f21 : iv (-1) (-1) (FX3_lockIn_oc2 (FX3_slotOf a0 (h 10 (((FX5_firstPart_t a0 (h 28 (a0.toNatClampNeg)) h) + 1).toNatClampNeg))) h) := iv_ltl s19.2 (iv_lit (lo := 0) (hi := 0) (x := 0) rfl) c20 rfl
              unfold PX3_canGo_oc2_137 FX3_canGo_oc2_137
              exact ⟨trivial, (iv_w (c := 0) (d := 1) (iv_lit (lo := 1) (hi := 1) (x := 1) rfl) rfl), fun _ => f7⟩
            · have f22 : iv 0 11 (FX3_lockIn_oc2 (FX3_slotOf a0 (h 10 (((FX5_firstPart_t a0 (h 28 (a0.toNatClampNeg)) h) + 1).toNatClampNeg))) h) := iv_ler s19.2 (iv_lit (lo := 0) (hi := 0) (x := 0) rfl) (nlt c20) rfl
              refine sf_n (iv_in f22 rfl) ?_
              refine sf_if (fun c23 => ?_) (fun c23 => ?_)
              · have f24 : iv (-2) (-2) (h 33 ((FX3_lockIn_oc2 (FX3_slotOf a0 (h 10 (((FX5_firstPart_t a0 (h 28 (a0.toNatClampNeg)) h) + 1).toNatClampNeg))) h).toNatClampNeg)) := iv_eql (iv_any (h 33 ((FX3_lockIn_oc2 (FX3_slotOf a0 (h 10 (((FX5_firstPart_t a0 (h 28 (a0.toNatClampNeg)) h) + 1).toNatClampNeg))) h).toNatClampNeg))) (iv_lit (lo := (-2)) (hi := (-2)) (x := (-2)) rfl) c23 rfl
                unfold PX3_canGo_oc2_137 FX3_canGo_oc2_137
                exact ⟨trivial, (iv_w (c := 0) (d := 1) (iv_lit (lo := 1) (hi := 1) (x := 1) rfl) rfl), fun _ => f7⟩
              · refine sf_n (iv_in f22 rfl) ?_
                refine sf_if (fun c25 => ?_) (fun c25 => ?_)
                · have f26 : iv 0 3 (h 33 ((FX3_lockIn_oc2 (FX3_slotOf a0 (h 10 (((FX5_firstPart_t a0 (h 28 (a0.toNatClampNeg)) h) + 1).toNatClampNeg))) h).toNatClampNeg)) := iv_eql (iv_any (h 33 ((FX3_lockIn_oc2 (FX3_slotOf a0 (h 10 (((FX5_firstPart_t a0 (h 28 (a0.toNatClampNeg)) h) + 1).toNatClampNeg))) h).toNatClampNeg))) f_a0 c25 rfl
                  unfold PX3_canGo_oc2_137 FX3_canGo_oc2_137
                  exact ⟨trivial, (iv_w (c := 0) (d := 1) (iv_lit (lo := 1) (hi := 1) (x := 1) rfl) rfl), fun _ => f7⟩
                · exact ⟨trivial, (iv_w (c := 0) (d := 1) (iv_lit (lo := 0) (hi := 0) (x := 0) rfl) rfl), fun z => absurd rfl z⟩
          · exact ⟨trivial, (iv_w (c := 0) (d := 1) (iv_lit (lo := 1) (hi := 1) (x := 1) rfl) rfl), fun _ => f7⟩
      · have f27 : iv 1 1 (FX3_hasEnded_oc2 a0 h) := iv_nel s5.2.1 c6 rfl
        exact ⟨trivial, (iv_w (c := 0) (d := 1) (iv_lit (lo := 0) (hi := 0) (x := 0) rfl) rfl), fun z => absurd rfl z⟩

-- X3_hold_oc2
set_option maxRecDepth 100000 in
set_option maxHeartbeats 4000000 in
theorem SX3_hold_oc2 {z : zT} (a0 : Int32) (a1 : Int32) (a2 : Int32) (h : ph_H) (I : IC z h) (f_a0 : iv 0 27 a0) (f_a1 : iv 0 3 a1) (q : a1 = 0 ∨ iv 0 11 a2) : PX3_hold_oc2 a0 a1 a2 h ∧ QC z 0 0 (FX3_hold_oc2 a0 a1 a2 h) := by
  unfold PX3_hold_oc2 FX3_hold_oc2
  refine sf_n (iv_in f_a0 rfl) ?_
  refine sf_n (iv_in f_a0 rfl) ?_
  have I2 : IC z (hs (hs h 26 a0.toNatClampNeg a1) 27 a0.toNatClampNeg a2) := ICkv_o I a0.toNatClampNeg f_a1 q
  exact ⟨trivial, QC_mk (iv_lit (lo := 0) (hi := 0) (x := 0) rfl) I2⟩

-- X3_getCell_oc2
set_option maxRecDepth 100000 in
set_option maxHeartbeats 4000000 in
theorem SX3_getCell_oc2 {z : zT} (a0 : Int32) (a1 : Int32) (h : ph_H) (I : IC z h) (f_a0 : iv 0 27 a0) (f_a1 : iv 0 11 a1) : PX3_getCell_oc2 a0 a1 h ∧ QC z 0 0 (FX3_getCell_oc2 a0 a1 h) := by
  unfold PX3_getCell_oc2 FX3_getCell_oc2
  have I1 : IC z (hs h 25 14 a1) := ICs I (k := 25) (i := 14) (v := a1) (iv_any a1) rfl
  refine sf_n (iv_in f_a1 rfl) ?_
  have f2 : iv 0 3 (h 26 (a1.toNatClampNeg)) := ICv I 26 _
  refine sf_n (iv_in f_a1 rfl) ?_
  have s3 := SX3_hold_oc2 (z := z) a0 (h 26 (a1.toNatClampNeg)) (h 27 (a1.toNatClampNeg)) (hs h 25 14 a1) I1 f_a0 f2 (I.2.1.2.1 _)
  refine sf_n s3.1 ?_
  exact ⟨trivial, QC_mk s3.2.1 s3.2.2⟩

-- X3_goTo_oc2
set_option maxRecDepth 100000 in
set_option maxHeartbeats 4000000 in
theorem SX3_goTo_oc2 {z : zT} (a0 : Int32) (h : ph_H) (I : IC z h) : PX3_goTo_oc2 a0 h ∧ QC z 0 0 (FX3_goTo_oc2 a0 h) := by
  unfold PX3_goTo_oc2 FX3_goTo_oc2
  have I1 : IC z (hs h 25 13 a0) := ICs I (k := 25) (i := 13) (v := a0) (iv_any a0) rfl
  exact ⟨trivial, QC_mk (iv_lit (lo := 0) (hi := 0) (x := 0) rfl) I1⟩

-- X3_goUnless_oc2
set_option maxRecDepth 100000 in
set_option maxHeartbeats 4000000 in
theorem SX3_goUnless_oc2 {z : zT} (a0 : Int32) (a1 : Int32) (h : ph_H) (I : IC z h) (f_a0 : iv 0 27 a0) : PX3_goUnless_oc2 a0 a1 h ∧ QC z 0 1 (FX3_goUnless_oc2 a0 a1 h) := by
  unfold PX3_goUnless_oc2 FX3_goUnless_oc2
  refine sf_n (iv_in f_a0 rfl) ?_
  have f1 : iv 0 3 (h 26 (a0.toNatClampNeg)) := ICv I 26 _
  refine sf_if (fun c2 => ?_) (fun c2 => ?_)
  · have f3 : iv 0 0 (h 26 (a0.toNatClampNeg)) := iv_eql f1 (iv_lit (lo := 0) (hi := 0) (x := 0) rfl) c2 rfl
    refine sf_n (iv_in f_a0 rfl) ?_
    refine sf_if (fun c4 => ?_) (fun c4 => ?_)
    · have f5 : iv 0 0 (h 27 (a0.toNatClampNeg)) := iv_eql (iv_any (h 27 (a0.toNatClampNeg))) (iv_lit (lo := 0) (hi := 0) (x := 0) rfl) c4 rfl
      have s6 := SX3_goTo_oc2 (z := z) a1 h I
      refine sf_n s6.1 ?_
      unfold PX3_goUnless_oc2_25 FX3_goUnless_oc2_25
      exact ⟨trivial, QC_mk (iv_w (c := 0) (d := 1) s6.2.1 rfl) s6.2.2⟩
    · exact ⟨trivial, QC_mk (iv_w (c := 0) (d := 1) (iv_lit (lo := 0) (hi := 0) (x := 0) rfl) rfl) I⟩
  · have f7 : iv 1 3 (h 26 (a0.toNatClampNeg)) := iv_nel f1 c2 rfl
    have f8 : iv 0 11 (h 27 (a0.toNatClampNeg)) := KVn_o I f7 rfl
    exact ⟨trivial, QC_mk (iv_w (c := 0) (d := 1) (iv_lit (lo := 1) (hi := 1) (x := 1) rfl) rfl) I⟩

-- X3_free_oc2
set_option maxRecDepth 100000 in
set_option maxHeartbeats 4000000 in
theorem SX3_free_oc2 {z : zT} (a0 : Int32) (h : ph_H) (I : IC z h) (f_a0 : iv 0 11 a0) : PX3_free_oc2 a0 h ∧ QC z 0 0 (FX3_free_oc2 a0 h) := by
  unfold PX3_free_oc2 FX3_free_oc2
  refine sf_n (iv_in f_a0 rfl) ?_
  have I1 : IC z (hs h 33 a0.toNatClampNeg (-2)) := ICs I (k := 33) (i := a0.toNatClampNeg) (v := (-2)) (iv_any (-2)) rfl
  have I2 : IC z (hs (hs h 33 a0.toNatClampNeg (-2)) 25 16 2) := ICs I1 (k := 25) (i := 16) (v := 2) (iv_w (c := 0) (d := 4) (iv_lit (lo := 2) (hi := 2) (x := 2) rfl) rfl) rfl
  have I3 : IC z (hs (hs (hs h 33 a0.toNatClampNeg (-2)) 25 16 2) 25 17 a0) := ICs I2 (k := 25) (i := 17) (v := a0) f_a0 rfl
  exact ⟨trivial, QC_mk (iv_lit (lo := 0) (hi := 0) (x := 0) rfl) I3⟩

-- X3_leaveLock_oc2
set_option maxRecDepth 100000 in
set_option maxHeartbeats 4000000 in
theorem SX3_leaveLock_oc2 {z : zT} (a0 : Int32) (a1 : Int32) (h : ph_H) (I : IC z h) (f_a1 : iv 0 27 a1) : PX3_leaveLock_oc2 a0 a1 h ∧ QC z 0 6 (FX3_leaveLock_oc2 a0 a1 h) := by
  unfold PX3_leaveLock_oc2 FX3_leaveLock_oc2
  have s1 := SX3_lockIn_oc2 (z := z) a1 h I f_a1
  refine sf_n s1.1 ?_
  refine sf_if (fun c2 => ?_) (fun c2 => ?_)
  · have f3 : iv 0 11 (FX3_lockIn_oc2 a1 h) := iv_ler s1.2 (iv_lit (lo := 0) (hi := 0) (x := 0) rfl) c2 rfl
    refine sf_n (iv_in f3 rfl) ?_
    refine sf_if (fun c4 => ?_) (fun c4 => ?_)
    · have s5 := SX3_free_oc2 (z := z) (FX3_lockIn_oc2 a1 h) h I f3
      refine sf_n s5.1 ?_
      exact ⟨trivial, QC_mk (iv_w (c := 0) (d := 6) s5.2.1 rfl) s5.2.2⟩
    · exact ⟨trivial, QC_mk (iv_w (c := 0) (d := 6) (iv_lit (lo := 6) (hi := 6) (x := 6) rfl) rfl) I⟩
  · have f6 : iv (-1) (-1) (FX3_lockIn_oc2 a1 h) := iv_ltl s1.2 (iv_lit (lo := 0) (hi := 0) (x := 0) rfl) (nle c2) rfl
    exact ⟨trivial, QC_mk (iv_w (c := 0) (d := 6) (iv_lit (lo := 1) (hi := 1) (x := 1) rfl) rfl) I⟩

-- X3_gateIn_oc2
set_option maxRecDepth 100000 in
set_option maxHeartbeats 4000000 in
theorem SX3_gateIn_oc2 {z : zT} (a0 : Int32) (h : ph_H) (I : IC z h) (f_a0 : iv 0 27 a0) : PX3_gateIn_oc2 a0 h ∧ iv (-1) 11 (FX3_gateIn_oc2 a0 h) := by
  unfold PX3_gateIn_oc2 FX3_gateIn_oc2
  refine sf_n (iv_in f_a0 rfl) ?_
  have f1 : iv 0 3 (h 26 (a0.toNatClampNeg)) := ICv I 26 _
  refine sf_if (fun c2 => ?_) (fun c2 => ?_)
  · have f3 : iv 3 3 (h 26 (a0.toNatClampNeg)) := iv_eql f1 (iv_lit (lo := 3) (hi := 3) (x := 3) rfl) c2 rfl
    have f4 : iv 0 11 (h 27 (a0.toNatClampNeg)) := KVn_o I f3 rfl
    refine sf_n (iv_in f_a0 rfl) ?_
    exact ⟨trivial, (iv_w (c := (-1)) (d := 11) f4 rfl)⟩
  · have f5 : iv 0 2 (h 26 (a0.toNatClampNeg)) := iv_nel f1 c2 rfl
    exact ⟨trivial, (iv_w (c := (-1)) (d := 11) (iv_lit (lo := (-1)) (hi := (-1)) (x := (-1)) rfl) rfl)⟩

-- X3_lieDown_oc2
set_option maxRecDepth 100000 in
set_option maxHeartbeats 4000000 in
theorem SX3_lieDown_oc2 {z : zT} (a0 : Int32) (a1 : Int32) (h : ph_H) (I : IC z h) (f_a0 : iv 0 3 a0) (f_a1 : iv 0 27 a1) : PX3_lieDown_oc2 a0 a1 h ∧ QC z 0 6 (FX3_lieDown_oc2 a0 a1 h) := by
  unfold PX3_lieDown_oc2 FX3_lieDown_oc2
  have s1 := SX3_gateIn_oc2 (z := z) a1 h I f_a1
  refine sf_n s1.1 ?_
  refine sf_if (fun c2 => ?_) (fun c2 => ?_)
  · have f3 : iv 0 11 (FX3_gateIn_oc2 a1 h) := iv_ler s1.2 (iv_lit (lo := 0) (hi := 0) (x := 0) rfl) c2 rfl
    refine sf_n (iv_in f3 rfl) ?_
    refine sf_if (fun c4 => ?_) (fun c4 => ?_)
    · have f5 : iv 0 3 (h 33 ((FX3_gateIn_oc2 a1 h).toNatClampNeg)) := iv_eql (iv_any (h 33 ((FX3_gateIn_oc2 a1 h).toNatClampNeg))) f_a0 c4 rfl
      refine sf_n (iv_in f_a0 rfl) ?_
      have I6 : IC z (hs h 29 a0.toNatClampNeg 2) := ICs I (k := 29) (i := a0.toNatClampNeg) (v := 2) (iv_any 2) rfl
      refine sf_n (iv_in f_a0 rfl) ?_
      have I7 : IC z (hs (hs h 29 a0.toNatClampNeg 2) 30 a0.toNatClampNeg (FX3_gateIn_oc2 a1 h)) := ICs I6 (k := 30) (i := a0.toNatClampNeg) (v := (FX3_gateIn_oc2 a1 h)) f3 rfl
      refine sf_n (iv_in f_a0 rfl) ?_
      have I8 : IC z (hs (hs (hs h 29 a0.toNatClampNeg 2) 30 a0.toNatClampNeg (FX3_gateIn_oc2 a1 h)) 25 13 (h 28 (a0.toNatClampNeg))) := ICs I7 (k := 25) (i := 13) (v := (h 28 (a0.toNatClampNeg))) (iv_any (h 28 (a0.toNatClampNeg))) rfl
      have s9 := SX3_free_oc2 (z := z) (FX3_gateIn_oc2 a1 h) (hs (hs (hs h 29 a0.toNatClampNeg 2) 30 a0.toNatClampNeg (FX3_gateIn_oc2 a1 h)) 25 13 (h 28 (a0.toNatClampNeg))) I8 f3
      refine sf_n s9.1 ?_
      exact ⟨trivial, QC_mk (iv_w (c := 0) (d := 6) s9.2.1 rfl) s9.2.2⟩
    · exact ⟨trivial, QC_mk (iv_w (c := 0) (d := 6) (iv_lit (lo := 6) (hi := 6) (x := 6) rfl) rfl) I⟩
  · have f10 : iv (-1) (-1) (FX3_gateIn_oc2 a1 h) := iv_ltl s1.2 (iv_lit (lo := 0) (hi := 0) (x := 0) rfl) (nle c2) rfl
    exact ⟨trivial, QC_mk (iv_w (c := 0) (d := 6) (iv_lit (lo := 1) (hi := 1) (x := 1) rfl) rfl) I⟩

-- X3_makeThing_oc2
set_option maxRecDepth 100000 in
set_option maxHeartbeats 4000000 in
theorem SX3_makeThing_oc2 {z : zT} (a0 : Int32) (a1 : Int32) (a2 : Int32) (h : ph_H) (I : IC z h) (f_a0 : iv 0 27 a0) (f_a1 : iv 0 3 a1) (f_a2 : iv 0 16 a2) (g_25_10 : iv 0 11 (h 25 10)) : PX3_makeThing_oc2 a0 a1 a2 h ∧ QC z 0 0 (FX3_makeThing_oc2 a0 a1 a2 h) := by
  unfold PX3_makeThing_oc2 FX3_makeThing_oc2
  have f1 : iv 1 12 ((h 25 10) + 1) := iv_add g_25_10 (iv_lit (lo := 1) (hi := 1) (x := 1) rfl) rfl
  have I2 : IC z (hs h 25 10 ((h 25 10) + 1)) := ICs I (k := 25) (i := 10) (v := ((h 25 10) + 1)) (iv_w (c := 0) (d := 12) f1 rfl) rfl
  refine sf_n (iv_in g_25_10 rfl) ?_
  have I3 : IC z (hs (hs h 25 10 ((h 25 10) + 1)) 31 (h 25 10).toNatClampNeg a1) := ICs I2 (k := 31) (i := (h 25 10).toNatClampNeg) (v := a1) (iv_any a1) rfl
  refine sf_n (iv_in g_25_10 rfl) ?_
  have I4 : IC z (hs (hs (hs h 25 10 ((h 25 10) + 1)) 31 (h 25 10).toNatClampNeg a1) 32 (h 25 10).toNatClampNeg a2) := ICs I3 (k := 32) (i := (h 25 10).toNatClampNeg) (v := a2) f_a2 rfl
  refine sf_n (iv_in g_25_10 rfl) ?_
  have I5 : IC z (hs (hs (hs (hs h 25 10 ((h 25 10) + 1)) 31 (h 25 10).toNatClampNeg a1) 32 (h 25 10).toNatClampNeg a2) 33 (h 25 10).toNatClampNeg (-2)) := ICs I4 (k := 33) (i := (h 25 10).toNatClampNeg) (v := (-2)) (iv_any (-2)) rfl
  refine sf_n (iv_in f_a0 rfl) ?_
  refine sf_n (iv_in f_a0 rfl) ?_
  have I7 : IC z (hs (hs (hs (hs (hs (hs h 25 10 ((h 25 10) + 1)) 31 (h 25 10).toNatClampNeg a1) 32 (h 25 10).toNatClampNeg a2) 33 (h 25 10).toNatClampNeg (-2)) 26 a0.toNatClampNeg a1) 27 a0.toNatClampNeg (h 25 10)) := ICkv_o I5 a0.toNatClampNeg f_a1 (Or.inr g_25_10)
  exact ⟨trivial, QC_mk (iv_lit (lo := 0) (hi := 0) (x := 0) rfl) I7⟩

-- X3_makeLock_oc2
set_option maxRecDepth 100000 in
set_option maxHeartbeats 4000000 in
theorem SX3_makeLock_oc2 {z : zT} (a0 : Int32) (a1 : Int32) (h : ph_H) (I : IC z h) (f_a0 : iv 0 27 a0) (f_a1 : iv 0 1 a1) : PX3_makeLock_oc2 a0 a1 h ∧ QC z 0 3 (FX3_makeLock_oc2 a0 a1 h) := by
  unfold PX3_makeLock_oc2 FX3_makeLock_oc2
  have f1 : iv 0 12 (h 25 10) := ICv I 25 _
  refine sf_if (fun c2 => ?_) (fun c2 => ?_)
  · have f3 : iv 0 11 (h 25 10) := iv_ltl f1 (iv_lit (lo := 12) (hi := 12) (x := 12) rfl) c2 rfl
    refine sf_if (fun c4 => ?_) (fun c4 => ?_)
    · have f5 : iv 0 0 a1 := iv_eql f_a1 (iv_lit (lo := 0) (hi := 0) (x := 0) rfl) c4 rfl
      unfold PX3_makeLock_oc2_22 FX3_makeLock_oc2_22
      have s6 := SX3_makeThing_oc2 (z := z) a0 2 0 h I f_a0 (iv_w (c := 0) (d := 3) (iv_lit (lo := 2) (hi := 2) (x := 2) rfl) rfl) (iv_w (c := 0) (d := 16) (iv_lit (lo := 0) (hi := 0) (x := 0) rfl) rfl) f3
      refine sf_n s6.1 ?_
      exact ⟨trivial, QC_mk (iv_w (c := 0) (d := 3) s6.2.1 rfl) s6.2.2⟩
    · have f7 : iv 1 1 a1 := iv_nel f_a1 c4 rfl
      unfold PX3_makeLock_oc2_22 FX3_makeLock_oc2_22
      have s8 := SX3_makeThing_oc2 (z := z) a0 3 0 h I f_a0 (iv_w (c := 0) (d := 3) (iv_lit (lo := 3) (hi := 3) (x := 3) rfl) rfl) (iv_w (c := 0) (d := 16) (iv_lit (lo := 0) (hi := 0) (x := 0) rfl) rfl) f3
      refine sf_n s8.1 ?_
      exact ⟨trivial, QC_mk (iv_w (c := 0) (d := 3) s8.2.1 rfl) s8.2.2⟩
  · have f9 : iv 12 12 (h 25 10) := iv_ler f1 (iv_lit (lo := 12) (hi := 12) (x := 12) rfl) (nlt c2) rfl
    exact ⟨trivial, QC_mk (iv_w (c := 0) (d := 3) (iv_lit (lo := 3) (hi := 3) (x := 3) rfl) rfl) I⟩

-- X3_makeRow_oc2
set_option maxRecDepth 100000 in
set_option maxHeartbeats 4000000 in
theorem SX3_makeRow_oc2_44 {z : zT} : ∀ (q : Nat) (x1 : Int32) (x3 : Int32) (x4 : Int32) (h : ph_H), IC z h → iv 0 27 x1 → iv 0 16 x3 → iv 0 16 x4 → iv 0 11 (h 25 10) → 16 - (x4).toInt < ((q : Nat) : Int) → PX3_makeRow_oc2_44  q x1 x3 x4 h ∧ QC z 0 3 (FX3_makeRow_oc2_44  q x1 x3 x4 h) := by
  intro q
  induction q with
  | zero =>
    intro x1 x3 x4 h I f_x1 f_x3 f_x4 g_25_10 mq
    exact mu_zu f_x4 mq rfl
  | succ q ih =>
    intro x1 x3 x4 h I f_x1 f_x3 f_x4 g_25_10 mq
    unfold PX3_makeRow_oc2_44 FX3_makeRow_oc2_44
    refine sf_if (fun c1 => ?_) (fun c1 => ?_)
    · have s2 := SX3_makeThing_oc2 (z := z) x1 1 x3 h I f_x1 (iv_w (c := 0) (d := 3) (iv_lit (lo := 1) (hi := 1) (x := 1) rfl) rfl) f_x3 g_25_10
      refine sf_n s2.1 ?_
      exact ⟨trivial, QC_mk (iv_w (c := 0) (d := 3) s2.2.1 rfl) s2.2.2⟩
    · have f3 : iv 0 15 x4 := iv_ltl f_x4 f_x3 (nle c1) rfl
      have f4 : iv 1 16 x3 := iv_ltr f_x3 f_x4 (nle c1) rfl
      have f5 : iv 0 176 ((h 25 10) * 16) := iv_mulr (c := 16) rfl g_25_10 rfl
      have f6 : iv 0 191 (((h 25 10) * 16) + x4) := iv_add f5 f3 rfl
      refine sf_n (iv_in f6 rfl) ?_
      have I7 : IC z (hs h 34 (((h 25 10) * 16) + x4).toNatClampNeg 0) := ICs I (k := 34) (i := (((h 25 10) * 16) + x4).toNatClampNeg) (v := 0) (iv_any 0) rfl
      have f8 : iv 1 16 (x4 + 1) := iv_add f3 (iv_lit (lo := 1) (hi := 1) (x := 1) rfl) rfl
      exact ih x1 x3 (x4 + 1) (hs h 34 (((h 25 10) * 16) + x4).toNatClampNeg 0) I7 f_x1 (iv_w (c := 0) (d := 16) f4 rfl) (iv_w (c := 0) (d := 16) f8 rfl) (iv_r (hz_k (by decide)) g_25_10) (mu_up f3 mq rfl)
set_option maxRecDepth 100000 in
set_option maxHeartbeats 4000000 in
theorem SX3_makeRow_oc2 {z : zT} (a0 : Int32) (a1 : Int32) (h : ph_H) (I : IC z h) (f_a0 : iv 0 27 a0) (f_a1 : iv 0 27 a1) : PX3_makeRow_oc2 a0 a1 h ∧ QC z 0 3 (FX3_makeRow_oc2 a0 a1 h) := by
  unfold PX3_makeRow_oc2 FX3_makeRow_oc2
  refine sf_n (iv_in f_a1 rfl) ?_
  have f1 : iv 0 3 (h 26 (a1.toNatClampNeg)) := ICv I 26 _
  refine sf_if (fun c2 => ?_) (fun c2 => ?_)
  · have f3 : iv 0 0 (h 26 (a1.toNatClampNeg)) := iv_eql f1 (iv_lit (lo := 0) (hi := 0) (x := 0) rfl) c2 rfl
    refine sf_n (iv_in f_a1 rfl) ?_
    refine sf_if (fun c4 => ?_) (fun c4 => ?_)
    · have f5 : iv 0 2147483647 (h 27 (a1.toNatClampNeg)) := iv_ler (iv_any (h 27 (a1.toNatClampNeg))) (iv_lit (lo := 0) (hi := 0) (x := 0) rfl) c4 rfl
      refine sf_if (fun c6 => ?_) (fun c6 => ?_)
      · have f7 : iv 17 2147483647 (h 27 (a1.toNatClampNeg)) := iv_ltr f5 (iv_lit (lo := 16) (hi := 16) (x := 16) rfl) c6 rfl
        exact ⟨trivial, QC_mk (iv_w (c := 0) (d := 3) (iv_lit (lo := 3) (hi := 3) (x := 3) rfl) rfl) I⟩
      · have f8 : iv 0 16 (h 27 (a1.toNatClampNeg)) := iv_lel f5 (iv_lit (lo := 16) (hi := 16) (x := 16) rfl) (nlt c6) rfl
        have f9 : iv 0 12 (h 25 10) := ICv I 25 _
        refine sf_if (fun c10 => ?_) (fun c10 => ?_)
        · have f11 : iv 0 11 (h 25 10) := iv_ltl f9 (iv_lit (lo := 12) (hi := 12) (x := 12) rfl) c10 rfl
          exact SX3_makeRow_oc2_44 2000 a0 (h 27 (a1.toNatClampNeg)) 0 h I f_a0 f8 (iv_w (c := 0) (d := 16) (iv_lit (lo := 0) (hi := 0) (x := 0) rfl) rfl) f11 (mu_0u (iv_lit (lo := 0) (hi := 0) (x := 0) rfl) rfl)
        · have f12 : iv 12 12 (h 25 10) := iv_ler f9 (iv_lit (lo := 12) (hi := 12) (x := 12) rfl) (nlt c10) rfl
          exact ⟨trivial, QC_mk (iv_w (c := 0) (d := 3) (iv_lit (lo := 3) (hi := 3) (x := 3) rfl) rfl) I⟩
    · have f13 : iv (-2147483648) (-1) (h 27 (a1.toNatClampNeg)) := iv_ltl (iv_any (h 27 (a1.toNatClampNeg))) (iv_lit (lo := 0) (hi := 0) (x := 0) rfl) (nle c4) rfl
      exact ⟨trivial, QC_mk (iv_w (c := 0) (d := 3) (iv_lit (lo := 2) (hi := 2) (x := 2) rfl) rfl) I⟩
  · have f14 : iv 1 3 (h 26 (a1.toNatClampNeg)) := iv_nel f1 c2 rfl
    have f15 : iv 0 11 (h 27 (a1.toNatClampNeg)) := KVn_o I f14 rfl
    exact ⟨trivial, QC_mk (iv_w (c := 0) (d := 3) (iv_lit (lo := 1) (hi := 1) (x := 1) rfl) rfl) I⟩

-- X3_putCell_oc2
set_option maxRecDepth 100000 in
set_option maxHeartbeats 4000000 in
theorem SX3_putCell_oc2 {z : zT} (a0 : Int32) (a1 : Int32) (h : ph_H) (I : IC z h) (f_a0 : iv 0 11 a0) (f_a1 : iv 0 27 a1) : PX3_putCell_oc2 a0 a1 h ∧ QC z 0 0 (FX3_putCell_oc2 a0 a1 h) := by
  unfold PX3_putCell_oc2 FX3_putCell_oc2
  have I1 : IC z (hs h 25 15 a0) := ICs I (k := 25) (i := 15) (v := a0) (iv_any a0) rfl
  refine sf_n (iv_in f_a1 rfl) ?_
  have f2 : iv 0 3 (h 26 (a1.toNatClampNeg)) := ICv I 26 _
  refine sf_n (iv_in f_a1 rfl) ?_
  have s3 := SX3_hold_oc2 (z := z) a0 (h 26 (a1.toNatClampNeg)) (h 27 (a1.toNatClampNeg)) (hs h 25 15 a0) I1 (iv_w (c := 0) (d := 27) f_a0 rfl) f2 (I.2.1.2.1 _)
  refine sf_n s3.1 ?_
  exact ⟨trivial, QC_mk s3.2.1 s3.2.2⟩

-- X3_hasRowPlace_oc2
set_option maxRecDepth 100000 in
set_option maxHeartbeats 4000000 in
theorem SX3_hasRowPlace_oc2 {z : zT} (a0 : Int32) (a1 : Int32) (h : ph_H) (I : IC z h) : PX3_hasRowPlace_oc2 a0 a1 h ∧ Qc 0 1 (fun r => ¬ r = 0 → iv 0 11 a0 ∧ iv 0 15 a1) (FX3_hasRowPlace_oc2 a0 a1 h) := by
  unfold PX3_hasRowPlace_oc2 FX3_hasRowPlace_oc2
  refine sf_if (fun c1 => ?_) (fun c1 => ?_)
  · have f2 : iv (-2147483648) (-1) a0 := iv_ltl (iv_any a0) (iv_lit (lo := 0) (hi := 0) (x := 0) rfl) c1 rfl
    exact ⟨trivial, (iv_w (c := 0) (d := 1) (iv_lit (lo := 0) (hi := 0) (x := 0) rfl) rfl), fun z => absurd rfl z⟩
  · have f3 : iv 0 2147483647 a0 := iv_ler (iv_any a0) (iv_lit (lo := 0) (hi := 0) (x := 0) rfl) (nlt c1) rfl
    have f4 : iv 0 12 (h 25 10) := ICv I 25 _
    refine sf_if (fun c5 => ?_) (fun c5 => ?_)
    · exact ⟨trivial, (iv_w (c := 0) (d := 1) (iv_lit (lo := 0) (hi := 0) (x := 0) rfl) rfl), fun z => absurd rfl z⟩
    · have f6 : iv 0 11 a0 := iv_ltl f3 f4 (nle c5) rfl
      have f7 : iv 1 12 (h 25 10) := iv_ltr f4 f3 (nle c5) rfl
      refine sf_n (iv_in f6 rfl) ?_
      refine sf_if (fun c8 => ?_) (fun c8 => ?_)
      · have f9 : iv 1 1 (h 31 (a0.toNatClampNeg)) := iv_eql (iv_any (h 31 (a0.toNatClampNeg))) (iv_lit (lo := 1) (hi := 1) (x := 1) rfl) c8 rfl
        refine sf_if (fun c10 => ?_) (fun c10 => ?_)
        · have f11 : iv (-2147483648) (-1) a1 := iv_ltl (iv_any a1) (iv_lit (lo := 0) (hi := 0) (x := 0) rfl) c10 rfl
          exact ⟨trivial, (iv_w (c := 0) (d := 1) (iv_lit (lo := 0) (hi := 0) (x := 0) rfl) rfl), fun z => absurd rfl z⟩
        · have f12 : iv 0 2147483647 a1 := iv_ler (iv_any a1) (iv_lit (lo := 0) (hi := 0) (x := 0) rfl) (nlt c10) rfl
          refine sf_n (iv_in f6 rfl) ?_
          have f13 : iv 0 16 (h 32 (a0.toNatClampNeg)) := ICv I 32 _
          refine sf_if (fun c14 => ?_) (fun c14 => ?_)
          · exact ⟨trivial, (iv_w (c := 0) (d := 1) (iv_lit (lo := 0) (hi := 0) (x := 0) rfl) rfl), fun z => absurd rfl z⟩
          · have f15 : iv 0 15 a1 := iv_ltl f12 f13 (nle c14) rfl
            have f16 : iv 1 16 (h 32 (a0.toNatClampNeg)) := iv_ltr f13 f12 (nle c14) rfl
            exact ⟨trivial, (iv_w (c := 0) (d := 1) (iv_lit (lo := 1) (hi := 1) (x := 1) rfl) rfl), fun _ => ⟨f6, f15⟩⟩
      · exact ⟨trivial, (iv_w (c := 0) (d := 1) (iv_lit (lo := 0) (hi := 0) (x := 0) rfl) rfl), fun z => absurd rfl z⟩
