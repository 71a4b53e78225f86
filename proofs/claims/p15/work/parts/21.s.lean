-- X11_seenBehind
set_option maxRecDepth 100000 in
set_option maxHeartbeats 4000000 in
theorem SX11_seenBehind {z : zT} (a0 : Int32) (h : ph_H) (I : IC z h) (f_a0 : iv 0 300 a0) : PX11_seenBehind a0 h ∧ IC z (FX11_seenBehind a0 h) := by
  unfold PX11_seenBehind FX11_seenBehind
  have f1 : iv 0 300 (h 0 9) := ICv I 0 _
  refine sf_if (fun c2 => ?_) (fun c2 => ?_)
  · unfold PX11_seenBehind_31 FX11_seenBehind_31
    have s3 := SX11_replay_s (z := z) (h 0 9) a0 h I f1
    refine sf_n s3.1 ?_
    unfold PX11_seenBehind_44 FX11_seenBehind_44
    have I4 : IC z (hs (FX11_replay_s (h 0 9) a0 h) 0 9 a0) := ICs s3.2 (k := 0) (i := 9) (v := a0) f_a0 rfl
    exact ⟨trivial, I4⟩
  · have f5 : iv 0 299 a0 := iv_ltl f_a0 f1 (nle c2) rfl
    have f6 : iv 1 300 (h 0 9) := iv_ltr f1 f_a0 (nle c2) rfl
    have f7 : iv 0 30 (h 8 6) := ICv I 8 _
    have s8 := SX3_begin_st (z := z) (h 8 6) h I
    refine sf_n s8.1 ?_
    unfold PX11_seenBehind_26 FX11_seenBehind_26
    have I9 : IC z (hs (FX3_begin_st (h 8 6) h) 0 9 0) := ICs s8.2 (k := 0) (i := 9) (v := 0) (iv_w (c := 0) (d := 300) (iv_lit (lo := 0) (hi := 0) (x := 0) rfl) rfl) rfl
    unfold PX11_seenBehind_31 FX11_seenBehind_31
    have f10 : iv 0 0 ((hs (FX3_begin_st (h 8 6) h) 0 9 0) 0 9) := iv_r (hz_e) (iv_lit (lo := 0) (hi := 0) (x := 0) rfl)
    have s11 := SX11_replay_s (z := z) ((hs (FX3_begin_st (h 8 6) h) 0 9 0) 0 9) a0 (hs (FX3_begin_st (h 8 6) h) 0 9 0) I9 (iv_w (c := 0) (d := 300) f10 rfl)
    refine sf_n s11.1 ?_
    unfold PX11_seenBehind_44 FX11_seenBehind_44
    have I12 : IC z (hs (FX11_replay_s ((hs (FX3_begin_st (h 8 6) h) 0 9 0) 0 9) a0 (hs (FX3_begin_st (h 8 6) h) 0 9 0)) 0 9 a0) := ICs s11.2 (k := 0) (i := 9) (v := a0) (iv_w (c := 0) (d := 300) f5 rfl) rfl
    exact ⟨trivial, I12⟩

-- X11_thing
set_option maxRecDepth 100000 in
set_option maxHeartbeats 4000000 in
theorem SX11_thing {z : zT} (a0 : Int32) (a1 : Int32) (h : ph_H) (I : IC z h) : PX11_thing a0 a1 h ∧ QC z (-2147483648) 2147483647 (FX11_thing a0 a1 h) := by
  unfold PX11_thing FX11_thing
  have f1 : iv 0 1 (h 0 8) := ICv I 0 _
  refine sf_if (fun c2 => ?_) (fun c2 => ?_)
  · have f3 : iv 0 0 (h 0 8) := iv_eql f1 (iv_lit (lo := 0) (hi := 0) (x := 0) rfl) c2 rfl
    exact ⟨trivial, QC_mk (iv_any (-2)) I⟩
  · have f4 : iv 1 1 (h 0 8) := iv_nel f1 c2 rfl
    have f5 : iv 0 300 (h 0 10) := ICv I 0 _
    have s6 := SX11_seenBehind (z := z) (h 0 10) h I f5
    refine sf_n s6.1 ?_
    unfold PX11_thing_18 FX11_thing_18
    have s7 := SX3_hasThing_s (z := z) a0 (FX11_seenBehind (h 0 10) h) s6.2
    refine sf_n s7.1 ?_
    refine sf_if (fun c8 => ?_) (fun c8 => ?_)
    · have f9 : iv 0 0 (FX3_hasThing_s a0 (FX11_seenBehind (h 0 10) h)) := iv_eql s7.2.1 (iv_lit (lo := 0) (hi := 0) (x := 0) rfl) c8 rfl
      exact ⟨trivial, QC_mk (iv_any (-1)) s6.2⟩
    · have f10 : iv 0 11 a0 := iv_and (iv_any _) (s7.2.2 c8) rfl
      have f11 : iv 1 1 (FX3_hasThing_s a0 (FX11_seenBehind (h 0 10) h)) := iv_nel s7.2.1 c8 rfl
      refine sf_if (fun c12 => ?_) (fun c12 => ?_)
      · have f13 : iv (-2147483648) (-1) a1 := iv_ltl (iv_any a1) (iv_lit (lo := 0) (hi := 0) (x := 0) rfl) c12 rfl
        exact ⟨trivial, QC_mk (iv_any (-1)) s6.2⟩
      · have f14 : iv 0 2147483647 a1 := iv_ler (iv_any a1) (iv_lit (lo := 0) (hi := 0) (x := 0) rfl) (nlt c12) rfl
        refine sf_if (fun c15 => ?_) (fun c15 => ?_)
        · have f16 : iv 0 1 a1 := iv_lel f14 (iv_lit (lo := 1) (hi := 1) (x := 1) rfl) c15 rfl
          refine sf_if (fun c17 => ?_) (fun c17 => ?_)
          · have f18 : iv 0 0 a1 := iv_eql f16 (iv_lit (lo := 0) (hi := 0) (x := 0) rfl) c17 rfl
            refine sf_n (iv_in f10 rfl) ?_
            exact ⟨trivial, QC_mk (iv_any ((FX11_seenBehind (h 0 10) h) 21 (a0.toNatClampNeg))) s6.2⟩
          · have f19 : iv 1 1 a1 := iv_nel f16 c17 rfl
            refine sf_n (iv_in f10 rfl) ?_
            refine sf_if (fun c20 => ?_) (fun c20 => ?_)
            · have f21 : iv 1 1 ((FX11_seenBehind (h 0 10) h) 21 (a0.toNatClampNeg)) := iv_eql (iv_any ((FX11_seenBehind (h 0 10) h) 21 (a0.toNatClampNeg))) (iv_lit (lo := 1) (hi := 1) (x := 1) rfl) c20 rfl
              refine sf_n (iv_in f10 rfl) ?_
              have f22 : iv 0 16 ((FX11_seenBehind (h 0 10) h) 22 (a0.toNatClampNeg)) := ICv s6.2 22 _
              exact ⟨trivial, QC_mk (iv_any ((FX11_seenBehind (h 0 10) h) 22 (a0.toNatClampNeg))) s6.2⟩
            · refine sf_n (iv_in f10 rfl) ?_
              exact ⟨trivial, QC_mk (iv_any ((FX11_seenBehind (h 0 10) h) 23 (a0.toNatClampNeg))) s6.2⟩
        · have f23 : iv 2 2147483647 a1 := iv_ltr f14 (iv_lit (lo := 1) (hi := 1) (x := 1) rfl) (nle c15) rfl
          exact ⟨trivial, QC_mk (iv_any (-1)) s6.2⟩

-- X11_thread
set_option maxRecDepth 100000 in
set_option maxHeartbeats 4000000 in
theorem SX11_thread {z : zT} (a0 : Int32) (a1 : Int32) (h : ph_H) (I : IC z h) : PX11_thread a0 a1 h ∧ QC z (-2) 24 (FX11_thread a0 a1 h) := by
  unfold PX11_thread FX11_thread
  have f1 : iv 0 1 (h 0 8) := ICv I 0 _
  refine sf_if (fun c2 => ?_) (fun c2 => ?_)
  · have f3 : iv 0 0 (h 0 8) := iv_eql f1 (iv_lit (lo := 0) (hi := 0) (x := 0) rfl) c2 rfl
    exact ⟨trivial, QC_mk (iv_w (c := (-2)) (d := 24) (iv_lit (lo := (-2)) (hi := (-2)) (x := (-2)) rfl) rfl) I⟩
  · have f4 : iv 1 1 (h 0 8) := iv_nel f1 c2 rfl
    have s5 := SX11_isThread a0 
    refine sf_n s5.1 ?_
    refine sf_if (fun c6 => ?_) (fun c6 => ?_)
    · have f7 : iv 0 0 (FX11_isThread a0) := iv_eql s5.2.1 (iv_lit (lo := 0) (hi := 0) (x := 0) rfl) c6 rfl
      exact ⟨trivial, QC_mk (iv_w (c := (-2)) (d := 24) (iv_lit (lo := (-1)) (hi := (-1)) (x := (-1)) rfl) rfl) I⟩
    · have f8 : iv 0 3 a0 := iv_and (iv_any _) (s5.2.2 c6) rfl
      have f9 : iv 1 1 (FX11_isThread a0) := iv_nel s5.2.1 c6 rfl
      refine sf_if (fun c10 => ?_) (fun c10 => ?_)
      · have f11 : iv (-2147483648) (-1) a1 := iv_ltl (iv_any a1) (iv_lit (lo := 0) (hi := 0) (x := 0) rfl) c10 rfl
        exact ⟨trivial, QC_mk (iv_w (c := (-2)) (d := 24) (iv_lit (lo := (-1)) (hi := (-1)) (x := (-1)) rfl) rfl) I⟩
      · have f12 : iv 0 2147483647 a1 := iv_ler (iv_any a1) (iv_lit (lo := 0) (hi := 0) (x := 0) rfl) (nlt c10) rfl
        refine sf_if (fun c13 => ?_) (fun c13 => ?_)
        · have f14 : iv 0 1 a1 := iv_lel f12 (iv_lit (lo := 1) (hi := 1) (x := 1) rfl) c13 rfl
          have f15 : iv 0 300 (h 0 10) := ICv I 0 _
          have s16 := SX11_seenBehind (z := z) (h 0 10) h I f15
          refine sf_n s16.1 ?_
          unfold PX11_thread_36 FX11_thread_36
          refine sf_if (fun c17 => ?_) (fun c17 => ?_)
          · have f18 : iv 0 0 a1 := iv_eql f14 (iv_lit (lo := 0) (hi := 0) (x := 0) rfl) c17 rfl
            have s19 := SX3_nextInstruction_s (z := z) a0 (FX11_seenBehind (h 0 10) h) s16.2 f8
            refine sf_n s19.1 ?_
            exact ⟨trivial, QC_mk (iv_w (c := (-2)) (d := 24) s19.2 rfl) s16.2⟩
          · have f20 : iv 1 1 a1 := iv_nel f14 c17 rfl
            have s21 := SX3_standing_s (z := z) a0 (FX11_seenBehind (h 0 10) h) s16.2 f8
            refine sf_n s21.1 ?_
            exact ⟨trivial, QC_mk (iv_w (c := (-2)) (d := 24) s21.2 rfl) s16.2⟩
        · have f22 : iv 2 2147483647 a1 := iv_ltr f12 (iv_lit (lo := 1) (hi := 1) (x := 1) rfl) (nle c13) rfl
          exact ⟨trivial, QC_mk (iv_w (c := (-2)) (d := 24) (iv_lit (lo := (-1)) (hi := (-1)) (x := (-1)) rfl) rfl) I⟩

-- X11_ahead
set_option maxRecDepth 100000 in
set_option maxHeartbeats 4000000 in
theorem SX11_ahead {z : zT} (a0 : Int32) (a1 : Int32) (h : ph_H) (I : IC z h) : PX11_ahead a0 a1 h ∧ QC z (-2) 1 (FX11_ahead a0 a1 h) := by
  unfold PX11_ahead FX11_ahead
  have f1 : iv 0 1 (h 0 8) := ICv I 0 _
  refine sf_if (fun c2 => ?_) (fun c2 => ?_)
  · have f3 : iv 0 0 (h 0 8) := iv_eql f1 (iv_lit (lo := 0) (hi := 0) (x := 0) rfl) c2 rfl
    exact ⟨trivial, QC_mk (iv_w (c := (-2)) (d := 1) (iv_lit (lo := (-2)) (hi := (-2)) (x := (-2)) rfl) rfl) I⟩
  · have f4 : iv 1 1 (h 0 8) := iv_nel f1 c2 rfl
    refine sf_if (fun c5 => ?_) (fun c5 => ?_)
    · have f6 : iv (-2147483648) 0 a0 := iv_ltl (iv_any a0) (iv_lit (lo := 1) (hi := 1) (x := 1) rfl) c5 rfl
      exact ⟨trivial, QC_mk (iv_w (c := (-2)) (d := 1) (iv_lit (lo := (-1)) (hi := (-1)) (x := (-1)) rfl) rfl) I⟩
    · have f7 : iv 1 2147483647 a0 := iv_ler (iv_any a0) (iv_lit (lo := 1) (hi := 1) (x := 1) rfl) (nlt c5) rfl
      refine sf_if (fun c8 => ?_) (fun c8 => ?_)
      · exact ⟨trivial, QC_mk (iv_w (c := (-2)) (d := 1) (iv_lit (lo := (-1)) (hi := (-1)) (x := (-1)) rfl) rfl) I⟩
      · have f9 : iv 1 2147483646 a0 := iv_ltl f7 (iv_any a1) (nle c8) rfl
        have f10 : iv 2 2147483647 a1 := iv_ltr (iv_any a1) f7 (nle c8) rfl
        have f11 : iv 0 300 (h 35 11) := ICv I 35 _
        refine sf_if (fun c12 => ?_) (fun c12 => ?_)
        · have f13 : iv 2 300 a1 := iv_lel f10 f11 c12 rfl
          have f14 : iv 2 300 (h 35 11) := iv_ler f11 f10 c12 rfl
          have f15 : iv 1 300 a0 := iv_lel f9 f13 (Int32.le_of_lt (nle c8)) rfl
          have s16 := SX4_prepare (z := z) h I
          refine sf_n s16.1 ?_
          unfold PX11_ahead_40 FX11_ahead_40
          have s17 := SX4_isAhead (z := z) a0 a1 (FX4_prepare h) s16.2 (iv_w (c := 0) (d := 300) f15 rfl) (iv_w (c := 0) (d := 300) f13 rfl)
          refine sf_n s17.1 ?_
          refine sf_if (fun c18 => ?_) (fun c18 => ?_)
          · have f19 : iv 0 0 (FX4_isAhead a0 a1 (FX4_prepare h)) := iv_eql s17.2 (iv_lit (lo := 0) (hi := 0) (x := 0) rfl) c18 rfl
            exact ⟨trivial, QC_mk (iv_w (c := (-2)) (d := 1) (iv_lit (lo := 0) (hi := 0) (x := 0) rfl) rfl) s16.2⟩
          · have f20 : iv 1 1 (FX4_isAhead a0 a1 (FX4_prepare h)) := iv_nel s17.2 c18 rfl
            exact ⟨trivial, QC_mk (iv_w (c := (-2)) (d := 1) (iv_lit (lo := 1) (hi := 1) (x := 1) rfl) rfl) s16.2⟩
        · exact ⟨trivial, QC_mk (iv_w (c := (-2)) (d := 1) (iv_lit (lo := (-1)) (hi := (-1)) (x := (-1)) rfl) rfl) I⟩

-- X11_differ
set_option maxRecDepth 100000 in
set_option maxHeartbeats 4000000 in
theorem SX11_differ {z : zT} (a0 : Int32) (a1 : Int32) (h : ph_H) (I : IC z h) : PX11_differ a0 a1 h ∧ QC z (-2147483648) 2147483647 (FX11_differ a0 a1 h) := by
  unfold PX11_differ FX11_differ
  have f1 : iv 0 1 (h 0 8) := ICv I 0 _
  refine sf_if (fun c2 => ?_) (fun c2 => ?_)
  · have f3 : iv 0 0 (h 0 8) := iv_eql f1 (iv_lit (lo := 0) (hi := 0) (x := 0) rfl) c2 rfl
    exact ⟨trivial, QC_mk (iv_any (-2)) I⟩
  · have f4 : iv 1 1 (h 0 8) := iv_nel f1 c2 rfl
    have s5 := SX11_isMoment (z := z) a0 h I
    refine sf_n s5.1 ?_
    refine sf_if (fun c6 => ?_) (fun c6 => ?_)
    · have f7 : iv 0 0 (FX11_isMoment a0 h) := iv_eql s5.2.1 (iv_lit (lo := 0) (hi := 0) (x := 0) rfl) c6 rfl
      exact ⟨trivial, QC_mk (iv_any (-1)) I⟩
    · have f8 : iv 0 300 a0 := iv_and (iv_any _) (s5.2.2 c6) rfl
      have f9 : iv 1 1 (FX11_isMoment a0 h) := iv_nel s5.2.1 c6 rfl
      have s10 := SX11_isMoment (z := z) a1 h I
      refine sf_n s10.1 ?_
      refine sf_if (fun c11 => ?_) (fun c11 => ?_)
      · have f12 : iv 0 0 (FX11_isMoment a1 h) := iv_eql s10.2.1 (iv_lit (lo := 0) (hi := 0) (x := 0) rfl) c11 rfl
        exact ⟨trivial, QC_mk (iv_any (-1)) I⟩
      · have f13 : iv 0 300 a1 := iv_and (iv_any _) (s10.2.2 c11) rfl
        have f14 : iv 1 1 (FX11_isMoment a1 h) := iv_nel s10.2.1 c11 rfl
        have f15 : iv 0 30 (h 8 6) := ICv I 8 _
        have s16 := SX3_begin_ot (z := z) (h 8 6) h I
        refine sf_n s16.1 ?_
        unfold PX11_differ_46 FX11_differ_46
        have s17 := SX11_replay_oc2 (z := z) 0 a0 (FX3_begin_ot (h 8 6) h) s16.2 (iv_w (c := 0) (d := 300) (iv_lit (lo := 0) (hi := 0) (x := 0) rfl) rfl)
        refine sf_n s17.1 ?_
        unfold PX11_differ_56 FX11_differ_56
        have s18 := SX11_seenBehind (z := z) a1 (FX11_replay_oc2 0 a0 (FX3_begin_ot (h 8 6) h)) s17.2 f13
        refine sf_n s18.1 ?_
        unfold PX11_differ_61 FX11_differ_61
        have s19 := SX3_differences_soc2 (z := z) (FX11_seenBehind a1 (FX11_replay_oc2 0 a0 (FX3_begin_ot (h 8 6) h))) s18.2
        refine sf_n s19.1 ?_
        exact ⟨trivial, QC_mk s19.2 s18.2⟩
