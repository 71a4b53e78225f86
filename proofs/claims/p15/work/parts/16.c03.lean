-- X3_rise_s
def FX3_rise_s (a0 : Int32) (h : ph_H) : Int32 × ph_H := ((FX3_own_s a0 (h 20 (a0.toNatClampNeg)) (hs h 19 a0.toNatClampNeg 1)).1, (FX3_own_s a0 (h 20 (a0.toNatClampNeg)) (hs h 19 a0.toNatClampNeg 1)).2)
def PX3_rise_s (a0 : Int32) (h : ph_H) : Prop := vp_in a0 4 ∧ (vp_in a0 4 ∧ ((PX3_own_s a0 (h 20 (a0.toNatClampNeg)) (hs h 19 a0.toNatClampNeg 1)) ∧ (True)))
set_option maxRecDepth 100000 in
set_option maxHeartbeats 4000000 in
theorem tX3_rise_s {X : fj_X} {Y : fj_Y} {l0 : Launch} {ad : Nat → Nat} {n : Nat} {S : ph_S} {pr : Nat} (W : WS pr n S) (C : FC X Y l0 cX3_rise 2 RX3 ({ frames := 1, cells := 0, slots := 0, locals := 22 } : Room) 0 0 (some .int)) (a0 : Int32) (h : ph_H) (hP : PX3_rise_s a0 h) (hR : RETi X Y ad n S cX3_rise (FX3_rise_s a0 h)) : FJ X Y ad n S h 0 [(0, .ref (ad 15)), (1, .int a0)] [] := by
  unfold PX3_rise_s at hP
  unfold FX3_rise_s at hR
  refine j_aload_n C dX3_rise_0 rfl rfl ?_
  refine gCRX3_21 C dX3_rise_1 (W.lt 15 (by decide)) (sh_15 W) rfl ?_
  refine j_iload_n C dX3_rise_4 rfl rfl ?_
  refine j_iconst (v := 1) C dX3_rise_5 (by decide) ?_
  obtain ⟨p4, hP⟩ := hP
  refine j_iast (k := 19) C dX3_rise_6 (W.lt 19 (by decide)) (sh_19 W) p4 ?_
  refine j_aload_n C dX3_rise_7 rfl rfl ?_
  refine j_iload_n C dX3_rise_8 rfl rfl ?_
  refine j_aload_n C dX3_rise_9 rfl rfl ?_
  refine gCRX3_24 C dX3_rise_10 (W.lt 15 (by decide)) (sh_15 W) rfl ?_
  refine j_iload_n C dX3_rise_13 rfl rfl ?_
  obtain ⟨p11, hP⟩ := hP
  refine j_iald (k := 20) (v := (h 20 (a0.toNatClampNeg))) C dX3_rise_14 (W.lt 20 (by decide)) (sh_20 W) p11 (hz_k (by decide)) ?_
  obtain ⟨p13, hP⟩ := hP
  refine j_callV C (MX3_own_s W a0 (h 20 (a0.toNatClampNeg)) (hs h 19 a0.toNatClampNeg 1) p13) dX3_rise_15 (CKX3_own (by decide)) ⟨rfl, rfl⟩ lk_RX3_199 in_X3_own se_X3_own (W.lt 15 (by decide)) (sh_15 W) rfl rfl (Nat.le_of_ble_eq_true rfl) ?_
  intro r S' h' hq
  obtain ⟨e1, e2, e3⟩ := hq
  rw [e1, e2, e3]
  exact RETi_u hR _ _ dX3_rise_18
theorem MX3_rise_s {l0 : Launch} {Y : fj_Y} {ad : Nat → Nat} {n : Nat} {S : ph_S} {pr : Nat} (W : WS pr n S) (a0 : Int32) (h : ph_H) (hP : PX3_rise_s a0 h) : MI l0 yX3_rise cX3_rise 2 (some .int) ({ frames := 1, cells := 0, slots := 0, locals := 22 } : Room) Y ad n S h [.ref (ad 15), .int a0] (fun r S' h' => S' = S ∧ h' = (FX3_rise_s a0 h).2 ∧ r = (FX3_rise_s a0 h).1) := met_i (by decide) (Nat.le_of_ble_eq_true rfl) (fun _ _ _ _ => rfl) (fun X C K => j_vl (tX3_rise_s W C a0 h hP (fun pc lv hd => K _ _ _ ⟨rfl, rfl, rfl⟩ pc lv hd)) ⟨rfl, rfl, trivial⟩)

-- X3_go_s
def FX3_go_s_67  (x1 : Int32) (s0 : Int32) (h : ph_H) : Int32 × ph_H := if s0 = 0 then ((s0, (hs h 18 x1.toNatClampNeg (h 15 13)))) else ((s0, h))
def PX3_go_s_67  (x1 : Int32) (s0 : Int32) (h : ph_H) : Prop := (s0 = 0 → (vp_in x1 4 ∧ (True))) ∧ (¬ s0 = 0 → (True))
set_option maxRecDepth 100000 in
set_option maxHeartbeats 4000000 in
theorem tX3_go_s_67 {X : fj_X} {Y : fj_Y} {l0 : Launch} {ad : Nat → Nat} {n : Nat} {S : ph_S} {pr : Nat} (W : WS pr n S) (C : FC X Y l0 cX3_go 3 RX3 ({ frames := 3, cells := 0, slots := 0, locals := 76 } : Room) 0 0 (some .int)) (x1 : Int32) (s0 : Int32) (h : ph_H) (hP : PX3_go_s_67  x1 s0 h) (hR : RETi X Y ad n S cX3_go (FX3_go_s_67  x1 s0 h)) : FJ X Y ad n S h 67 [(0, .ref (ad 15)), (1, .int x1)] [.int s0] := by
  unfold PX3_go_s_67 at hP
  unfold FX3_go_s_67 at hR
  refine j_istore_n C dX3_go_67 rfl (by decide) rfl ?_
  refine j_iload_n C dX3_go_68 rfl rfl ?_
  refine j_if_ne (tgt := 82) C dX3_go_69 (by decide) (fun c0 => ?_) (fun c0 => ?_)
  · have hP := hP.2 c0
    rw [if_neg c0] at hR
    refine j_iload_n C dX3_go_82 rfl rfl ?_
    exact RETi_u hR _ _ dX3_go_83
  · have hP := hP.1 c0
    rw [if_pos c0] at hR
    refine j_aload_n C dX3_go_72 rfl rfl ?_
    refine gCRX3_18 C dX3_go_73 (W.lt 15 (by decide)) (sh_15 W) rfl ?_
    refine j_iload_n C dX3_go_76 rfl rfl ?_
    refine j_aload_n C dX3_go_77 rfl rfl ?_
    refine gCRX3_126 (v := (h 15 13)) C dX3_go_78 (W.lt 15 (by decide)) (sh_15 W) rfl rfl ?_
    obtain ⟨p5, hP⟩ := hP
    refine j_iast (k := 18) C dX3_go_81 (W.lt 18 (by decide)) (sh_18 W) p5 ?_
    refine j_iload_n C dX3_go_82 rfl rfl ?_
    exact RETi_u hR _ _ dX3_go_83
def FX3_go_s_59  (x1 : Int32) (s0 : Int32) (h : ph_H) : Int32 × ph_H := FX3_go_s_67  x1 s0 h
def PX3_go_s_59  (x1 : Int32) (s0 : Int32) (h : ph_H) : Prop := PX3_go_s_67  x1 s0 h
set_option maxRecDepth 100000 in
set_option maxHeartbeats 4000000 in
theorem tX3_go_s_59 {X : fj_X} {Y : fj_Y} {l0 : Launch} {ad : Nat → Nat} {n : Nat} {S : ph_S} {pr : Nat} (W : WS pr n S) (C : FC X Y l0 cX3_go 3 RX3 ({ frames := 3, cells := 0, slots := 0, locals := 76 } : Room) 0 0 (some .int)) (x1 : Int32) (s0 : Int32) (h : ph_H) (hP : PX3_go_s_59  x1 s0 h) (hR : RETi X Y ad n S cX3_go (FX3_go_s_59  x1 s0 h)) : FJ X Y ad n S h 59 [(0, .ref (ad 15)), (1, .int x1)] [.int s0] := by
  unfold PX3_go_s_59 at hP
  unfold FX3_go_s_59 at hR
  refine j_goto (tgt := 67) C dX3_go_59 (by decide) ?_
  exact j_vl (tX3_go_s_67 W C  x1 s0 h hP hR) ⟨rfl, rfl, trivial⟩
def FX3_go_s (a0 : Int32) (h : ph_H) : Int32 × ph_H := if (FX3_canGo_s a0 h) = 0 then (((-1), h)) else (if (h 19 (a0.toNatClampNeg)) = 3 then (FX3_go_s_59  a0 ((FX3_rise_s a0 (hs (hs (hs (hs (hs h 15 14 (-2)) 15 15 (-2)) 15 16 0) 15 17 0) 15 13 ((h 18 (a0.toNatClampNeg)) + 1))).1) ((FX3_rise_s a0 (hs (hs (hs (hs (hs h 15 14 (-2)) 15 15 (-2)) 15 16 0) 15 17 0) 15 13 ((h 18 (a0.toNatClampNeg)) + 1))).2)) else (FX3_go_s_67  a0 ((FX3_perform_s a0 (hs (hs (hs (hs (hs h 15 14 (-2)) 15 15 (-2)) 15 16 0) 15 17 0) 15 13 ((h 18 (a0.toNatClampNeg)) + 1))).1) ((FX3_perform_s a0 (hs (hs (hs (hs (hs h 15 14 (-2)) 15 15 (-2)) 15 16 0) 15 17 0) 15 13 ((h 18 (a0.toNatClampNeg)) + 1))).2)))
def PX3_go_s (a0 : Int32) (h : ph_H) : Prop := (PX3_canGo_s a0 h) ∧ (((FX3_canGo_s a0 h) = 0 → (True)) ∧ (¬ (FX3_canGo_s a0 h) = 0 → (vp_in a0 4 ∧ (vp_in a0 4 ∧ (((h 19 (a0.toNatClampNeg)) = 3 → ((PX3_rise_s a0 (hs (hs (hs (hs (hs h 15 14 (-2)) 15 15 (-2)) 15 16 0) 15 17 0) 15 13 ((h 18 (a0.toNatClampNeg)) + 1))) ∧ (PX3_go_s_59  a0 ((FX3_rise_s a0 (hs (hs (hs (hs (hs h 15 14 (-2)) 15 15 (-2)) 15 16 0) 15 17 0) 15 13 ((h 18 (a0.toNatClampNeg)) + 1))).1) ((FX3_rise_s a0 (hs (hs (hs (hs (hs h 15 14 (-2)) 15 15 (-2)) 15 16 0) 15 17 0) 15 13 ((h 18 (a0.toNatClampNeg)) + 1))).2)))) ∧ (¬ (h 19 (a0.toNatClampNeg)) = 3 → ((PX3_perform_s a0 (hs (hs (hs (hs (hs h 15 14 (-2)) 15 15 (-2)) 15 16 0) 15 17 0) 15 13 ((h 18 (a0.toNatClampNeg)) + 1))) ∧ (PX3_go_s_67  a0 ((FX3_perform_s a0 (hs (hs (hs (hs (hs h 15 14 (-2)) 15 15 (-2)) 15 16 0) 15 17 0) 15 13 ((h 18 (a0.toNatClampNeg)) + 1))).1) ((FX3_perform_s a0 (hs (hs (hs (hs (hs h 15 14 (-2)) 15 15 (-2)) 15 16 0) 15 17 0) 15 13 ((h 18 (a0.toNatClampNeg)) + 1))).2)))))))))
set_option maxRecDepth 100000 in
set_option maxHeartbeats 4000000 in
theorem tX3_go_s {X : fj_X} {Y : fj_Y} {l0 : Launch} {ad : Nat → Nat} {n : Nat} {S : ph_S} {pr : Nat} (W : WS pr n S) (C : FC X Y l0 cX3_go 3 RX3 ({ frames := 3, cells := 0, slots := 0, locals := 76 } : Room) 0 0 (some .int)) (a0 : Int32) (h : ph_H) (hP : PX3_go_s a0 h) (hR : RETi X Y ad n S cX3_go (FX3_go_s a0 h)) : FJ X Y ad n S h 0 [(0, .ref (ad 15)), (1, .int a0)] [] := by
  unfold PX3_go_s at hP
  unfold FX3_go_s at hR
  refine j_aload_n C dX3_go_0 rfl rfl ?_
  refine j_iload_n C dX3_go_1 rfl rfl ?_
  obtain ⟨p2, hP⟩ := hP
  refine j_callV C (MX3_canGo_s W a0 h p2) dX3_go_2 (CKX3_canGo (by decide)) ⟨rfl, rfl⟩ lk_RX3_92 in_X3_canGo se_X3_canGo (W.lt 15 (by decide)) (sh_15 W) rfl rfl (Nat.le_of_ble_eq_true rfl) ?_
  intro r S' h' hq
  obtain ⟨e1, hh, e3, hb4⟩ := hq
  rw [e1, hh, e3]
  refine j_if_ne (tgt := 10) C dX3_go_5 (by decide) (fun c0 => ?_) (fun c0 => ?_)
  · have hP := hP.2 c0
    rw [if_neg c0] at hR
    refine j_aload_n C dX3_go_10 rfl rfl ?_
    refine j_bipush (v := (-2)) C dX3_go_11 (by decide) ?_
    refine pCRX3_114 C dX3_go_13 (W.lt 15 (by decide)) (sh_15 W) rfl ?_
    refine j_aload_n C dX3_go_16 rfl rfl ?_
    refine j_bipush (v := (-2)) C dX3_go_17 (by decide) ?_
    refine pCRX3_117 C dX3_go_19 (W.lt 15 (by decide)) (sh_15 W) rfl ?_
    refine j_aload_n C dX3_go_22 rfl rfl ?_
    refine j_iconst (v := 0) C dX3_go_23 (by decide) ?_
    refine pCRX3_120 C dX3_go_24 (W.lt 15 (by decide)) (sh_15 W) rfl ?_
    refine j_aload_n C dX3_go_27 rfl rfl ?_
    refine j_iconst (v := 0) C dX3_go_28 (by decide) ?_
    refine pCRX3_123 C dX3_go_29 (W.lt 15 (by decide)) (sh_15 W) rfl ?_
    refine j_aload_n C dX3_go_32 rfl rfl ?_
    refine j_aload_n C dX3_go_33 rfl rfl ?_
    refine gCRX3_18 C dX3_go_34 (W.lt 15 (by decide)) (sh_15 W) rfl ?_
    refine j_iload_n C dX3_go_37 rfl rfl ?_
    obtain ⟨p16, hP⟩ := hP
    refine j_iald (k := 18) (v := (h 18 (a0.toNatClampNeg))) C dX3_go_38 (W.lt 18 (by decide)) (sh_18 W) p16 ((hz_k (by decide)).trans ((hz_k (by decide)).trans ((hz_k (by decide)).trans (hz_k (by decide))))) ?_
    refine j_iconst (v := 1) C dX3_go_39 (by decide) ?_
    refine j_iadd C dX3_go_40 ?_
    refine pCRX3_126 C dX3_go_41 (W.lt 15 (by decide)) (sh_15 W) rfl ?_
    refine j_aload_n C dX3_go_44 rfl rfl ?_
    refine gCRX3_21 C dX3_go_45 (W.lt 15 (by decide)) (sh_15 W) rfl ?_
    refine j_iload_n C dX3_go_48 rfl rfl ?_
    obtain ⟨p24, hP⟩ := hP
    refine j_iald (k := 19) (v := (h 19 (a0.toNatClampNeg))) C dX3_go_49 (W.lt 19 (by decide)) (sh_19 W) p24 ((hz_k (by decide)).trans ((hz_k (by decide)).trans ((hz_k (by decide)).trans ((hz_k (by decide)).trans (hz_k (by decide)))))) ?_
    refine j_iconst (v := 3) C dX3_go_50 (by decide) ?_
    refine j_icmp_ne (tgt := 62) C dX3_go_51 (by decide) (fun c1 => ?_) (fun c1 => ?_)
    · have hP := hP.2 c1
      rw [if_neg c1] at hR
      refine j_aload_n C dX3_go_62 rfl rfl ?_
      refine j_iload_n C dX3_go_63 rfl rfl ?_
      obtain ⟨p2, hP⟩ := hP
      refine j_callV C (MX3_perform_s W a0 (hs (hs (hs (hs (hs h 15 14 (-2)) 15 15 (-2)) 15 16 0) 15 17 0) 15 13 ((h 18 (a0.toNatClampNeg)) + 1)) p2) dX3_go_64 (CKX3_perform (by decide)) ⟨rfl, rfl⟩ lk_RX3_132 in_X3_perform se_X3_perform (W.lt 15 (by decide)) (sh_15 W) rfl rfl (Nat.le_of_ble_eq_true rfl) ?_
      intro r S' h' hq
      obtain ⟨e1, e2, e3⟩ := hq
      rw [e1, e2, e3]
      exact j_vl (tX3_go_s_67 W C  a0 ((FX3_perform_s a0 (hs (hs (hs (hs (hs h 15 14 (-2)) 15 15 (-2)) 15 16 0) 15 17 0) 15 13 ((h 18 (a0.toNatClampNeg)) + 1))).1) ((FX3_perform_s a0 (hs (hs (hs (hs (hs h 15 14 (-2)) 15 15 (-2)) 15 16 0) 15 17 0) 15 13 ((h 18 (a0.toNatClampNeg)) + 1))).2) hP hR) ⟨rfl, rfl, trivial⟩
    · have hP := hP.1 c1
      rw [if_pos c1] at hR
      refine j_aload_n C dX3_go_54 rfl rfl ?_
      refine j_iload_n C dX3_go_55 rfl rfl ?_
      obtain ⟨p2, hP⟩ := hP
      refine j_callV C (MX3_rise_s W a0 (hs (hs (hs (hs (hs h 15 14 (-2)) 15 15 (-2)) 15 16 0) 15 17 0) 15 13 ((h 18 (a0.toNatClampNeg)) + 1)) p2) dX3_go_56 (CKX3_rise (by decide)) ⟨rfl, rfl⟩ lk_RX3_129 in_X3_rise se_X3_rise (W.lt 15 (by decide)) (sh_15 W) rfl rfl (Nat.le_of_ble_eq_true rfl) ?_
      intro r S' h' hq
      obtain ⟨e1, e2, e3⟩ := hq
      rw [e1, e2, e3]
      exact j_vl (tX3_go_s_59 W C  a0 ((FX3_rise_s a0 (hs (hs (hs (hs (hs h 15 14 (-2)) 15 15 (-2)) 15 16 0) 15 17 0) 15 13 ((h 18 (a0.toNatClampNeg)) + 1))).1) ((FX3_rise_s a0 (hs (hs (hs (hs (hs h 15 14 (-2)) 15 15 (-2)) 15 16 0) 15 17 0) 15 13 ((h 18 (a0.toNatClampNeg)) + 1))).2) hP hR) ⟨rfl, rfl, trivial⟩
  · have hP := hP.1 c0
    rw [if_pos c0] at hR
    refine j_iconst (v := (-1)) C dX3_go_8 (by decide) ?_
    exact RETi_u hR _ _ dX3_go_9
theorem MX3_go_s {l0 : Launch} {Y : fj_Y} {ad : Nat → Nat} {n : Nat} {S : ph_S} {pr : Nat} (W : WS pr n S) (a0 : Int32) (h : ph_H) (hP : PX3_go_s a0 h) : MI l0 yX3_go cX3_go 3 (some .int) ({ frames := 3, cells := 0, slots := 0, locals := 76 } : Room) Y ad n S h [.ref (ad 15), .int a0] (fun r S' h' => S' = S ∧ h' = (FX3_go_s a0 h).2 ∧ r = (FX3_go_s a0 h).1) := met_i (by decide) (Nat.le_of_ble_eq_true rfl) (fun _ _ _ _ => rfl) (fun X C K => j_vl (tX3_go_s W C a0 h hP (fun pc lv hd => K _ _ _ ⟨rfl, rfl, rfl⟩ pc lv hd)) ⟨rfl, rfl, trivial⟩)

-- X3_nextInstruction_s
def FX3_nextInstruction_s (a0 : Int32) (h : ph_H) : Int32 := if (FX3_hasEnded_s a0 h) = 0 then ((h 18 (a0.toNatClampNeg))) else (24)
def PX3_nextInstruction_s (a0 : Int32) (h : ph_H) : Prop := (PX3_hasEnded_s a0 h) ∧ (((FX3_hasEnded_s a0 h) = 0 → (vp_in a0 4 ∧ (True))) ∧ (¬ (FX3_hasEnded_s a0 h) = 0 → (True)))
set_option maxRecDepth 100000 in
set_option maxHeartbeats 4000000 in
theorem tX3_nextInstruction_s {X : fj_X} {Y : fj_Y} {l0 : Launch} {ad : Nat → Nat} {n : Nat} {S : ph_S} {pr : Nat} (W : WS pr n S) (C : FC X Y l0 cX3_nextInstruction 2 RX3 ({ frames := 2, cells := 0, slots := 0, locals := 43 } : Room) 0 0 (some .int)) (a0 : Int32) (h : ph_H) (hP : PX3_nextInstruction_s a0 h) (hR : RETp X Y ad n S h cX3_nextInstruction (FX3_nextInstruction_s a0 h)) : FJ X Y ad n S h 0 [(0, .ref (ad 15)), (1, .int a0)] [] := by
  unfold PX3_nextInstruction_s at hP
  unfold FX3_nextInstruction_s at hR
  refine j_aload_n C dX3_nextInstruction_0 rfl rfl ?_
  refine j_iload_n C dX3_nextInstruction_1 rfl rfl ?_
  obtain ⟨p2, hP⟩ := hP
  refine j_callV C (MX3_hasEnded_s W a0 h p2) dX3_nextInstruction_2 (CKX3_hasEnded (by decide)) ⟨rfl, rfl⟩ lk_RX3_74 in_X3_hasEnded se_X3_hasEnded (W.lt 15 (by decide)) (sh_15 W) rfl rfl (Nat.le_of_ble_eq_true rfl) ?_
  intro r S' h' hq
  obtain ⟨e1, hh, e3, hb4⟩ := hq
  rw [e1, hh, e3]
  refine j_if_eq (tgt := 13) C dX3_nextInstruction_5 (by decide) (fun c0 => ?_) (fun c0 => ?_)
  · have hP := hP.1 c0
    rw [if_pos c0] at hR
    refine j_aload_n C dX3_nextInstruction_13 rfl rfl ?_
    refine gCRX3_18 C dX3_nextInstruction_14 (W.lt 15 (by decide)) (sh_15 W) rfl ?_
    refine j_iload_n C dX3_nextInstruction_17 rfl rfl ?_
    obtain ⟨p3, hP⟩ := hP
    refine j_iald (k := 18) (v := (h 18 (a0.toNatClampNeg))) C dX3_nextInstruction_18 (W.lt 18 (by decide)) (sh_18 W) p3 rfl ?_
    exact hR _ _ dX3_nextInstruction_19
  · have hP := hP.2 c0
    rw [if_neg c0] at hR
    refine j_bipush (v := 24) C dX3_nextInstruction_8 (by decide) ?_
    refine j_goto (tgt := 19) C dX3_nextInstruction_10 (by decide) ?_
    exact hR _ _ dX3_nextInstruction_19
theorem MX3_nextInstruction_s {l0 : Launch} {Y : fj_Y} {ad : Nat → Nat} {n : Nat} {S : ph_S} {pr : Nat} (W : WS pr n S) (a0 : Int32) (h : ph_H) (hP : PX3_nextInstruction_s a0 h) : MI l0 yX3_nextInstruction cX3_nextInstruction 2 (some .int) ({ frames := 2, cells := 0, slots := 0, locals := 43 } : Room) Y ad n S h [.ref (ad 15), .int a0] (fun r S' h' => S' = S ∧ h' = h ∧ r = FX3_nextInstruction_s a0 h) := met_i (by decide) (Nat.le_of_ble_eq_true rfl) (fun _ _ _ _ => rfl) (fun X C K => j_vl (tX3_nextInstruction_s W C a0 h hP (fun pc lv hd => K _ _ _ ⟨rfl, rfl, rfl⟩ pc lv hd)) ⟨rfl, rfl, trivial⟩)

-- X5_opOf_t
def FX5_opOf_t (a0 : Int32) (a1 : Int32) (h : ph_H) : Int32 := if (FX5_has_t a0 a1 h) = 0 then (19) else ((h 10 ((FX5_firstPart_t a0 a1 h).toNatClampNeg)))
def PX5_opOf_t (a0 : Int32) (a1 : Int32) (h : ph_H) : Prop := (PX5_has_t a0 a1 h) ∧ (((FX5_has_t a0 a1 h) = 0 → (True)) ∧ (¬ (FX5_has_t a0 a1 h) = 0 → ((PX5_firstPart_t a0 a1 h) ∧ (vp_in (FX5_firstPart_t a0 a1 h) 384 ∧ (True)))))
set_option maxRecDepth 100000 in
set_option maxHeartbeats 4000000 in
theorem tX5_opOf_t {X : fj_X} {Y : fj_Y} {l0 : Launch} {ad : Nat → Nat} {n : Nat} {S : ph_S} {pr : Nat} (W : WS pr n S) (C : FC X Y l0 cX5_opOf 3 RX5 ({ frames := 1, cells := 0, slots := 0, locals := 22 } : Room) 0 0 (some .int)) (a0 : Int32) (a1 : Int32) (h : ph_H) (hP : PX5_opOf_t a0 a1 h) (hR : RETp X Y ad n S h cX5_opOf (FX5_opOf_t a0 a1 h)) : FJ X Y ad n S h 0 [(0, .ref (ad 8)), (1, .int a0), (2, .int a1)] [] := by
  unfold PX5_opOf_t at hP
  unfold FX5_opOf_t at hR
  refine j_aload_n C dX5_opOf_0 rfl rfl ?_
  refine j_iload_n C dX5_opOf_1 rfl rfl ?_
  refine j_iload_n C dX5_opOf_2 rfl rfl ?_
  obtain ⟨p3, hP⟩ := hP
  refine j_callV C (MX5_has_t W a0 a1 h p3) dX5_opOf_3 (CKX5_has (by decide)) ⟨rfl, rfl⟩ lk_RX5_43 in_X5_has se_X5_has (W.lt 8 (by decide)) (sh_8 W) rfl rfl (Nat.le_of_ble_eq_true rfl) ?_
  intro r S' h' hq
  obtain ⟨e1, hh, e3, hb5⟩ := hq
  rw [e1, hh, e3]
  refine j_if_eq (tgt := 23) C dX5_opOf_6 (by decide) (fun c0 => ?_) (fun c0 => ?_)
  · have hP := hP.1 c0
    rw [if_pos c0] at hR
    refine j_bipush (v := 19) C dX5_opOf_23 (by decide) ?_
    exact hR _ _ dX5_opOf_25
  · have hP := hP.2 c0
    rw [if_neg c0] at hR
    refine j_aload_n C dX5_opOf_9 rfl rfl ?_
    refine gCRX5_15 C dX5_opOf_10 (W.lt 8 (by decide)) (sh_8 W) rfl ?_
    refine j_aload_n C dX5_opOf_13 rfl rfl ?_
    refine j_iload_n C dX5_opOf_14 rfl rfl ?_
    refine j_iload_n C dX5_opOf_15 rfl rfl ?_
    obtain ⟨p5, hP⟩ := hP
    refine j_callV C (MX5_firstPart_t W a0 a1 h p5) dX5_opOf_16 (CKX5_firstPart (by decide)) ⟨rfl, rfl⟩ lk_RX5_47 in_X5_firstPart se_X5_firstPart (W.lt 8 (by decide)) (sh_8 W) rfl rfl (Nat.le_of_ble_eq_true rfl) ?_
    intro r S' h' hq
    obtain ⟨e1, hh, e3⟩ := hq
    rw [e1, hh, e3]
    obtain ⟨p10, hP⟩ := hP
    refine j_iald (k := 10) (v := (h 10 ((FX5_firstPart_t a0 a1 h).toNatClampNeg))) C dX5_opOf_19 (W.lt 10 (by decide)) (sh_10 W) p10 rfl ?_
    refine j_goto (tgt := 25) C dX5_opOf_20 (by decide) ?_
    exact hR _ _ dX5_opOf_25
theorem MX5_opOf_t {l0 : Launch} {Y : fj_Y} {ad : Nat → Nat} {n : Nat} {S : ph_S} {pr : Nat} (W : WS pr n S) (a0 : Int32) (a1 : Int32) (h : ph_H) (hP : PX5_opOf_t a0 a1 h) : MI l0 yX5_opOf cX5_opOf 3 (some .int) ({ frames := 1, cells := 0, slots := 0, locals := 22 } : Room) Y ad n S h [.ref (ad 8), .int a0, .int a1] (fun r S' h' => S' = S ∧ h' = h ∧ r = FX5_opOf_t a0 a1 h) := met_i (by decide) (Nat.le_of_ble_eq_true rfl) (fun _ _ _ _ => rfl) (fun X C K => j_vl (tX5_opOf_t W C a0 a1 h hP (fun pc lv hd => K _ _ _ ⟨rfl, rfl, rfl⟩ pc lv hd)) ⟨rfl, rfl, rfl, trivial⟩)

-- X10_advance_s
def FX10_advance_s_51  (x2 : Int32) (x3 : Int32) (h : ph_H) : Int32 × ph_H := (1, (FX10_noteEffects_s (hs (hs (hs (hs h 35 11 ((h 35 11) + 1)) 36 ((h 35 11) + 1).toNatClampNeg x2) 37 ((h 35 11) + 1).toNatClampNeg x3) 38 ((h 35 11) + 1).toNatClampNeg (FX5_opOf_t x2 x3 (hs (hs (hs h 35 11 ((h 35 11) + 1)) 36 ((h 35 11) + 1).toNatClampNeg x2) 37 ((h 35 11) + 1).toNatClampNeg x3)))))
def PX10_advance_s_51  (x2 : Int32) (x3 : Int32) (h : ph_H) : Prop := vp_in ((h 35 11) + 1) 301 ∧ (vp_in ((h 35 11) + 1) 301 ∧ ((PX5_opOf_t x2 x3 (hs (hs (hs h 35 11 ((h 35 11) + 1)) 36 ((h 35 11) + 1).toNatClampNeg x2) 37 ((h 35 11) + 1).toNatClampNeg x3)) ∧ (vp_in ((h 35 11) + 1) 301 ∧ ((PX10_noteEffects_s (hs (hs (hs (hs h 35 11 ((h 35 11) + 1)) 36 ((h 35 11) + 1).toNatClampNeg x2) 37 ((h 35 11) + 1).toNatClampNeg x3) 38 ((h 35 11) + 1).toNatClampNeg (FX5_opOf_t x2 x3 (hs (hs (hs h 35 11 ((h 35 11) + 1)) 36 ((h 35 11) + 1).toNatClampNeg x2) 37 ((h 35 11) + 1).toNatClampNeg x3)))) ∧ (True)))))
set_option maxRecDepth 100000 in
set_option maxHeartbeats 4000000 in
theorem tX10_advance_s_51 {X : fj_X} {Y : fj_Y} {l0 : Launch} {ad : Nat → Nat} {n : Nat} {S : ph_S} {pr : Nat} (W : WS pr n S) (C : FC X Y l0 cX10_advance 5 RX10 ({ frames := 4, cells := 0, slots := 0, locals := 98 } : Room) 0 0 (some .boolean)) (x2 : Int32) (x3 : Int32) (h : ph_H) (hP : PX10_advance_s_51  x2 x3 h) (hR : RETz X Y ad n S cX10_advance (FX10_advance_s_51  x2 x3 h)) : FJ X Y ad n S h 51 [(0, .ref (ad 35)), (1, .ref (ad 15)), (2, .int x2), (3, .int x3)] [] := by
  unfold PX10_advance_s_51 at hP
  unfold FX10_advance_s_51 at hR
  refine j_aload_n C dX10_advance_51 rfl rfl ?_
  refine j_dup C dX10_advance_52 rfl ?_
  refine gCRX10_45 (v := (h 35 11)) C dX10_advance_53 (W.lt 35 (by decide)) (sh_35 W) rfl rfl ?_
  refine j_iconst (v := 1) C dX10_advance_56 (by decide) ?_
  refine j_iadd C dX10_advance_57 ?_
  refine pCRX10_45 C dX10_advance_58 (W.lt 35 (by decide)) (sh_35 W) rfl ?_
  refine j_aload_n C dX10_advance_61 rfl rfl ?_
  refine gCRX10_9 C dX10_advance_62 (W.lt 35 (by decide)) (sh_35 W) rfl ?_
  refine j_aload_n C dX10_advance_65 rfl rfl ?_
  refine gCRX10_45 (v := ((h 35 11) + 1)) C dX10_advance_66 (W.lt 35 (by decide)) (sh_35 W) rfl (hz_e) ?_
  refine j_iload_n C dX10_advance_69 rfl rfl ?_
  obtain ⟨p11, hP⟩ := hP
  refine j_iast (k := 36) C dX10_advance_70 (W.lt 36 (by decide)) (sh_36 W) p11 ?_
  refine j_aload_n C dX10_advance_71 rfl rfl ?_
  refine gCRX10_15 C dX10_advance_72 (W.lt 35 (by decide)) (sh_35 W) rfl ?_
  refine j_aload_n C dX10_advance_75 rfl rfl ?_
  refine gCRX10_45 (v := ((h 35 11) + 1)) C dX10_advance_76 (W.lt 35 (by decide)) (sh_35 W) rfl ((hz_k (by decide)).trans (hz_e)) ?_
  refine j_iload_n C dX10_advance_79 rfl rfl ?_
  obtain ⟨p18, hP⟩ := hP
  refine j_iast (k := 37) C dX10_advance_80 (W.lt 37 (by decide)) (sh_37 W) p18 ?_
  refine j_aload_n C dX10_advance_81 rfl rfl ?_
  refine gCRX10_18 C dX10_advance_82 (W.lt 35 (by decide)) (sh_35 W) rfl ?_
  refine j_aload_n C dX10_advance_85 rfl rfl ?_
  refine gCRX10_45 (v := ((h 35 11) + 1)) C dX10_advance_86 (W.lt 35 (by decide)) (sh_35 W) rfl ((hz_k (by decide)).trans ((hz_k (by decide)).trans (hz_e))) ?_
  refine j_aload_n C dX10_advance_89 rfl rfl ?_
  refine gCRX10_55 C dX10_advance_90 (W.lt 15 (by decide)) (sh_15 W) rfl ?_
  refine j_iload_n C dX10_advance_93 rfl rfl ?_
  refine j_iload_n C dX10_advance_94 rfl rfl ?_
  obtain ⟨p28, hP⟩ := hP
  refine j_callV C (MX5_opOf_t W x2 x3 (hs (hs (hs h 35 11 ((h 35 11) + 1)) 36 ((h 35 11) + 1).toNatClampNeg x2) 37 ((h 35 11) + 1).toNatClampNeg x3) p28) dX10_advance_95 (CKX5_opOf (by decide)) ⟨rfl, rfl⟩ lk_RX10_119 in_X5_opOf se_X5_opOf (W.lt 8 (by decide)) (sh_8 W) rfl rfl (Nat.le_of_ble_eq_true rfl) ?_
  intro r S' h' hq
  obtain ⟨e1, hh, e3⟩ := hq
  rw [e1, hh, e3]
  obtain ⟨p33, hP⟩ := hP
  refine j_iast (k := 38) C dX10_advance_98 (W.lt 38 (by decide)) (sh_38 W) p33 ?_
  refine j_aload_n C dX10_advance_99 rfl rfl ?_
  refine j_aload_n C dX10_advance_100 rfl rfl ?_
  obtain ⟨p37, hP⟩ := hP
  refine j_callVv C (MX10_noteEffects_s W (hs (hs (hs (hs h 35 11 ((h 35 11) + 1)) 36 ((h 35 11) + 1).toNatClampNeg x2) 37 ((h 35 11) + 1).toNatClampNeg x3) 38 ((h 35 11) + 1).toNatClampNeg (FX5_opOf_t x2 x3 (hs (hs (hs h 35 11 ((h 35 11) + 1)) 36 ((h 35 11) + 1).toNatClampNeg x2) 37 ((h 35 11) + 1).toNatClampNeg x3))) p37) dX10_advance_101 (CKX10_noteEffects (by decide)) ⟨rfl, rfl⟩ lk_RX10_123 in_X10_noteEffects se_X10_noteEffects (W.lt 35 (by decide)) (sh_35 W) rfl rfl (Nat.le_of_ble_eq_true rfl) ?_
  intro S' h' hq
  obtain ⟨e1, e2⟩ := hq
  rw [e1, e2]
  refine j_iconst (v := 1) C dX10_advance_104 (by decide) ?_
  exact RETz_u hR bo_1 _ _ dX10_advance_105
def FX10_advance_s_30  (x2 : Int32) (x3 : Int32) (s0 : Int32) (h : ph_H) : Int32 × ph_H := if s0 = (-1) then ((0, h)) else (FX10_advance_s_51  x2 x3 (FX10_noteChange x2 (hs h 35 14 s0)))
def PX10_advance_s_30  (x2 : Int32) (x3 : Int32) (s0 : Int32) (h : ph_H) : Prop := (s0 = (-1) → (True)) ∧ (¬ s0 = (-1) → ((PX10_noteChange x2 (hs h 35 14 s0)) ∧ (PX10_advance_s_51  x2 x3 (FX10_noteChange x2 (hs h 35 14 s0)))))
set_option maxRecDepth 100000 in
set_option maxHeartbeats 4000000 in
theorem tX10_advance_s_30 {X : fj_X} {Y : fj_Y} {l0 : Launch} {ad : Nat → Nat} {n : Nat} {S : ph_S} {pr : Nat} (W : WS pr n S) (C : FC X Y l0 cX10_advance 5 RX10 ({ frames := 4, cells := 0, slots := 0, locals := 98 } : Room) 0 0 (some .boolean)) (x2 : Int32) (x3 : Int32) (s0 : Int32) (h : ph_H) (hP : PX10_advance_s_30  x2 x3 s0 h) (hR : RETz X Y ad n S cX10_advance (FX10_advance_s_30  x2 x3 s0 h)) : FJ X Y ad n S h 30 [(0, .ref (ad 35)), (1, .ref (ad 15)), (2, .int x2), (3, .int x3)] [.int s0] := by
  unfold PX10_advance_s_30 at hP
  unfold FX10_advance_s_30 at hR
  refine j_istore C dX10_advance_30 (by decide) rfl ?_
  refine j_iload C dX10_advance_32 rfl ?_
  refine j_iconst (v := (-1)) C dX10_advance_34 (by decide) ?_
  refine j_icmp_ne (tgt := 40) C dX10_advance_35 (by decide) (fun c0 => ?_) (fun c0 => ?_)
  · have hP := hP.2 c0
    rw [if_neg c0] at hR
    refine j_aload_n C dX10_advance_40 rfl rfl ?_
    refine j_iload C dX10_advance_41 rfl ?_
    refine pCRX10_52 C dX10_advance_43 (W.lt 35 (by decide)) (sh_35 W) rfl ?_
    refine j_aload_n C dX10_advance_46 rfl rfl ?_
    refine j_iload_n C dX10_advance_47 rfl rfl ?_
    obtain ⟨p5, hP⟩ := hP
    refine j_callVv C (MX10_noteChange W x2 (hs h 35 14 s0) p5) dX10_advance_48 (CKX10_noteChange (by decide)) ⟨rfl, rfl⟩ lk_RX10_115 in_X10_noteChange se_X10_noteChange (W.lt 35 (by decide)) (sh_35 W) rfl rfl (Nat.le_of_ble_eq_true rfl) ?_
    intro S' h' hq
    obtain ⟨e1, e2⟩ := hq
    rw [e1, e2]
    exact j_vl (tX10_advance_s_51 W C  x2 x3 (FX10_noteChange x2 (hs h 35 14 s0)) hP hR) ⟨rfl, rfl, rfl, rfl, trivial⟩
  · have hP := hP.1 c0
    rw [if_pos c0] at hR
    refine j_iconst (v := 0) C dX10_advance_38 (by decide) ?_
    exact RETz_u hR bo_0 _ _ dX10_advance_39
def FX10_advance_s (a1 : Int32) (h : ph_H) : Int32 × ph_H := if (h 35 14) = 0 then (if (h 35 11) < 300 then (FX10_advance_s_30  a1 (FX3_nextInstruction_s a1 h) ((FX3_go_s a1 h).1) ((FX3_go_s a1 h).2)) else ((0, h))) else ((0, h))
def PX10_advance_s (a1 : Int32) (h : ph_H) : Prop := ((h 35 14) = 0 → (((h 35 11) < 300 → ((PX3_nextInstruction_s a1 h) ∧ ((PX3_go_s a1 h) ∧ (PX10_advance_s_30  a1 (FX3_nextInstruction_s a1 h) ((FX3_go_s a1 h).1) ((FX3_go_s a1 h).2))))) ∧ (¬ (h 35 11) < 300 → (True)))) ∧ (¬ (h 35 14) = 0 → (True))
set_option maxRecDepth 100000 in
set_option maxHeartbeats 4000000 in
theorem tX10_advance_s {X : fj_X} {Y : fj_Y} {l0 : Launch} {ad : Nat → Nat} {n : Nat} {S : ph_S} {pr : Nat} (W : WS pr n S) (C : FC X Y l0 cX10_advance 5 RX10 ({ frames := 4, cells := 0, slots := 0, locals := 98 } : Room) 0 0 (some .boolean)) (a1 : Int32) (h : ph_H) (hP : PX10_advance_s a1 h) (hR : RETz X Y ad n S cX10_advance (FX10_advance_s a1 h)) : FJ X Y ad n S h 0 [(0, .ref (ad 35)), (1, .ref (ad 15)), (2, .int a1)] [] := by
  unfold PX10_advance_s at hP
  unfold FX10_advance_s at hR
  refine j_aload_n C dX10_advance_0 rfl rfl ?_
  refine gCRX10_52 (v := (h 35 14)) C dX10_advance_1 (W.lt 35 (by decide)) (sh_35 W) rfl rfl ?_
  refine j_if_ne (tgt := 17) C dX10_advance_4 (by decide) (fun c0 => ?_) (fun c0 => ?_)
  · have hP := hP.2 c0
    rw [if_neg c0] at hR
    refine j_iconst (v := 0) C dX10_advance_17 (by decide) ?_
    exact RETz_u hR bo_0 _ _ dX10_advance_18
  · have hP := hP.1 c0
    rw [if_pos c0] at hR
    refine j_aload_n C dX10_advance_7 rfl rfl ?_
    refine gCRX10_45 (v := (h 35 11)) C dX10_advance_8 (W.lt 35 (by decide)) (sh_35 W) rfl rfl ?_
    refine j_sipush (v := 300) C dX10_advance_11 (by decide) ?_
    refine j_icmp_lt (tgt := 19) C dX10_advance_14 (by decide) (fun c1 => ?_) (fun c1 => ?_)
    · have hP := hP.1 c1
      rw [if_pos c1] at hR
      refine j_aload_n C dX10_advance_19 rfl rfl ?_
      refine j_iload_n C dX10_advance_20 rfl rfl ?_
      obtain ⟨p2, hP⟩ := hP
      refine j_callV C (MX3_nextInstruction_s W a1 h p2) dX10_advance_21 (CKX3_nextInstruction (by decide)) ⟨rfl, rfl⟩ lk_RX10_109 in_X3_nextInstruction se_X3_nextInstruction (W.lt 15 (by decide)) (sh_15 W) rfl rfl (Nat.le_of_ble_eq_true rfl) ?_
      intro r S' h' hq
      obtain ⟨e1, hh, e3⟩ := hq
      rw [e1, hh, e3]
      refine j_istore_n C dX10_advance_24 rfl (by decide) rfl ?_
      refine j_aload_n C dX10_advance_25 rfl rfl ?_
      refine j_iload_n C dX10_advance_26 rfl rfl ?_
      obtain ⟨p10, hP⟩ := hP
      refine j_callV C (MX3_go_s W a1 h p10) dX10_advance_27 (CKX3_go (by decide)) ⟨rfl, rfl⟩ lk_RX10_112 in_X3_go se_X3_go (W.lt 15 (by decide)) (sh_15 W) rfl rfl (Nat.le_of_ble_eq_true rfl) ?_
      intro r S' h' hq
      obtain ⟨e1, e2, e3⟩ := hq
      rw [e1, e2, e3]
      exact j_vl (tX10_advance_s_30 W C  a1 (FX3_nextInstruction_s a1 h) ((FX3_go_s a1 h).1) ((FX3_go_s a1 h).2) hP hR) ⟨rfl, rfl, rfl, rfl, trivial⟩
    · have hP := hP.2 c1
      rw [if_neg c1] at hR
      refine j_iconst (v := 0) C dX10_advance_17 (by decide) ?_
      exact RETz_u hR bo_0 _ _ dX10_advance_18
theorem MX10_advance_s {l0 : Launch} {Y : fj_Y} {ad : Nat → Nat} {n : Nat} {S : ph_S} {pr : Nat} (W : WS pr n S) (a1 : Int32) (h : ph_H) (hP : PX10_advance_s a1 h) : MI l0 yX10_advance cX10_advance 5 (some .boolean) ({ frames := 4, cells := 0, slots := 0, locals := 98 } : Room) Y ad n S h [.ref (ad 35), .ref (ad 15), .int a1] (fun r S' h' => S' = S ∧ h' = (FX10_advance_s a1 h).2 ∧ r = (FX10_advance_s a1 h).1 ∧ bo r) := met_i (by decide) (Nat.le_of_ble_eq_true rfl) (fun _ _ _ q => bo_n q.2.2.2) (fun X C K => j_vl (tX10_advance_s W C a1 h hP (fun b pc lv hd => K _ _ _ ⟨rfl, rfl, rfl, b⟩ pc lv hd)) ⟨rfl, rfl, rfl, trivial⟩)

-- X3_whoGoes_s
def FX3_whoGoes_s_21  : Nat → Int32 → ph_H → Int32
  | 0, _, _ => 0
  | q + 1, x2, h => if 4 ≤ x2 then ((-1)) else (if (FX3_canGo_s x2 h) = 0 then (FX3_whoGoes_s_21  q (x2 + 1) h) else (x2))
def PX3_whoGoes_s_21  : Nat → Int32 → ph_H → Prop
  | 0, _, _ => False
  | q + 1, x2, h => (4 ≤ x2 → (True)) ∧ (¬ 4 ≤ x2 → ((PX3_canGo_s x2 h) ∧ (((FX3_canGo_s x2 h) = 0 → (PX3_whoGoes_s_21  q (x2 + 1) h)) ∧ (¬ (FX3_canGo_s x2 h) = 0 → (True)))))
set_option maxRecDepth 100000 in
set_option maxHeartbeats 4000000 in
theorem tX3_whoGoes_s_21 {X : fj_X} {Y : fj_Y} {l0 : Launch} {ad : Nat → Nat} {n : Nat} {S : ph_S} {pr : Nat} (W : WS pr n S) (C : FC X Y l0 cX3_whoGoes 3 RX3 ({ frames := 3, cells := 0, slots := 0, locals := 66 } : Room) 0 0 (some .int)) (h : ph_H) : ∀ (q : Nat) (x2 : Int32), PX3_whoGoes_s_21  q x2 h → RETp X Y ad n S h cX3_whoGoes (FX3_whoGoes_s_21  q x2 h) → FJ X Y ad n S h 21 [(0, .ref (ad 15)), (2, .int x2)] [] := by
  intro q
  induction q with
  | zero =>
    intro x2 hP hR
    exact absurd hP id
  | succ q ih =>
    intro x2 hP hR
    unfold PX3_whoGoes_s_21 at hP
    unfold FX3_whoGoes_s_21 at hR
    refine j_iload_n C dX3_whoGoes_21 rfl rfl ?_
    refine j_iconst (v := 4) C dX3_whoGoes_22 (by decide) ?_
    refine j_icmp_ge (tgt := 42) C dX3_whoGoes_23 (by decide) (fun c0 => ?_) (fun c0 => ?_)
    · have hP := hP.1 c0
      rw [if_pos c0] at hR
      refine j_iconst (v := (-1)) C dX3_whoGoes_42 (by decide) ?_
      exact hR _ _ dX3_whoGoes_43
    · have hP := hP.2 c0
      rw [if_neg c0] at hR
      refine j_aload_n C dX3_whoGoes_26 rfl rfl ?_
      refine j_iload_n C dX3_whoGoes_27 rfl rfl ?_
      obtain ⟨p2, hP⟩ := hP
      refine j_callV C (MX3_canGo_s W x2 h p2) dX3_whoGoes_28 (CKX3_canGo (by decide)) ⟨rfl, rfl⟩ lk_RX3_92 in_X3_canGo se_X3_canGo (W.lt 15 (by decide)) (sh_15 W) rfl rfl (Nat.le_of_ble_eq_true rfl) ?_
      intro r S' h' hq
      obtain ⟨e1, hh, e3, hb4⟩ := hq
      rw [e1, hh, e3]
      refine j_if_eq (tgt := 36) C dX3_whoGoes_31 (by decide) (fun c1 => ?_) (fun c1 => ?_)
      · have hP := hP.1 c1
        rw [if_pos c1] at hR
        refine j_iinc (v := (x2 + 1)) C dX3_whoGoes_36 rfl rfl (by decide) rfl ?_
        refine j_goto (tgt := 21) C dX3_whoGoes_39 (by decide) ?_
        exact j_vl (ih (x2 + 1) hP hR) ⟨rfl, rfl, trivial⟩
      · have hP := hP.2 c1
        rw [if_neg c1] at hR
        refine j_iload_n C dX3_whoGoes_34 rfl rfl ?_
        exact hR _ _ dX3_whoGoes_35
def FX3_whoGoes_s_19  (h : ph_H) : Int32 := FX3_whoGoes_s_21 2000 0 h
def PX3_whoGoes_s_19  (h : ph_H) : Prop := PX3_whoGoes_s_21 2000 0 h
set_option maxRecDepth 100000 in
set_option maxHeartbeats 4000000 in
theorem tX3_whoGoes_s_19 {X : fj_X} {Y : fj_Y} {l0 : Launch} {ad : Nat → Nat} {n : Nat} {S : ph_S} {pr : Nat} (W : WS pr n S) (C : FC X Y l0 cX3_whoGoes 3 RX3 ({ frames := 3, cells := 0, slots := 0, locals := 66 } : Room) 0 0 (some .int)) (h : ph_H)  (hP : PX3_whoGoes_s_19  h) (hR : RETp X Y ad n S h cX3_whoGoes (FX3_whoGoes_s_19  h)) : FJ X Y ad n S h 19 [(0, .ref (ad 15))] [] := by
  unfold PX3_whoGoes_s_19 at hP
  unfold FX3_whoGoes_s_19 at hR
  refine j_iconst (v := 0) C dX3_whoGoes_19 (by decide) ?_
  refine j_istore_n C dX3_whoGoes_20 rfl (by decide) rfl ?_
  exact j_vl (tX3_whoGoes_s_21 W C h 2000 0 hP hR) ⟨rfl, rfl, trivial⟩
def FX3_whoGoes_s (a0 : Int32) (h : ph_H) : Int32 := if a0 < 0 then (FX3_whoGoes_s_19  h) else (if 4 ≤ a0 then (FX3_whoGoes_s_19  h) else (if (FX3_canGo_s a0 h) = 0 then (FX3_whoGoes_s_19  h) else (a0)))
def PX3_whoGoes_s (a0 : Int32) (h : ph_H) : Prop := (a0 < 0 → (PX3_whoGoes_s_19  h)) ∧ (¬ a0 < 0 → ((4 ≤ a0 → (PX3_whoGoes_s_19  h)) ∧ (¬ 4 ≤ a0 → ((PX3_canGo_s a0 h) ∧ (((FX3_canGo_s a0 h) = 0 → (PX3_whoGoes_s_19  h)) ∧ (¬ (FX3_canGo_s a0 h) = 0 → (True)))))))
set_option maxRecDepth 100000 in
set_option maxHeartbeats 4000000 in
theorem tX3_whoGoes_s {X : fj_X} {Y : fj_Y} {l0 : Launch} {ad : Nat → Nat} {n : Nat} {S : ph_S} {pr : Nat} (W : WS pr n S) (C : FC X Y l0 cX3_whoGoes 3 RX3 ({ frames := 3, cells := 0, slots := 0, locals := 66 } : Room) 0 0 (some .int)) (a0 : Int32) (h : ph_H) (hP : PX3_whoGoes_s a0 h) (hR : RETp X Y ad n S h cX3_whoGoes (FX3_whoGoes_s a0 h)) : FJ X Y ad n S h 0 [(0, .ref (ad 15)), (1, .int a0)] [] := by
  unfold PX3_whoGoes_s at hP
  unfold FX3_whoGoes_s at hR
  refine j_iload_n C dX3_whoGoes_0 rfl rfl ?_
  refine j_if_lt (tgt := 19) C dX3_whoGoes_1 (by decide) (fun c0 => ?_) (fun c0 => ?_)
  · have hP := hP.1 c0
    rw [if_pos c0] at hR
    exact j_vl (tX3_whoGoes_s_19 W C h  hP hR) ⟨rfl, trivial⟩
  · have hP := hP.2 c0
    rw [if_neg c0] at hR
    refine j_iload_n C dX3_whoGoes_4 rfl rfl ?_
    refine j_iconst (v := 4) C dX3_whoGoes_5 (by decide) ?_
    refine j_icmp_ge (tgt := 19) C dX3_whoGoes_6 (by decide) (fun c1 => ?_) (fun c1 => ?_)
    · have hP := hP.1 c1
      rw [if_pos c1] at hR
      exact j_vl (tX3_whoGoes_s_19 W C h  hP hR) ⟨rfl, trivial⟩
    · have hP := hP.2 c1
      rw [if_neg c1] at hR
      refine j_aload_n C dX3_whoGoes_9 rfl rfl ?_
      refine j_iload_n C dX3_whoGoes_10 rfl rfl ?_
      obtain ⟨p2, hP⟩ := hP
      refine j_callV C (MX3_canGo_s W a0 h p2) dX3_whoGoes_11 (CKX3_canGo (by decide)) ⟨rfl, rfl⟩ lk_RX3_92 in_X3_canGo se_X3_canGo (W.lt 15 (by decide)) (sh_15 W) rfl rfl (Nat.le_of_ble_eq_true rfl) ?_
      intro r S' h' hq
      obtain ⟨e1, hh, e3, hb4⟩ := hq
      rw [e1, hh, e3]
      refine j_if_eq (tgt := 19) C dX3_whoGoes_14 (by decide) (fun c2 => ?_) (fun c2 => ?_)
      · have hP := hP.1 c2
        rw [if_pos c2] at hR
        exact j_vl (tX3_whoGoes_s_19 W C h  hP hR) ⟨rfl, trivial⟩
      · have hP := hP.2 c2
        rw [if_neg c2] at hR
        refine j_iload_n C dX3_whoGoes_17 rfl rfl ?_
        exact hR _ _ dX3_whoGoes_18
theorem MX3_whoGoes_s {l0 : Launch} {Y : fj_Y} {ad : Nat → Nat} {n : Nat} {S : ph_S} {pr : Nat} (W : WS pr n S) (a0 : Int32) (h : ph_H) (hP : PX3_whoGoes_s a0 h) : MI l0 yX3_whoGoes cX3_whoGoes 3 (some .int) ({ frames := 3, cells := 0, slots := 0, locals := 66 } : Room) Y ad n S h [.ref (ad 15), .int a0] (fun r S' h' => S' = S ∧ h' = h ∧ r = FX3_whoGoes_s a0 h) := met_i (by decide) (Nat.le_of_ble_eq_true rfl) (fun _ _ _ _ => rfl) (fun X C K => j_vl (tX3_whoGoes_s W C a0 h hP (fun pc lv hd => K _ _ _ ⟨rfl, rfl, rfl⟩ pc lv hd)) ⟨rfl, rfl, trivial⟩)

-- X10_goOn_s
def FX10_goOn_s_45 (L4 : Int32 → Int32 → ph_H → ph_H) (x3 : Int32) (s0 : Int32) (h : ph_H) : ph_H := L4 s0 (x3 + 1) h
def PX10_goOn_s_45 (LP4 : Int32 → Int32 → ph_H → Prop) (x3 : Int32) (s0 : Int32) (h : ph_H) : Prop := LP4 s0 (x3 + 1) h
set_option maxRecDepth 100000 in
set_option maxHeartbeats 4000000 in
theorem tX10_goOn_s_45 {X : fj_X} {Y : fj_Y} {l0 : Launch} {ad : Nat → Nat} {n : Nat} {S : ph_S} {pr : Nat} (W : WS pr n S) (C : FC X Y l0 cX10_goOn 5 RX10 ({ frames := 5, cells := 0, slots := 0, locals := 122 } : Room) 0 0 none) (L4 : Int32 → Int32 → ph_H → ph_H) (LP4 : Int32 → Int32 → ph_H → Prop) (hL4 : ∀ (x2 : Int32) (x3 : Int32) (h : ph_H), LP4 x2 x3 h → RETv X Y ad n S cX10_goOn (L4 x2 x3 h) → FJ X Y ad n S h 4 [(0, .ref (ad 35)), (1, .ref (ad 15)), (2, .int x2), (3, .int x3)] []) (x3 : Int32) (s0 : Int32) (h : ph_H) (hP : PX10_goOn_s_45 LP4 x3 s0 h) (hR : RETv X Y ad n S cX10_goOn (FX10_goOn_s_45 L4 x3 s0 h)) : FJ X Y ad n S h 45 [(0, .ref (ad 35)), (1, .ref (ad 15)), (3, .int x3)] [.int s0] := by
  unfold PX10_goOn_s_45 at hP
  unfold FX10_goOn_s_45 at hR
  refine j_istore_n C dX10_goOn_45 rfl (by decide) rfl ?_
  refine j_iinc (v := (x3 + 1)) C dX10_goOn_46 rfl rfl (by decide) rfl ?_
  refine j_goto (tgt := 4) C dX10_goOn_49 (by decide) ?_
  exact j_vl (hL4 s0 (x3 + 1) h hP hR) ⟨rfl, rfl, rfl, rfl, trivial⟩
def FX10_goOn_s_44 (L4 : Int32 → Int32 → ph_H → ph_H) (x3 : Int32) (h : ph_H) : ph_H := FX10_goOn_s_45 L4 x3 0 h
def PX10_goOn_s_44 (LP4 : Int32 → Int32 → ph_H → Prop) (x3 : Int32) (h : ph_H) : Prop := PX10_goOn_s_45 LP4 x3 0 h
set_option maxRecDepth 100000 in
set_option maxHeartbeats 4000000 in
theorem tX10_goOn_s_44 {X : fj_X} {Y : fj_Y} {l0 : Launch} {ad : Nat → Nat} {n : Nat} {S : ph_S} {pr : Nat} (W : WS pr n S) (C : FC X Y l0 cX10_goOn 5 RX10 ({ frames := 5, cells := 0, slots := 0, locals := 122 } : Room) 0 0 none) (L4 : Int32 → Int32 → ph_H → ph_H) (LP4 : Int32 → Int32 → ph_H → Prop) (hL4 : ∀ (x2 : Int32) (x3 : Int32) (h : ph_H), LP4 x2 x3 h → RETv X Y ad n S cX10_goOn (L4 x2 x3 h) → FJ X Y ad n S h 4 [(0, .ref (ad 35)), (1, .ref (ad 15)), (2, .int x2), (3, .int x3)] []) (x3 : Int32) (h : ph_H) (hP : PX10_goOn_s_44 LP4 x3 h) (hR : RETv X Y ad n S cX10_goOn (FX10_goOn_s_44 L4 x3 h)) : FJ X Y ad n S h 44 [(0, .ref (ad 35)), (1, .ref (ad 15)), (3, .int x3)] [] := by
  unfold PX10_goOn_s_44 at hP
  unfold FX10_goOn_s_44 at hR
  refine j_iconst (v := 0) C dX10_goOn_44 (by decide) ?_
  exact j_vl (tX10_goOn_s_45 W C L4 LP4 hL4 x3 0 h hP hR) ⟨rfl, rfl, rfl, trivial⟩
def FX10_goOn_s_37 (L4 : Int32 → Int32 → ph_H → ph_H) (x3 : Int32) (s0 : Int32) (h : ph_H) : ph_H := if s0 = 0 then (FX10_goOn_s_44 L4 x3 h) else (FX10_goOn_s_45 L4 x3 1 h)
def PX10_goOn_s_37 (LP4 : Int32 → Int32 → ph_H → Prop) (x3 : Int32) (s0 : Int32) (h : ph_H) : Prop := (s0 = 0 → (PX10_goOn_s_44 LP4 x3 h)) ∧ (¬ s0 = 0 → (PX10_goOn_s_45 LP4 x3 1 h))
set_option maxRecDepth 100000 in
set_option maxHeartbeats 4000000 in
theorem tX10_goOn_s_37 {X : fj_X} {Y : fj_Y} {l0 : Launch} {ad : Nat → Nat} {n : Nat} {S : ph_S} {pr : Nat} (W : WS pr n S) (C : FC X Y l0 cX10_goOn 5 RX10 ({ frames := 5, cells := 0, slots := 0, locals := 122 } : Room) 0 0 none) (L4 : Int32 → Int32 → ph_H → ph_H) (LP4 : Int32 → Int32 → ph_H → Prop) (hL4 : ∀ (x2 : Int32) (x3 : Int32) (h : ph_H), LP4 x2 x3 h → RETv X Y ad n S cX10_goOn (L4 x2 x3 h) → FJ X Y ad n S h 4 [(0, .ref (ad 35)), (1, .ref (ad 15)), (2, .int x2), (3, .int x3)] []) (x3 : Int32) (s0 : Int32) (h : ph_H) (hP : PX10_goOn_s_37 LP4 x3 s0 h) (hR : RETv X Y ad n S cX10_goOn (FX10_goOn_s_37 L4 x3 s0 h)) : FJ X Y ad n S h 37 [(0, .ref (ad 35)), (1, .ref (ad 15)), (3, .int x3)] [.int s0] := by
  unfold PX10_goOn_s_37 at hP
  unfold FX10_goOn_s_37 at hR
  refine j_if_eq (tgt := 44) C dX10_goOn_37 (by decide) (fun c0 => ?_) (fun c0 => ?_)
  · have hP := hP.1 c0
    rw [if_pos c0] at hR
    exact j_vl (tX10_goOn_s_44 W C L4 LP4 hL4 x3 h hP hR) ⟨rfl, rfl, rfl, trivial⟩
  · have hP := hP.2 c0
    rw [if_neg c0] at hR
    refine j_iconst (v := 1) C dX10_goOn_40 (by decide) ?_
    refine j_goto (tgt := 45) C dX10_goOn_41 (by decide) ?_
    exact j_vl (tX10_goOn_s_45 W C L4 LP4 hL4 x3 1 h hP hR) ⟨rfl, rfl, rfl, trivial⟩
def FX10_goOn_s_4  : Nat → Int32 → Int32 → ph_H → ph_H
  | 0, _, _, h => h
  | q + 1, x2, x3, h => if 300 ≤ x3 then (h) else (if x2 = 0 then (h) else (if (FX3_whoGoes_s (FX10_latestThread h) h) < 0 then (FX10_goOn_s_44 (FX10_goOn_s_4  q) x3 h) else (FX10_goOn_s_37 (FX10_goOn_s_4  q) x3 ((FX10_advance_s (FX3_whoGoes_s (FX10_latestThread h) h) h).1) ((FX10_advance_s (FX3_whoGoes_s (FX10_latestThread h) h) h).2))))
def PX10_goOn_s_4  : Nat → Int32 → Int32 → ph_H → Prop
  | 0, _, _, _ => False
  | q + 1, x2, x3, h => (300 ≤ x3 → (True)) ∧ (¬ 300 ≤ x3 → ((x2 = 0 → (True)) ∧ (¬ x2 = 0 → ((PX10_latestThread h) ∧ ((PX3_whoGoes_s (FX10_latestThread h) h) ∧ (((FX3_whoGoes_s (FX10_latestThread h) h) < 0 → (PX10_goOn_s_44 (PX10_goOn_s_4  q) x3 h)) ∧ (¬ (FX3_whoGoes_s (FX10_latestThread h) h) < 0 → ((PX10_advance_s (FX3_whoGoes_s (FX10_latestThread h) h) h) ∧ (PX10_goOn_s_37 (PX10_goOn_s_4  q) x3 ((FX10_advance_s (FX3_whoGoes_s (FX10_latestThread h) h) h).1) ((FX10_advance_s (FX3_whoGoes_s (FX10_latestThread h) h) h).2))))))))))
set_option maxRecDepth 100000 in
set_option maxHeartbeats 4000000 in
theorem tX10_goOn_s_4 {X : fj_X} {Y : fj_Y} {l0 : Launch} {ad : Nat → Nat} {n : Nat} {S : ph_S} {pr : Nat} (W : WS pr n S) (C : FC X Y l0 cX10_goOn 5 RX10 ({ frames := 5, cells := 0, slots := 0, locals := 122 } : Room) 0 0 none) : ∀ (q : Nat) (x2 : Int32) (x3 : Int32) (h : ph_H), PX10_goOn_s_4  q x2 x3 h → RETv X Y ad n S cX10_goOn (FX10_goOn_s_4  q x2 x3 h) → FJ X Y ad n S h 4 [(0, .ref (ad 35)), (1, .ref (ad 15)), (2, .int x2), (3, .int x3)] [] := by
  intro q
  induction q with
  | zero =>
    intro x2 x3 h hP hR
    exact absurd hP id
  | succ q ih =>
    intro x2 x3 h hP hR
    unfold PX10_goOn_s_4 at hP
    unfold FX10_goOn_s_4 at hR
    refine j_iload_n C dX10_goOn_4 rfl rfl ?_
    refine j_sipush (v := 300) C dX10_goOn_5 (by decide) ?_
    refine j_icmp_ge (tgt := 52) C dX10_goOn_8 (by decide) (fun c0 => ?_) (fun c0 => ?_)
    · have hP := hP.1 c0
      rw [if_pos c0] at hR
      exact hR _ _ dX10_goOn_52
    · have hP := hP.2 c0
      rw [if_neg c0] at hR
      refine j_iload_n C dX10_goOn_11 rfl rfl ?_
      refine j_if_eq (tgt := 52) C dX10_goOn_12 (by decide) (fun c1 => ?_) (fun c1 => ?_)
      · have hP := hP.1 c1
        rw [if_pos c1] at hR
        exact hR _ _ dX10_goOn_52
      · have hP := hP.2 c1
        rw [if_neg c1] at hR
        refine j_aload_n C dX10_goOn_15 rfl rfl ?_
        refine j_aload_n C dX10_goOn_16 rfl rfl ?_
        obtain ⟨p2, hP⟩ := hP
        refine j_callV C (MX10_latestThread W h p2) dX10_goOn_17 (CKX10_latestThread (by decide)) ⟨rfl, rfl⟩ lk_RX10_101 in_X10_latestThread se_X10_latestThread (W.lt 35 (by decide)) (sh_35 W) rfl rfl (Nat.le_of_ble_eq_true rfl) ?_
        intro r S' h' hq
        obtain ⟨e1, hh, e3⟩ := hq
        rw [e1, hh, e3]
        obtain ⟨p7, hP⟩ := hP
        refine j_callV C (MX3_whoGoes_s W (FX10_latestThread h) h p7) dX10_goOn_20 (CKX3_whoGoes (by decide)) ⟨rfl, rfl⟩ lk_RX10_105 in_X3_whoGoes se_X3_whoGoes (W.lt 15 (by decide)) (sh_15 W) rfl rfl (Nat.le_of_ble_eq_true rfl) ?_
        intro r S' h' hq
        obtain ⟨e1, hh, e3⟩ := hq
        rw [e1, hh, e3]
        refine j_istore C dX10_goOn_23 (by decide) rfl ?_
        refine j_iload C dX10_goOn_25 rfl ?_
        refine j_if_lt (tgt := 44) C dX10_goOn_27 (by decide) (fun c2 => ?_) (fun c2 => ?_)
        · have hP := hP.1 c2
          rw [if_pos c2] at hR
          exact j_vl (tX10_goOn_s_44 W C (FX10_goOn_s_4  q) (PX10_goOn_s_4  q) (ih) x3 h hP hR) ⟨rfl, rfl, rfl, trivial⟩
        · have hP := hP.2 c2
          rw [if_neg c2] at hR
          refine j_aload_n C dX10_goOn_30 rfl rfl ?_
          refine j_aload_n C dX10_goOn_31 rfl rfl ?_
          refine j_iload C dX10_goOn_32 rfl ?_
          obtain ⟨p3, hP⟩ := hP
          refine j_callV C (MX10_advance_s W (FX3_whoGoes_s (FX10_latestThread h) h) h p3) dX10_goOn_34 (CKX10_advance (by decide)) ⟨rfl, rfl⟩ lk_RX10_97 in_X10_advance se_X10_advance (W.lt 35 (by decide)) (sh_35 W) rfl rfl (Nat.le_of_ble_eq_true rfl) ?_
          intro r S' h' hq
          obtain ⟨e1, e2, e3, hb5⟩ := hq
          rw [e1, e2, e3]
          exact j_vl (tX10_goOn_s_37 W C (FX10_goOn_s_4  q) (PX10_goOn_s_4  q) (ih) x3 ((FX10_advance_s (FX3_whoGoes_s (FX10_latestThread h) h) h).1) ((FX10_advance_s (FX3_whoGoes_s (FX10_latestThread h) h) h).2) hP hR) ⟨rfl, rfl, rfl, trivial⟩
def FX10_goOn_s (h : ph_H) : ph_H := FX10_goOn_s_4 2000 1 0 h
def PX10_goOn_s (h : ph_H) : Prop := PX10_goOn_s_4 2000 1 0 h
set_option maxRecDepth 100000 in
set_option maxHeartbeats 4000000 in
theorem tX10_goOn_s {X : fj_X} {Y : fj_Y} {l0 : Launch} {ad : Nat → Nat} {n : Nat} {S : ph_S} {pr : Nat} (W : WS pr n S) (C : FC X Y l0 cX10_goOn 5 RX10 ({ frames := 5, cells := 0, slots := 0, locals := 122 } : Room) 0 0 none) (h : ph_H) (hP : PX10_goOn_s h) (hR : RETv X Y ad n S cX10_goOn (FX10_goOn_s h)) : FJ X Y ad n S h 0 [(0, .ref (ad 35)), (1, .ref (ad 15))] [] := by
  unfold PX10_goOn_s at hP
  unfold FX10_goOn_s at hR
  refine j_iconst (v := 1) C dX10_goOn_0 (by decide) ?_
  refine j_istore_n C dX10_goOn_1 rfl (by decide) rfl ?_
  refine j_iconst (v := 0) C dX10_goOn_2 (by decide) ?_
  refine j_istore_n C dX10_goOn_3 rfl (by decide) rfl ?_
  exact j_vl (tX10_goOn_s_4 W C 2000 1 0 h hP hR) ⟨rfl, rfl, rfl, rfl, trivial⟩
theorem MX10_goOn_s {l0 : Launch} {Y : fj_Y} {ad : Nat → Nat} {n : Nat} {S : ph_S} {pr : Nat} (W : WS pr n S) (h : ph_H) (hP : PX10_goOn_s h) : MV l0 yX10_goOn cX10_goOn 5 ({ frames := 5, cells := 0, slots := 0, locals := 122 } : Room) Y ad n S h [.ref (ad 35), .ref (ad 15)] (fun S' h' => S' = S ∧ h' = FX10_goOn_s h) := met_v (by decide) (Nat.le_of_ble_eq_true rfl) (fun X C K => j_vl (tX10_goOn_s W C h hP (fun pc lv hd => K _ _ ⟨rfl, rfl⟩ pc lv hd)) ⟨rfl, rfl, trivial⟩)

-- X3_allStartedHaveEnded_s
def FX3_allStartedHaveEnded_s_26 (L2 : Int32 → ph_H → Int32) (x1 : Int32) (h : ph_H) : Int32 := L2 (x1 + 1) h
def PX3_allStartedHaveEnded_s_26 (LP2 : Int32 → ph_H → Prop) (x1 : Int32) (h : ph_H) : Prop := LP2 (x1 + 1) h
set_option maxRecDepth 100000 in
set_option maxHeartbeats 4000000 in
theorem tX3_allStartedHaveEnded_s_26 {X : fj_X} {Y : fj_Y} {l0 : Launch} {ad : Nat → Nat} {n : Nat} {S : ph_S} {pr : Nat} (W : WS pr n S) (C : FC X Y l0 cX3_allStartedHaveEnded 2 RX3 ({ frames := 2, cells := 0, slots := 0, locals := 43 } : Room) 0 0 (some .boolean)) (h : ph_H) (L2 : Int32 → ph_H → Int32) (LP2 : Int32 → ph_H → Prop) (hL2 : ∀ (x1 : Int32), LP2 x1 h → RETq X Y ad n S h cX3_allStartedHaveEnded (L2 x1 h) → FJ X Y ad n S h 2 [(0, .ref (ad 15)), (1, .int x1)] []) (x1 : Int32) (hP : PX3_allStartedHaveEnded_s_26 LP2 x1 h) (hR : RETq X Y ad n S h cX3_allStartedHaveEnded (FX3_allStartedHaveEnded_s_26 L2 x1 h)) : FJ X Y ad n S h 26 [(0, .ref (ad 15)), (1, .int x1)] [] := by
  unfold PX3_allStartedHaveEnded_s_26 at hP
  unfold FX3_allStartedHaveEnded_s_26 at hR
  refine j_iinc (v := (x1 + 1)) C dX3_allStartedHaveEnded_26 rfl rfl (by decide) rfl ?_
  refine j_goto (tgt := 2) C dX3_allStartedHaveEnded_29 (by decide) ?_
  exact j_vl (hL2 (x1 + 1) hP hR) ⟨rfl, rfl, trivial⟩
def FX3_allStartedHaveEnded_s_2  : Nat → Int32 → ph_H → Int32
  | 0, _, _ => 0
  | q + 1, x1, h => if 4 ≤ x1 then (1) else (if (h 19 (x1.toNatClampNeg)) = 0 then (FX3_allStartedHaveEnded_s_26 (FX3_allStartedHaveEnded_s_2  q) x1 h) else (if (FX3_hasEnded_s x1 h) = 0 then (0) else (FX3_allStartedHaveEnded_s_26 (FX3_allStartedHaveEnded_s_2  q) x1 h)))
def PX3_allStartedHaveEnded_s_2  : Nat → Int32 → ph_H → Prop
  | 0, _, _ => False
  | q + 1, x1, h => (4 ≤ x1 → (True)) ∧ (¬ 4 ≤ x1 → (vp_in x1 4 ∧ (((h 19 (x1.toNatClampNeg)) = 0 → (PX3_allStartedHaveEnded_s_26 (PX3_allStartedHaveEnded_s_2  q) x1 h)) ∧ (¬ (h 19 (x1.toNatClampNeg)) = 0 → ((PX3_hasEnded_s x1 h) ∧ (((FX3_hasEnded_s x1 h) = 0 → (True)) ∧ (¬ (FX3_hasEnded_s x1 h) = 0 → (PX3_allStartedHaveEnded_s_26 (PX3_allStartedHaveEnded_s_2  q) x1 h))))))))
set_option maxRecDepth 100000 in
set_option maxHeartbeats 4000000 in
theorem tX3_allStartedHaveEnded_s_2 {X : fj_X} {Y : fj_Y} {l0 : Launch} {ad : Nat → Nat} {n : Nat} {S : ph_S} {pr : Nat} (W : WS pr n S) (C : FC X Y l0 cX3_allStartedHaveEnded 2 RX3 ({ frames := 2, cells := 0, slots := 0, locals := 43 } : Room) 0 0 (some .boolean)) (h : ph_H) : ∀ (q : Nat) (x1 : Int32), PX3_allStartedHaveEnded_s_2  q x1 h → RETq X Y ad n S h cX3_allStartedHaveEnded (FX3_allStartedHaveEnded_s_2  q x1 h) → FJ X Y ad n S h 2 [(0, .ref (ad 15)), (1, .int x1)] [] := by
  intro q
  induction q with
  | zero =>
    intro x1 hP hR
    exact absurd hP id
  | succ q ih =>
    intro x1 hP hR
    unfold PX3_allStartedHaveEnded_s_2 at hP
    unfold FX3_allStartedHaveEnded_s_2 at hR
    refine j_iload_n C dX3_allStartedHaveEnded_2 rfl rfl ?_
    refine j_iconst (v := 4) C dX3_allStartedHaveEnded_3 (by decide) ?_
    refine j_icmp_ge (tgt := 32) C dX3_allStartedHaveEnded_4 (by decide) (fun c0 => ?_) (fun c0 => ?_)
    · have hP := hP.1 c0
      rw [if_pos c0] at hR
      refine j_iconst (v := 1) C dX3_allStartedHaveEnded_32 (by decide) ?_
      exact hR bo_1 _ _ dX3_allStartedHaveEnded_33
    · have hP := hP.2 c0
      rw [if_neg c0] at hR
      refine j_aload_n C dX3_allStartedHaveEnded_7 rfl rfl ?_
      refine gCRX3_21 C dX3_allStartedHaveEnded_8 (W.lt 15 (by decide)) (sh_15 W) rfl ?_
      refine j_iload_n C dX3_allStartedHaveEnded_11 rfl rfl ?_
      obtain ⟨p3, hP⟩ := hP
      refine j_iald (k := 19) (v := (h 19 (x1.toNatClampNeg))) C dX3_allStartedHaveEnded_12 (W.lt 19 (by decide)) (sh_19 W) p3 rfl ?_
      refine j_if_eq (tgt := 26) C dX3_allStartedHaveEnded_13 (by decide) (fun c1 => ?_) (fun c1 => ?_)
      · have hP := hP.1 c1
        rw [if_pos c1] at hR
        exact j_vl (tX3_allStartedHaveEnded_s_26 W C h (FX3_allStartedHaveEnded_s_2  q) (PX3_allStartedHaveEnded_s_2  q) (ih) x1 hP hR) ⟨rfl, rfl, trivial⟩
      · have hP := hP.2 c1
        rw [if_neg c1] at hR
        refine j_aload_n C dX3_allStartedHaveEnded_16 rfl rfl ?_
        refine j_iload_n C dX3_allStartedHaveEnded_17 rfl rfl ?_
        obtain ⟨p2, hP⟩ := hP
        refine j_callV C (MX3_hasEnded_s W x1 h p2) dX3_allStartedHaveEnded_18 (CKX3_hasEnded (by decide)) ⟨rfl, rfl⟩ lk_RX3_74 in_X3_hasEnded se_X3_hasEnded (W.lt 15 (by decide)) (sh_15 W) rfl rfl (Nat.le_of_ble_eq_true rfl) ?_
        intro r S' h' hq
        obtain ⟨e1, hh, e3, hb4⟩ := hq
        rw [e1, hh, e3]
        refine j_if_ne (tgt := 26) C dX3_allStartedHaveEnded_21 (by decide) (fun c2 => ?_) (fun c2 => ?_)
        · have hP := hP.2 c2
          rw [if_neg c2] at hR
          exact j_vl (tX3_allStartedHaveEnded_s_26 W C h (FX3_allStartedHaveEnded_s_2  q) (PX3_allStartedHaveEnded_s_2  q) (ih) x1 hP hR) ⟨rfl, rfl, trivial⟩
        · have hP := hP.1 c2
          rw [if_pos c2] at hR
          refine j_iconst (v := 0) C dX3_allStartedHaveEnded_24 (by decide) ?_
          exact hR bo_0 _ _ dX3_allStartedHaveEnded_25
def FX3_allStartedHaveEnded_s (h : ph_H) : Int32 := FX3_allStartedHaveEnded_s_2 2000 0 h
def PX3_allStartedHaveEnded_s (h : ph_H) : Prop := PX3_allStartedHaveEnded_s_2 2000 0 h
set_option maxRecDepth 100000 in
set_option maxHeartbeats 4000000 in
theorem tX3_allStartedHaveEnded_s {X : fj_X} {Y : fj_Y} {l0 : Launch} {ad : Nat → Nat} {n : Nat} {S : ph_S} {pr : Nat} (W : WS pr n S) (C : FC X Y l0 cX3_allStartedHaveEnded 2 RX3 ({ frames := 2, cells := 0, slots := 0, locals := 43 } : Room) 0 0 (some .boolean)) (h : ph_H) (hP : PX3_allStartedHaveEnded_s h) (hR : RETq X Y ad n S h cX3_allStartedHaveEnded (FX3_allStartedHaveEnded_s h)) : FJ X Y ad n S h 0 [(0, .ref (ad 15))] [] := by
  unfold PX3_allStartedHaveEnded_s at hP
  unfold FX3_allStartedHaveEnded_s at hR
  refine j_iconst (v := 0) C dX3_allStartedHaveEnded_0 (by decide) ?_
  refine j_istore_n C dX3_allStartedHaveEnded_1 rfl (by decide) rfl ?_
  exact j_vl (tX3_allStartedHaveEnded_s_2 W C h 2000 0 hP hR) ⟨rfl, rfl, trivial⟩
theorem MX3_allStartedHaveEnded_s {l0 : Launch} {Y : fj_Y} {ad : Nat → Nat} {n : Nat} {S : ph_S} {pr : Nat} (W : WS pr n S) (h : ph_H) (hP : PX3_allStartedHaveEnded_s h) : MI l0 yX3_allStartedHaveEnded cX3_allStartedHaveEnded 2 (some .boolean) ({ frames := 2, cells := 0, slots := 0, locals := 43 } : Room) Y ad n S h [.ref (ad 15)] (fun r S' h' => S' = S ∧ h' = h ∧ r = FX3_allStartedHaveEnded_s h ∧ bo r) := met_i (by decide) (Nat.le_of_ble_eq_true rfl) (fun _ _ _ q => bo_n q.2.2.2) (fun X C K => j_vl (tX3_allStartedHaveEnded_s W C h hP (fun b pc lv hd => K _ _ _ ⟨rfl, rfl, rfl, b⟩ pc lv hd)) ⟨rfl, trivial⟩)

-- X10_howOver_s
def FX10_howOver_s (h : ph_H) : Int32 := if (h 35 14) = 0 then (if (FX3_whoGoes_s 0 h) < 0 then (if (FX3_allStartedHaveEnded_s h) = 0 then (1) else (0)) else (3)) else (2)
def PX10_howOver_s (h : ph_H) : Prop := ((h 35 14) = 0 → ((PX3_whoGoes_s 0 h) ∧ (((FX3_whoGoes_s 0 h) < 0 → ((PX3_allStartedHaveEnded_s h) ∧ (((FX3_allStartedHaveEnded_s h) = 0 → (True)) ∧ (¬ (FX3_allStartedHaveEnded_s h) = 0 → (True))))) ∧ (¬ (FX3_whoGoes_s 0 h) < 0 → (True))))) ∧ (¬ (h 35 14) = 0 → (True))
set_option maxRecDepth 100000 in
set_option maxHeartbeats 4000000 in
theorem tX10_howOver_s {X : fj_X} {Y : fj_Y} {l0 : Launch} {ad : Nat → Nat} {n : Nat} {S : ph_S} {pr : Nat} (W : WS pr n S) (C : FC X Y l0 cX10_howOver 2 RX10 ({ frames := 4, cells := 0, slots := 0, locals := 88 } : Room) 0 0 (some .int)) (h : ph_H) (hP : PX10_howOver_s h) (hR : RETp X Y ad n S h cX10_howOver (FX10_howOver_s h)) : FJ X Y ad n S h 0 [(0, .ref (ad 35)), (1, .ref (ad 15))] [] := by
  unfold PX10_howOver_s at hP
  unfold FX10_howOver_s at hR
  refine j_aload_n C dX10_howOver_0 rfl rfl ?_
  refine gCRX10_52 (v := (h 35 14)) C dX10_howOver_1 (W.lt 35 (by decide)) (sh_35 W) rfl rfl ?_
  refine j_if_eq (tgt := 9) C dX10_howOver_4 (by decide) (fun c0 => ?_) (fun c0 => ?_)
  · have hP := hP.1 c0
    rw [if_pos c0] at hR
    refine j_aload_n C dX10_howOver_9 rfl rfl ?_
    refine j_iconst (v := 0) C dX10_howOver_10 (by decide) ?_
    obtain ⟨p2, hP⟩ := hP
    refine j_callV C (MX3_whoGoes_s W 0 h p2) dX10_howOver_11 (CKX3_whoGoes (by decide)) ⟨rfl, rfl⟩ lk_RX10_105 in_X3_whoGoes se_X3_whoGoes (W.lt 15 (by decide)) (sh_15 W) rfl rfl (Nat.le_of_ble_eq_true rfl) ?_
    intro r S' h' hq
    obtain ⟨e1, hh, e3⟩ := hq
    rw [e1, hh, e3]
    refine j_if_lt (tgt := 19) C dX10_howOver_14 (by decide) (fun c1 => ?_) (fun c1 => ?_)
    · have hP := hP.1 c1
      rw [if_pos c1] at hR
      refine j_aload_n C dX10_howOver_19 rfl rfl ?_
      obtain ⟨p1, hP⟩ := hP
      refine j_callV C (MX3_allStartedHaveEnded_s W h p1) dX10_howOver_20 (CKX3_allStartedHaveEnded (by decide)) ⟨rfl, rfl⟩ lk_RX10_143 in_X3_allStartedHaveEnded se_X3_allStartedHaveEnded (W.lt 15 (by decide)) (sh_15 W) rfl rfl (Nat.le_of_ble_eq_true rfl) ?_
      intro r S' h' hq
      obtain ⟨e1, hh, e3, hb3⟩ := hq
      rw [e1, hh, e3]
      refine j_if_eq (tgt := 30) C dX10_howOver_23 (by decide) (fun c2 => ?_) (fun c2 => ?_)
      · have hP := hP.1 c2
        rw [if_pos c2] at hR
        refine j_iconst (v := 1) C dX10_howOver_30 (by decide) ?_
        exact hR _ _ dX10_howOver_31
      · have hP := hP.2 c2
        rw [if_neg c2] at hR
        refine j_iconst (v := 0) C dX10_howOver_26 (by decide) ?_
        refine j_goto (tgt := 31) C dX10_howOver_27 (by decide) ?_
        exact hR _ _ dX10_howOver_31
    · have hP := hP.2 c1
      rw [if_neg c1] at hR
      refine j_iconst (v := 3) C dX10_howOver_17 (by decide) ?_
      exact hR _ _ dX10_howOver_18
  · have hP := hP.2 c0
    rw [if_neg c0] at hR
    refine j_iconst (v := 2) C dX10_howOver_7 (by decide) ?_
    exact hR _ _ dX10_howOver_8
theorem MX10_howOver_s {l0 : Launch} {Y : fj_Y} {ad : Nat → Nat} {n : Nat} {S : ph_S} {pr : Nat} (W : WS pr n S) (h : ph_H) (hP : PX10_howOver_s h) : MI l0 yX10_howOver cX10_howOver 2 (some .int) ({ frames := 4, cells := 0, slots := 0, locals := 88 } : Room) Y ad n S h [.ref (ad 35), .ref (ad 15)] (fun r S' h' => S' = S ∧ h' = h ∧ r = FX10_howOver_s h) := met_i (by decide) (Nat.le_of_ble_eq_true rfl) (fun _ _ _ _ => rfl) (fun X C K => j_vl (tX10_howOver_s W C h hP (fun pc lv hd => K _ _ _ ⟨rfl, rfl, rfl⟩ pc lv hd)) ⟨rfl, rfl, trivial⟩)

-- X10_takeTurns_st
def FX10_takeTurns_st_53 (L2 : Int32 → ph_H → ph_H) (L30 : Int32 → Int32 → Int32 → Int32 → ph_H → ph_H) (x3 : Int32) (x4 : Int32) (x6 : Int32) (s0 : Int32) (h : ph_H) : ph_H := L30 x3 x4 s0 (x6 + 1) h
def PX10_takeTurns_st_53 (LP2 : Int32 → ph_H → Prop) (LP30 : Int32 → Int32 → Int32 → Int32 → ph_H → Prop) (x3 : Int32) (x4 : Int32) (x6 : Int32) (s0 : Int32) (h : ph_H) : Prop := LP30 x3 x4 s0 (x6 + 1) h
set_option maxRecDepth 100000 in
set_option maxHeartbeats 4000000 in
theorem tX10_takeTurns_st_53 {X : fj_X} {Y : fj_Y} {l0 : Launch} {ad : Nat → Nat} {n : Nat} {S : ph_S} {pr : Nat} (W : WS pr n S) (C : FC X Y l0 cX10_takeTurns 7 RX10 ({ frames := 5, cells := 0, slots := 0, locals := 122 } : Room) 0 0 none) (L2 : Int32 → ph_H → ph_H) (LP2 : Int32 → ph_H → Prop) (hL2 : ∀ (x3 : Int32) (h : ph_H), LP2 x3 h → RETv X Y ad n S cX10_takeTurns (L2 x3 h) → FJ X Y ad n S h 2 [(0, .ref (ad 35)), (1, .ref (ad 15)), (2, .ref (ad 8)), (3, .int x3)] []) (L30 : Int32 → Int32 → Int32 → Int32 → ph_H → ph_H) (LP30 : Int32 → Int32 → Int32 → Int32 → ph_H → Prop) (hL30 : ∀ (x3 : Int32) (x4 : Int32) (x5 : Int32) (x6 : Int32) (h : ph_H), LP30 x3 x4 x5 x6 h → RETv X Y ad n S cX10_takeTurns (L30 x3 x4 x5 x6 h) → FJ X Y ad n S h 30 [(0, .ref (ad 35)), (1, .ref (ad 15)), (2, .ref (ad 8)), (3, .int x3), (4, .int x4), (5, .int x5), (6, .int x6)] []) (x3 : Int32) (x4 : Int32) (x6 : Int32) (s0 : Int32) (h : ph_H) (hP : PX10_takeTurns_st_53 LP2 LP30 x3 x4 x6 s0 h) (hR : RETv X Y ad n S cX10_takeTurns (FX10_takeTurns_st_53 L2 L30 x3 x4 x6 s0 h)) : FJ X Y ad n S h 53 [(0, .ref (ad 35)), (1, .ref (ad 15)), (2, .ref (ad 8)), (3, .int x3), (4, .int x4), (6, .int x6)] [.int s0] := by
  unfold PX10_takeTurns_st_53 at hP
  unfold FX10_takeTurns_st_53 at hR
  refine j_istore C dX10_takeTurns_53 (by decide) rfl ?_
  refine j_iinc (v := (x6 + 1)) C dX10_takeTurns_55 rfl rfl (by decide) rfl ?_
  refine j_goto (tgt := 30) C dX10_takeTurns_58 (by decide) ?_
  exact j_vl (hL30 x3 x4 s0 (x6 + 1) h hP hR) ⟨rfl, rfl, rfl, rfl, rfl, rfl, rfl, trivial⟩
def FX10_takeTurns_st_61 (L2 : Int32 → ph_H → ph_H) (x3 : Int32) (h : ph_H) : ph_H := L2 (x3 + 1) h
def PX10_takeTurns_st_61 (LP2 : Int32 → ph_H → Prop) (x3 : Int32) (h : ph_H) : Prop := LP2 (x3 + 1) h
set_option maxRecDepth 100000 in
set_option maxHeartbeats 4000000 in
theorem tX10_takeTurns_st_61 {X : fj_X} {Y : fj_Y} {l0 : Launch} {ad : Nat → Nat} {n : Nat} {S : ph_S} {pr : Nat} (W : WS pr n S) (C : FC X Y l0 cX10_takeTurns 7 RX10 ({ frames := 5, cells := 0, slots := 0, locals := 122 } : Room) 0 0 none) (L2 : Int32 → ph_H → ph_H) (LP2 : Int32 → ph_H → Prop) (hL2 : ∀ (x3 : Int32) (h : ph_H), LP2 x3 h → RETv X Y ad n S cX10_takeTurns (L2 x3 h) → FJ X Y ad n S h 2 [(0, .ref (ad 35)), (1, .ref (ad 15)), (2, .ref (ad 8)), (3, .int x3)] []) (x3 : Int32) (h : ph_H) (hP : PX10_takeTurns_st_61 LP2 x3 h) (hR : RETv X Y ad n S cX10_takeTurns (FX10_takeTurns_st_61 L2 x3 h)) : FJ X Y ad n S h 61 [(0, .ref (ad 35)), (1, .ref (ad 15)), (2, .ref (ad 8)), (3, .int x3)] [] := by
  unfold PX10_takeTurns_st_61 at hP
  unfold FX10_takeTurns_st_61 at hR
  refine j_iinc (v := (x3 + 1)) C dX10_takeTurns_61 rfl rfl (by decide) rfl ?_
  refine j_goto (tgt := 2) C dX10_takeTurns_64 (by decide) ?_
  exact j_vl (hL2 (x3 + 1) h hP hR) ⟨rfl, rfl, rfl, rfl, trivial⟩
def FX10_takeTurns_st_30 (L2 : Int32 → ph_H → ph_H) : Nat → Int32 → Int32 → Int32 → Int32 → ph_H → ph_H
  | 0, _, _, _, _, h => h
  | q + 1, x3, x4, x5, x6, h => if (h 14 (x3.toNatClampNeg)) ≤ x6 then (FX10_takeTurns_st_61 L2 x3 h) else (if x5 = 0 then (FX10_takeTurns_st_61 L2 x3 h) else (FX10_takeTurns_st_53 L2 (FX10_takeTurns_st_30 L2 q) x3 x4 x6 ((FX10_advance_s x4 h).1) ((FX10_advance_s x4 h).2)))
def PX10_takeTurns_st_30 (LP2 : Int32 → ph_H → Prop) : Nat → Int32 → Int32 → Int32 → Int32 → ph_H → Prop
  | 0, _, _, _, _, _ => False
  | q + 1, x3, x4, x5, x6, h => vp_in x3 40 ∧ (((h 14 (x3.toNatClampNeg)) ≤ x6 → (PX10_takeTurns_st_61 LP2 x3 h)) ∧ (¬ (h 14 (x3.toNatClampNeg)) ≤ x6 → ((x5 = 0 → (PX10_takeTurns_st_61 LP2 x3 h)) ∧ (¬ x5 = 0 → ((PX10_advance_s x4 h) ∧ (PX10_takeTurns_st_53 LP2 (PX10_takeTurns_st_30 LP2 q) x3 x4 x6 ((FX10_advance_s x4 h).1) ((FX10_advance_s x4 h).2)))))))
set_option maxRecDepth 100000 in
set_option maxHeartbeats 4000000 in
theorem tX10_takeTurns_st_30 {X : fj_X} {Y : fj_Y} {l0 : Launch} {ad : Nat → Nat} {n : Nat} {S : ph_S} {pr : Nat} (W : WS pr n S) (C : FC X Y l0 cX10_takeTurns 7 RX10 ({ frames := 5, cells := 0, slots := 0, locals := 122 } : Room) 0 0 none) (L2 : Int32 → ph_H → ph_H) (LP2 : Int32 → ph_H → Prop) (hL2 : ∀ (x3 : Int32) (h : ph_H), LP2 x3 h → RETv X Y ad n S cX10_takeTurns (L2 x3 h) → FJ X Y ad n S h 2 [(0, .ref (ad 35)), (1, .ref (ad 15)), (2, .ref (ad 8)), (3, .int x3)] []) : ∀ (q : Nat) (x3 : Int32) (x4 : Int32) (x5 : Int32) (x6 : Int32) (h : ph_H), PX10_takeTurns_st_30 LP2 q x3 x4 x5 x6 h → RETv X Y ad n S cX10_takeTurns (FX10_takeTurns_st_30 L2 q x3 x4 x5 x6 h) → FJ X Y ad n S h 30 [(0, .ref (ad 35)), (1, .ref (ad 15)), (2, .ref (ad 8)), (3, .int x3), (4, .int x4), (5, .int x5), (6, .int x6)] [] := by
  intro q
  induction q with
  | zero =>
    intro x3 x4 x5 x6 h hP hR
    exact absurd hP id
  | succ q ih =>
    intro x3 x4 x5 x6 h hP hR
    unfold PX10_takeTurns_st_30 at hP
    unfold FX10_takeTurns_st_30 at hR
    refine j_iload C dX10_takeTurns_30 rfl ?_
    refine j_aload_n C dX10_takeTurns_32 rfl rfl ?_
    refine gCRX10_94 C dX10_takeTurns_33 (W.lt 8 (by decide)) (sh_8 W) rfl ?_
    refine j_iload_n C dX10_takeTurns_36 rfl rfl ?_
    obtain ⟨p4, hP⟩ := hP
    refine j_iald (k := 14) (v := (h 14 (x3.toNatClampNeg))) C dX10_takeTurns_37 (W.lt 14 (by decide)) (sh_14 W) p4 rfl ?_
    refine j_icmp_ge (tgt := 61) C dX10_takeTurns_38 (by decide) (fun c0 => ?_) (fun c0 => ?_)
    · have hP := hP.1 c0
      rw [if_pos c0] at hR
      exact j_vl (tX10_takeTurns_st_61 W C L2 LP2 hL2 x3 h hP hR) ⟨rfl, rfl, rfl, rfl, trivial⟩
    · have hP := hP.2 c0
      rw [if_neg c0] at hR
      refine j_iload C dX10_takeTurns_41 rfl ?_
      refine j_if_eq (tgt := 61) C dX10_takeTurns_43 (by decide) (fun c1 => ?_) (fun c1 => ?_)
      · have hP := hP.1 c1
        rw [if_pos c1] at hR
        exact j_vl (tX10_takeTurns_st_61 W C L2 LP2 hL2 x3 h hP hR) ⟨rfl, rfl, rfl, rfl, trivial⟩
      · have hP := hP.2 c1
        rw [if_neg c1] at hR
        refine j_aload_n C dX10_takeTurns_46 rfl rfl ?_
        refine j_aload_n C dX10_takeTurns_47 rfl rfl ?_
        refine j_iload C dX10_takeTurns_48 rfl ?_
        obtain ⟨p3, hP⟩ := hP
        refine j_callV C (MX10_advance_s W x4 h p3) dX10_takeTurns_50 (CKX10_advance (by decide)) ⟨rfl, rfl⟩ lk_RX10_97 in_X10_advance se_X10_advance (W.lt 35 (by decide)) (sh_35 W) rfl rfl (Nat.le_of_ble_eq_true rfl) ?_
        intro r S' h' hq
        obtain ⟨e1, e2, e3, hb5⟩ := hq
        rw [e1, e2, e3]
        exact j_vl (tX10_takeTurns_st_53 W C L2 LP2 hL2 (FX10_takeTurns_st_30 L2 q) (PX10_takeTurns_st_30 LP2 q) (ih) x3 x4 x6 ((FX10_advance_s x4 h).1) ((FX10_advance_s x4 h).2) hP hR) ⟨rfl, rfl, rfl, rfl, rfl, rfl, trivial⟩
def FX10_takeTurns_st_2  : Nat → Int32 → ph_H → ph_H
  | 0, _, h => h
  | q + 1, x3, h => if (h 8 7) ≤ x3 then (h) else (if 40 ≤ x3 then (h) else (FX10_takeTurns_st_30 (FX10_takeTurns_st_2  q) 2000 x3 (h 13 (x3.toNatClampNeg)) 1 0 h))
def PX10_takeTurns_st_2  : Nat → Int32 → ph_H → Prop
  | 0, _, _ => False
  | q + 1, x3, h => ((h 8 7) ≤ x3 → (True)) ∧ (¬ (h 8 7) ≤ x3 → ((40 ≤ x3 → (True)) ∧ (¬ 40 ≤ x3 → (vp_in x3 40 ∧ (PX10_takeTurns_st_30 (PX10_takeTurns_st_2  q) 2000 x3 (h 13 (x3.toNatClampNeg)) 1 0 h)))))
set_option maxRecDepth 100000 in
set_option maxHeartbeats 4000000 in
theorem tX10_takeTurns_st_2 {X : fj_X} {Y : fj_Y} {l0 : Launch} {ad : Nat → Nat} {n : Nat} {S : ph_S} {pr : Nat} (W : WS pr n S) (C : FC X Y l0 cX10_takeTurns 7 RX10 ({ frames := 5, cells := 0, slots := 0, locals := 122 } : Room) 0 0 none) : ∀ (q : Nat) (x3 : Int32) (h : ph_H), PX10_takeTurns_st_2  q x3 h → RETv X Y ad n S cX10_takeTurns (FX10_takeTurns_st_2  q x3 h) → FJ X Y ad n S h 2 [(0, .ref (ad 35)), (1, .ref (ad 15)), (2, .ref (ad 8)), (3, .int x3)] [] := by
  intro q
  induction q with
  | zero =>
    intro x3 h hP hR
    exact absurd hP id
  | succ q ih =>
    intro x3 h hP hR
    unfold PX10_takeTurns_st_2 at hP
    unfold FX10_takeTurns_st_2 at hR
    refine j_iload_n C dX10_takeTurns_2 rfl rfl ?_
    refine j_aload_n C dX10_takeTurns_3 rfl rfl ?_
    refine gCRX10_86 (v := (h 8 7)) C dX10_takeTurns_4 (W.lt 8 (by decide)) (sh_8 W) rfl rfl ?_
    refine j_icmp_ge (tgt := 67) C dX10_takeTurns_7 (by decide) (fun c0 => ?_) (fun c0 => ?_)
    · have hP := hP.1 c0
      rw [if_pos c0] at hR
      exact hR _ _ dX10_takeTurns_67
    · have hP := hP.2 c0
      rw [if_neg c0] at hR
      refine j_iload_n C dX10_takeTurns_10 rfl rfl ?_
      refine j_bipush (v := 40) C dX10_takeTurns_11 (by decide) ?_
      refine j_icmp_ge (tgt := 67) C dX10_takeTurns_13 (by decide) (fun c1 => ?_) (fun c1 => ?_)
      · have hP := hP.1 c1
        rw [if_pos c1] at hR
        exact hR _ _ dX10_takeTurns_67
      · have hP := hP.2 c1
        rw [if_neg c1] at hR
        refine j_aload_n C dX10_takeTurns_16 rfl rfl ?_
        refine gCRX10_91 C dX10_takeTurns_17 (W.lt 8 (by decide)) (sh_8 W) rfl ?_
        refine j_iload_n C dX10_takeTurns_20 rfl rfl ?_
        obtain ⟨p3, hP⟩ := hP
        refine j_iald (k := 13) (v := (h 13 (x3.toNatClampNeg))) C dX10_takeTurns_21 (W.lt 13 (by decide)) (sh_13 W) p3 rfl ?_
        refine j_istore C dX10_takeTurns_22 (by decide) rfl ?_
        refine j_iconst (v := 1) C dX10_takeTurns_24 (by decide) ?_
        refine j_istore C dX10_takeTurns_25 (by decide) rfl ?_
        refine j_iconst (v := 0) C dX10_takeTurns_27 (by decide) ?_
        refine j_istore C dX10_takeTurns_28 (by decide) rfl ?_
        exact j_vl (tX10_takeTurns_st_30 W C (FX10_takeTurns_st_2  q) (PX10_takeTurns_st_2  q) (ih) 2000 x3 (h 13 (x3.toNatClampNeg)) 1 0 h hP hR) ⟨rfl, rfl, rfl, rfl, rfl, rfl, rfl, trivial⟩
def FX10_takeTurns_st (h : ph_H) : ph_H := FX10_takeTurns_st_2 2000 0 h
def PX10_takeTurns_st (h : ph_H) : Prop := PX10_takeTurns_st_2 2000 0 h
set_option maxRecDepth 100000 in
set_option maxHeartbeats 4000000 in
theorem tX10_takeTurns_st {X : fj_X} {Y : fj_Y} {l0 : Launch} {ad : Nat → Nat} {n : Nat} {S : ph_S} {pr : Nat} (W : WS pr n S) (C : FC X Y l0 cX10_takeTurns 7 RX10 ({ frames := 5, cells := 0, slots := 0, locals := 122 } : Room) 0 0 none) (h : ph_H) (hP : PX10_takeTurns_st h) (hR : RETv X Y ad n S cX10_takeTurns (FX10_takeTurns_st h)) : FJ X Y ad n S h 0 [(0, .ref (ad 35)), (1, .ref (ad 15)), (2, .ref (ad 8))] [] := by
  unfold PX10_takeTurns_st at hP
  unfold FX10_takeTurns_st at hR
  refine j_iconst (v := 0) C dX10_takeTurns_0 (by decide) ?_
  refine j_istore_n C dX10_takeTurns_1 rfl (by decide) rfl ?_
  exact j_vl (tX10_takeTurns_st_2 W C 2000 0 h hP hR) ⟨rfl, rfl, rfl, rfl, trivial⟩
theorem MX10_takeTurns_st {l0 : Launch} {Y : fj_Y} {ad : Nat → Nat} {n : Nat} {S : ph_S} {pr : Nat} (W : WS pr n S) (h : ph_H) (hP : PX10_takeTurns_st h) : MV l0 yX10_takeTurns cX10_takeTurns 7 ({ frames := 5, cells := 0, slots := 0, locals := 122 } : Room) Y ad n S h [.ref (ad 35), .ref (ad 15), .ref (ad 8)] (fun S' h' => S' = S ∧ h' = FX10_takeTurns_st h) := met_v (by decide) (Nat.le_of_ble_eq_true rfl) (fun X C K => j_vl (tX10_takeTurns_st W C h hP (fun pc lv hd => K _ _ ⟨rfl, rfl⟩ pc lv hd)) ⟨rfl, rfl, rfl, trivial⟩)
