-- X3_rise_oc1
def FX3_rise_oc1 (a0 : Int32) (h : ph_H) : Int32 × ph_H := ((FX3_own_oc1 a0 (h 30 (a0.toNatClampNeg)) (hs h 29 a0.toNatClampNeg 1)).1, (FX3_own_oc1 a0 (h 30 (a0.toNatClampNeg)) (hs h 29 a0.toNatClampNeg 1)).2)
def PX3_rise_oc1 (a0 : Int32) (h : ph_H) : Prop := vp_in a0 4 ∧ (vp_in a0 4 ∧ ((PX3_own_oc1 a0 (h 30 (a0.toNatClampNeg)) (hs h 29 a0.toNatClampNeg 1)) ∧ (True)))
set_option maxRecDepth 100000 in
set_option maxHeartbeats 4000000 in
theorem tX3_rise_oc1 {X : fj_X} {Y : fj_Y} {l0 : Launch} {ad : Nat → Nat} {n : Nat} {S : ph_S} (W : WS 1 n S) (C : FC X Y l0 cX3_rise 2 RX3 ({ frames := 1, cells := 0, slots := 0, locals := 22 } : Room) 0 0 (some .int)) (a0 : Int32) (h : ph_H) (hP : PX3_rise_oc1 a0 h) (hR : RETi X Y ad n S cX3_rise (FX3_rise_oc1 a0 h)) : FJ X Y ad n S h 0 [(0, .ref (ad 25)), (1, .int a0)] [] := by
  unfold PX3_rise_oc1 at hP
  unfold FX3_rise_oc1 at hR
  refine j_aload_n C dX3_rise_0 rfl rfl ?_
  refine gCRX3_21 C dX3_rise_1 (W.lt 25 (by decide)) (sh_25 W) rfl ?_
  refine j_iload_n C dX3_rise_4 rfl rfl ?_
  refine j_iconst (v := 1) C dX3_rise_5 (by decide) ?_
  obtain ⟨p4, hP⟩ := hP
  refine j_iast (k := 29) C dX3_rise_6 (W.lt 29 (by decide)) (sh_29 W) p4 ?_
  refine j_aload_n C dX3_rise_7 rfl rfl ?_
  refine j_iload_n C dX3_rise_8 rfl rfl ?_
  refine j_aload_n C dX3_rise_9 rfl rfl ?_
  refine gCRX3_24 C dX3_rise_10 (W.lt 25 (by decide)) (sh_25 W) rfl ?_
  refine j_iload_n C dX3_rise_13 rfl rfl ?_
  obtain ⟨p11, hP⟩ := hP
  refine j_iald (k := 30) (v := (h 30 (a0.toNatClampNeg))) C dX3_rise_14 (W.lt 30 (by decide)) (sh_30 W) p11 (hz_k (by decide)) ?_
  obtain ⟨p13, hP⟩ := hP
  refine j_callV C (MX3_own_oc1 W a0 (h 30 (a0.toNatClampNeg)) (hs h 29 a0.toNatClampNeg 1) p13) dX3_rise_15 (CKX3_own (by decide)) ⟨rfl, rfl⟩ lk_RX3_199 in_X3_own se_X3_own (W.lt 25 (by decide)) (sh_25 W) rfl rfl (Nat.le_of_ble_eq_true rfl) ?_
  intro r S' h' hq
  obtain ⟨e1, e2, e3⟩ := hq
  rw [e1, e2, e3]
  exact RETi_u hR _ _ dX3_rise_18
theorem MX3_rise_oc1 {l0 : Launch} {Y : fj_Y} {ad : Nat → Nat} {n : Nat} {S : ph_S} (W : WS 1 n S) (a0 : Int32) (h : ph_H) (hP : PX3_rise_oc1 a0 h) : MI l0 yX3_rise cX3_rise 2 (some .int) ({ frames := 1, cells := 0, slots := 0, locals := 22 } : Room) Y ad n S h [.ref (ad 25), .int a0] (fun r S' h' => S' = S ∧ h' = (FX3_rise_oc1 a0 h).2 ∧ r = (FX3_rise_oc1 a0 h).1) := met_i (by decide) (Nat.le_of_ble_eq_true rfl) (fun _ _ _ _ => rfl) (fun X C K => j_vl (tX3_rise_oc1 W C a0 h hP (fun pc lv hd => K _ _ _ ⟨rfl, rfl, rfl⟩ pc lv hd)) ⟨rfl, rfl, trivial⟩)

-- X3_go_oc1
def FX3_go_oc1_67  (x1 : Int32) (s0 : Int32) (h : ph_H) : Int32 × ph_H := if s0 = 0 then ((s0, (hs h 28 x1.toNatClampNeg (h 25 13)))) else ((s0, h))
def PX3_go_oc1_67  (x1 : Int32) (s0 : Int32) (h : ph_H) : Prop := (s0 = 0 → (vp_in x1 4 ∧ (True))) ∧ (¬ s0 = 0 → (True))
set_option maxRecDepth 100000 in
set_option maxHeartbeats 4000000 in
theorem tX3_go_oc1_67 {X : fj_X} {Y : fj_Y} {l0 : Launch} {ad : Nat → Nat} {n : Nat} {S : ph_S} (W : WS 1 n S) (C : FC X Y l0 cX3_go 3 RX3 ({ frames := 3, cells := 0, slots := 0, locals := 76 } : Room) 0 0 (some .int)) (x1 : Int32) (s0 : Int32) (h : ph_H) (hP : PX3_go_oc1_67  x1 s0 h) (hR : RETi X Y ad n S cX3_go (FX3_go_oc1_67  x1 s0 h)) : FJ X Y ad n S h 67 [(0, .ref (ad 25)), (1, .int x1)] [.int s0] := by
  unfold PX3_go_oc1_67 at hP
  unfold FX3_go_oc1_67 at hR
  refine j_istore_n C dX3_go_67 rfl (by decide) rfl ?_
  refine j_iload_n C dX3_go_68 rfl rfl ?_
  refine j_if_ne (tgt := 82) C dX3_go_69 (by decide) (fun c0 => ?_) (fun c0 => ?_)
  · have hP := hP.2 c0
    rw [if_neg c0] at hR
    refine j_iload_n C dX3_go_82 rfl rfl ?_
    exact RETi_u hR _ _ dX3_go_83
  · have hP := hP.1 c0
    rw [if_pos c0] at hR
    refine j_aload_n C dX3_go_72 rfl rfl ?_
    refine gCRX3_18 C dX3_go_73 (W.lt 25 (by decide)) (sh_25 W) rfl ?_
    refine j_iload_n C dX3_go_76 rfl rfl ?_
    refine j_aload_n C dX3_go_77 rfl rfl ?_
    refine gCRX3_126 (v := (h 25 13)) C dX3_go_78 (W.lt 25 (by decide)) (sh_25 W) rfl rfl ?_
    obtain ⟨p5, hP⟩ := hP
    refine j_iast (k := 28) C dX3_go_81 (W.lt 28 (by decide)) (sh_28 W) p5 ?_
    refine j_iload_n C dX3_go_82 rfl rfl ?_
    exact RETi_u hR _ _ dX3_go_83
def FX3_go_oc1_59  (x1 : Int32) (s0 : Int32) (h : ph_H) : Int32 × ph_H := FX3_go_oc1_67  x1 s0 h
def PX3_go_oc1_59  (x1 : Int32) (s0 : Int32) (h : ph_H) : Prop := PX3_go_oc1_67  x1 s0 h
set_option maxRecDepth 100000 in
set_option maxHeartbeats 4000000 in
theorem tX3_go_oc1_59 {X : fj_X} {Y : fj_Y} {l0 : Launch} {ad : Nat → Nat} {n : Nat} {S : ph_S} (W : WS 1 n S) (C : FC X Y l0 cX3_go 3 RX3 ({ frames := 3, cells := 0, slots := 0, locals := 76 } : Room) 0 0 (some .int)) (x1 : Int32) (s0 : Int32) (h : ph_H) (hP : PX3_go_oc1_59  x1 s0 h) (hR : RETi X Y ad n S cX3_go (FX3_go_oc1_59  x1 s0 h)) : FJ X Y ad n S h 59 [(0, .ref (ad 25)), (1, .int x1)] [.int s0] := by
  unfold PX3_go_oc1_59 at hP
  unfold FX3_go_oc1_59 at hR
  refine j_goto (tgt := 67) C dX3_go_59 (by decide) ?_
  exact j_vl (tX3_go_oc1_67 W C  x1 s0 h hP hR) ⟨rfl, rfl, trivial⟩
def FX3_go_oc1 (a0 : Int32) (h : ph_H) : Int32 × ph_H := if (FX3_canGo_oc1 a0 h) = 0 then (((-1), h)) else (if (h 29 (a0.toNatClampNeg)) = 3 then (FX3_go_oc1_59  a0 ((FX3_rise_oc1 a0 (hs (hs (hs (hs (hs h 25 14 (-2)) 25 15 (-2)) 25 16 0) 25 17 0) 25 13 ((h 28 (a0.toNatClampNeg)) + 1))).1) ((FX3_rise_oc1 a0 (hs (hs (hs (hs (hs h 25 14 (-2)) 25 15 (-2)) 25 16 0) 25 17 0) 25 13 ((h 28 (a0.toNatClampNeg)) + 1))).2)) else (FX3_go_oc1_67  a0 ((FX3_perform_oc1 a0 (hs (hs (hs (hs (hs h 25 14 (-2)) 25 15 (-2)) 25 16 0) 25 17 0) 25 13 ((h 28 (a0.toNatClampNeg)) + 1))).1) ((FX3_perform_oc1 a0 (hs (hs (hs (hs (hs h 25 14 (-2)) 25 15 (-2)) 25 16 0) 25 17 0) 25 13 ((h 28 (a0.toNatClampNeg)) + 1))).2)))
def PX3_go_oc1 (a0 : Int32) (h : ph_H) : Prop := (PX3_canGo_oc1 a0 h) ∧ (((FX3_canGo_oc1 a0 h) = 0 → (True)) ∧ (¬ (FX3_canGo_oc1 a0 h) = 0 → (vp_in a0 4 ∧ (vp_in a0 4 ∧ (((h 29 (a0.toNatClampNeg)) = 3 → ((PX3_rise_oc1 a0 (hs (hs (hs (hs (hs h 25 14 (-2)) 25 15 (-2)) 25 16 0) 25 17 0) 25 13 ((h 28 (a0.toNatClampNeg)) + 1))) ∧ (PX3_go_oc1_59  a0 ((FX3_rise_oc1 a0 (hs (hs (hs (hs (hs h 25 14 (-2)) 25 15 (-2)) 25 16 0) 25 17 0) 25 13 ((h 28 (a0.toNatClampNeg)) + 1))).1) ((FX3_rise_oc1 a0 (hs (hs (hs (hs (hs h 25 14 (-2)) 25 15 (-2)) 25 16 0) 25 17 0) 25 13 ((h 28 (a0.toNatClampNeg)) + 1))).2)))) ∧ (¬ (h 29 (a0.toNatClampNeg)) = 3 → ((PX3_perform_oc1 a0 (hs (hs (hs (hs (hs h 25 14 (-2)) 25 15 (-2)) 25 16 0) 25 17 0) 25 13 ((h 28 (a0.toNatClampNeg)) + 1))) ∧ (PX3_go_oc1_67  a0 ((FX3_perform_oc1 a0 (hs (hs (hs (hs (hs h 25 14 (-2)) 25 15 (-2)) 25 16 0) 25 17 0) 25 13 ((h 28 (a0.toNatClampNeg)) + 1))).1) ((FX3_perform_oc1 a0 (hs (hs (hs (hs (hs h 25 14 (-2)) 25 15 (-2)) 25 16 0) 25 17 0) 25 13 ((h 28 (a0.toNatClampNeg)) + 1))).2)))))))))
set_option maxRecDepth 100000 in
set_option maxHeartbeats 4000000 in
theorem tX3_go_oc1 {X : fj_X} {Y : fj_Y} {l0 : Launch} {ad : Nat → Nat} {n : Nat} {S : ph_S} (W : WS 1 n S) (C : FC X Y l0 cX3_go 3 RX3 ({ frames := 3, cells := 0, slots := 0, locals := 76 } : Room) 0 0 (some .int)) (a0 : Int32) (h : ph_H) (hP : PX3_go_oc1 a0 h) (hR : RETi X Y ad n S cX3_go (FX3_go_oc1 a0 h)) : FJ X Y ad n S h 0 [(0, .ref (ad 25)), (1, .int a0)] [] := by
  unfold PX3_go_oc1 at hP
  unfold FX3_go_oc1 at hR
  refine j_aload_n C dX3_go_0 rfl rfl ?_
  refine j_iload_n C dX3_go_1 rfl rfl ?_
  obtain ⟨p2, hP⟩ := hP
  refine j_callV C (MX3_canGo_oc1 W a0 h p2) dX3_go_2 (CKX3_canGo (by decide)) ⟨rfl, rfl⟩ lk_RX3_92 in_X3_canGo se_X3_canGo (W.lt 25 (by decide)) (sh_25 W) rfl rfl (Nat.le_of_ble_eq_true rfl) ?_
  intro r S' h' hq
  obtain ⟨e1, hh, e3, hb4⟩ := hq
  rw [e1, hh, e3]
  refine j_if_ne (tgt := 10) C dX3_go_5 (by decide) (fun c0 => ?_) (fun c0 => ?_)
  · have hP := hP.2 c0
    rw [if_neg c0] at hR
    refine j_aload_n C dX3_go_10 rfl rfl ?_
    refine j_bipush (v := (-2)) C dX3_go_11 (by decide) ?_
    refine pCRX3_114 C dX3_go_13 (W.lt 25 (by decide)) (sh_25 W) rfl ?_
    refine j_aload_n C dX3_go_16 rfl rfl ?_
    refine j_bipush (v := (-2)) C dX3_go_17 (by decide) ?_
    refine pCRX3_117 C dX3_go_19 (W.lt 25 (by decide)) (sh_25 W) rfl ?_
    refine j_aload_n C dX3_go_22 rfl rfl ?_
    refine j_iconst (v := 0) C dX3_go_23 (by decide) ?_
    refine pCRX3_120 C dX3_go_24 (W.lt 25 (by decide)) (sh_25 W) rfl ?_
    refine j_aload_n C dX3_go_27 rfl rfl ?_
    refine j_iconst (v := 0) C dX3_go_28 (by decide) ?_
    refine pCRX3_123 C dX3_go_29 (W.lt 25 (by decide)) (sh_25 W) rfl ?_
    refine j_aload_n C dX3_go_32 rfl rfl ?_
    refine j_aload_n C dX3_go_33 rfl rfl ?_
    refine gCRX3_18 C dX3_go_34 (W.lt 25 (by decide)) (sh_25 W) rfl ?_
    refine j_iload_n C dX3_go_37 rfl rfl ?_
    obtain ⟨p16, hP⟩ := hP
    refine j_iald (k := 28) (v := (h 28 (a0.toNatClampNeg))) C dX3_go_38 (W.lt 28 (by decide)) (sh_28 W) p16 ((hz_k (by decide)).trans ((hz_k (by decide)).trans ((hz_k (by decide)).trans (hz_k (by decide))))) ?_
    refine j_iconst (v := 1) C dX3_go_39 (by decide) ?_
    refine j_iadd C dX3_go_40 ?_
    refine pCRX3_126 C dX3_go_41 (W.lt 25 (by decide)) (sh_25 W) rfl ?_
    refine j_aload_n C dX3_go_44 rfl rfl ?_
    refine gCRX3_21 C dX3_go_45 (W.lt 25 (by decide)) (sh_25 W) rfl ?_
    refine j_iload_n C dX3_go_48 rfl rfl ?_
    obtain ⟨p24, hP⟩ := hP
    refine j_iald (k := 29) (v := (h 29 (a0.toNatClampNeg))) C dX3_go_49 (W.lt 29 (by decide)) (sh_29 W) p24 ((hz_k (by decide)).trans ((hz_k (by decide)).trans ((hz_k (by decide)).trans ((hz_k (by decide)).trans (hz_k (by decide)))))) ?_
    refine j_iconst (v := 3) C dX3_go_50 (by decide) ?_
    refine j_icmp_ne (tgt := 62) C dX3_go_51 (by decide) (fun c1 => ?_) (fun c1 => ?_)
    · have hP := hP.2 c1
      rw [if_neg c1] at hR
      refine j_aload_n C dX3_go_62 rfl rfl ?_
      refine j_iload_n C dX3_go_63 rfl rfl ?_
      obtain ⟨p2, hP⟩ := hP
      refine j_callV C (MX3_perform_oc1 W a0 (hs (hs (hs (hs (hs h 25 14 (-2)) 25 15 (-2)) 25 16 0) 25 17 0) 25 13 ((h 28 (a0.toNatClampNeg)) + 1)) p2) dX3_go_64 (CKX3_perform (by decide)) ⟨rfl, rfl⟩ lk_RX3_132 in_X3_perform se_X3_perform (W.lt 25 (by decide)) (sh_25 W) rfl rfl (Nat.le_of_ble_eq_true rfl) ?_
      intro r S' h' hq
      obtain ⟨e1, e2, e3⟩ := hq
      rw [e1, e2, e3]
      exact j_vl (tX3_go_oc1_67 W C  a0 ((FX3_perform_oc1 a0 (hs (hs (hs (hs (hs h 25 14 (-2)) 25 15 (-2)) 25 16 0) 25 17 0) 25 13 ((h 28 (a0.toNatClampNeg)) + 1))).1) ((FX3_perform_oc1 a0 (hs (hs (hs (hs (hs h 25 14 (-2)) 25 15 (-2)) 25 16 0) 25 17 0) 25 13 ((h 28 (a0.toNatClampNeg)) + 1))).2) hP hR) ⟨rfl, rfl, trivial⟩
    · have hP := hP.1 c1
      rw [if_pos c1] at hR
      refine j_aload_n C dX3_go_54 rfl rfl ?_
      refine j_iload_n C dX3_go_55 rfl rfl ?_
      obtain ⟨p2, hP⟩ := hP
      refine j_callV C (MX3_rise_oc1 W a0 (hs (hs (hs (hs (hs h 25 14 (-2)) 25 15 (-2)) 25 16 0) 25 17 0) 25 13 ((h 28 (a0.toNatClampNeg)) + 1)) p2) dX3_go_56 (CKX3_rise (by decide)) ⟨rfl, rfl⟩ lk_RX3_129 in_X3_rise se_X3_rise (W.lt 25 (by decide)) (sh_25 W) rfl rfl (Nat.le_of_ble_eq_true rfl) ?_
      intro r S' h' hq
      obtain ⟨e1, e2, e3⟩ := hq
      rw [e1, e2, e3]
      exact j_vl (tX3_go_oc1_59 W C  a0 ((FX3_rise_oc1 a0 (hs (hs (hs (hs (hs h 25 14 (-2)) 25 15 (-2)) 25 16 0) 25 17 0) 25 13 ((h 28 (a0.toNatClampNeg)) + 1))).1) ((FX3_rise_oc1 a0 (hs (hs (hs (hs (hs h 25 14 (-2)) 25 15 (-2)) 25 16 0) 25 17 0) 25 13 ((h 28 (a0.toNatClampNeg)) + 1))).2) hP hR) ⟨rfl, rfl, trivial⟩
  · have hP := hP.1 c0
    rw [if_pos c0] at hR
    refine j_iconst (v := (-1)) C dX3_go_8 (by decide) ?_
    exact RETi_u hR _ _ dX3_go_9
theorem MX3_go_oc1 {l0 : Launch} {Y : fj_Y} {ad : Nat → Nat} {n : Nat} {S : ph_S} (W : WS 1 n S) (a0 : Int32) (h : ph_H) (hP : PX3_go_oc1 a0 h) : MI l0 yX3_go cX3_go 3 (some .int) ({ frames := 3, cells := 0, slots := 0, locals := 76 } : Room) Y ad n S h [.ref (ad 25), .int a0] (fun r S' h' => S' = S ∧ h' = (FX3_go_oc1 a0 h).2 ∧ r = (FX3_go_oc1 a0 h).1) := met_i (by decide) (Nat.le_of_ble_eq_true rfl) (fun _ _ _ _ => rfl) (fun X C K => j_vl (tX3_go_oc1 W C a0 h hP (fun pc lv hd => K _ _ _ ⟨rfl, rfl, rfl⟩ pc lv hd)) ⟨rfl, rfl, trivial⟩)

-- X3_whoGoes_oc1
def FX3_whoGoes_oc1_21  : Nat → Int32 → ph_H → Int32
  | 0, _, _ => 0
  | q + 1, x2, h => if 4 ≤ x2 then ((-1)) else (if (FX3_canGo_oc1 x2 h) = 0 then (FX3_whoGoes_oc1_21  q (x2 + 1) h) else (x2))
def PX3_whoGoes_oc1_21  : Nat → Int32 → ph_H → Prop
  | 0, _, _ => False
  | q + 1, x2, h => (4 ≤ x2 → (True)) ∧ (¬ 4 ≤ x2 → ((PX3_canGo_oc1 x2 h) ∧ (((FX3_canGo_oc1 x2 h) = 0 → (PX3_whoGoes_oc1_21  q (x2 + 1) h)) ∧ (¬ (FX3_canGo_oc1 x2 h) = 0 → (True)))))
set_option maxRecDepth 100000 in
set_option maxHeartbeats 4000000 in
theorem tX3_whoGoes_oc1_21 {X : fj_X} {Y : fj_Y} {l0 : Launch} {ad : Nat → Nat} {n : Nat} {S : ph_S} (W : WS 1 n S) (C : FC X Y l0 cX3_whoGoes 3 RX3 ({ frames := 3, cells := 0, slots := 0, locals := 66 } : Room) 0 0 (some .int)) (h : ph_H) : ∀ (q : Nat) (x2 : Int32), PX3_whoGoes_oc1_21  q x2 h → RETp X Y ad n S h cX3_whoGoes (FX3_whoGoes_oc1_21  q x2 h) → FJ X Y ad n S h 21 [(0, .ref (ad 25)), (2, .int x2)] [] := by
  intro q
  induction q with
  | zero =>
    intro x2 hP hR
    exact absurd hP id
  | succ q ih =>
    intro x2 hP hR
    unfold PX3_whoGoes_oc1_21 at hP
    unfold FX3_whoGoes_oc1_21 at hR
    refine j_iload_n C dX3_whoGoes_21 rfl rfl ?_
    refine j_iconst (v := 4) C dX3_whoGoes_22 (by decide) ?_
    refine j_icmp_ge (tgt := 42) C dX3_whoGoes_23 (by decide) (fun c0 => ?_) (fun c0 => ?_)
    · have hP := hP.1 c0
      rw [if_pos c0] at hR
      refine j_iconst (v := (-1)) C dX3_whoGoes_42 (by decide) ?_
      exact hR _ _ dX3_whoGoes_43
    · have hP := hP.2 c0
      rw [if_neg c0] at hR
      refine j_aload_n C dX3_whoGoes_26 rfl rfl ?_
      refine j_iload_n C dX3_whoGoes_27 rfl rfl ?_
      obtain ⟨p2, hP⟩ := hP
      refine j_callV C (MX3_canGo_oc1 W x2 h p2) dX3_whoGoes_28 (CKX3_canGo (by decide)) ⟨rfl, rfl⟩ lk_RX3_92 in_X3_canGo se_X3_canGo (W.lt 25 (by decide)) (sh_25 W) rfl rfl (Nat.le_of_ble_eq_true rfl) ?_
      intro r S' h' hq
      obtain ⟨e1, hh, e3, hb4⟩ := hq
      rw [e1, hh, e3]
      refine j_if_eq (tgt := 36) C dX3_whoGoes_31 (by decide) (fun c1 => ?_) (fun c1 => ?_)
      · have hP := hP.1 c1
        rw [if_pos c1] at hR
        refine j_iinc (v := (x2 + 1)) C dX3_whoGoes_36 rfl rfl (by decide) rfl ?_
        refine j_goto (tgt := 21) C dX3_whoGoes_39 (by decide) ?_
        exact j_vl (ih (x2 + 1) hP hR) ⟨rfl, rfl, trivial⟩
      · have hP := hP.2 c1
        rw [if_neg c1] at hR
        refine j_iload_n C dX3_whoGoes_34 rfl rfl ?_
        exact hR _ _ dX3_whoGoes_35
def FX3_whoGoes_oc1_19  (h : ph_H) : Int32 := FX3_whoGoes_oc1_21 2000 0 h
def PX3_whoGoes_oc1_19  (h : ph_H) : Prop := PX3_whoGoes_oc1_21 2000 0 h
set_option maxRecDepth 100000 in
set_option maxHeartbeats 4000000 in
theorem tX3_whoGoes_oc1_19 {X : fj_X} {Y : fj_Y} {l0 : Launch} {ad : Nat → Nat} {n : Nat} {S : ph_S} (W : WS 1 n S) (C : FC X Y l0 cX3_whoGoes 3 RX3 ({ frames := 3, cells := 0, slots := 0, locals := 66 } : Room) 0 0 (some .int)) (h : ph_H)  (hP : PX3_whoGoes_oc1_19  h) (hR : RETp X Y ad n S h cX3_whoGoes (FX3_whoGoes_oc1_19  h)) : FJ X Y ad n S h 19 [(0, .ref (ad 25))] [] := by
  unfold PX3_whoGoes_oc1_19 at hP
  unfold FX3_whoGoes_oc1_19 at hR
  refine j_iconst (v := 0) C dX3_whoGoes_19 (by decide) ?_
  refine j_istore_n C dX3_whoGoes_20 rfl (by decide) rfl ?_
  exact j_vl (tX3_whoGoes_oc1_21 W C h 2000 0 hP hR) ⟨rfl, rfl, trivial⟩
def FX3_whoGoes_oc1 (a0 : Int32) (h : ph_H) : Int32 := if a0 < 0 then (FX3_whoGoes_oc1_19  h) else (if 4 ≤ a0 then (FX3_whoGoes_oc1_19  h) else (if (FX3_canGo_oc1 a0 h) = 0 then (FX3_whoGoes_oc1_19  h) else (a0)))
def PX3_whoGoes_oc1 (a0 : Int32) (h : ph_H) : Prop := (a0 < 0 → (PX3_whoGoes_oc1_19  h)) ∧ (¬ a0 < 0 → ((4 ≤ a0 → (PX3_whoGoes_oc1_19  h)) ∧ (¬ 4 ≤ a0 → ((PX3_canGo_oc1 a0 h) ∧ (((FX3_canGo_oc1 a0 h) = 0 → (PX3_whoGoes_oc1_19  h)) ∧ (¬ (FX3_canGo_oc1 a0 h) = 0 → (True)))))))
set_option maxRecDepth 100000 in
set_option maxHeartbeats 4000000 in
theorem tX3_whoGoes_oc1 {X : fj_X} {Y : fj_Y} {l0 : Launch} {ad : Nat → Nat} {n : Nat} {S : ph_S} (W : WS 1 n S) (C : FC X Y l0 cX3_whoGoes 3 RX3 ({ frames := 3, cells := 0, slots := 0, locals := 66 } : Room) 0 0 (some .int)) (a0 : Int32) (h : ph_H) (hP : PX3_whoGoes_oc1 a0 h) (hR : RETp X Y ad n S h cX3_whoGoes (FX3_whoGoes_oc1 a0 h)) : FJ X Y ad n S h 0 [(0, .ref (ad 25)), (1, .int a0)] [] := by
  unfold PX3_whoGoes_oc1 at hP
  unfold FX3_whoGoes_oc1 at hR
  refine j_iload_n C dX3_whoGoes_0 rfl rfl ?_
  refine j_if_lt (tgt := 19) C dX3_whoGoes_1 (by decide) (fun c0 => ?_) (fun c0 => ?_)
  · have hP := hP.1 c0
    rw [if_pos c0] at hR
    exact j_vl (tX3_whoGoes_oc1_19 W C h  hP hR) ⟨rfl, trivial⟩
  · have hP := hP.2 c0
    rw [if_neg c0] at hR
    refine j_iload_n C dX3_whoGoes_4 rfl rfl ?_
    refine j_iconst (v := 4) C dX3_whoGoes_5 (by decide) ?_
    refine j_icmp_ge (tgt := 19) C dX3_whoGoes_6 (by decide) (fun c1 => ?_) (fun c1 => ?_)
    · have hP := hP.1 c1
      rw [if_pos c1] at hR
      exact j_vl (tX3_whoGoes_oc1_19 W C h  hP hR) ⟨rfl, trivial⟩
    · have hP := hP.2 c1
      rw [if_neg c1] at hR
      refine j_aload_n C dX3_whoGoes_9 rfl rfl ?_
      refine j_iload_n C dX3_whoGoes_10 rfl rfl ?_
      obtain ⟨p2, hP⟩ := hP
      refine j_callV C (MX3_canGo_oc1 W a0 h p2) dX3_whoGoes_11 (CKX3_canGo (by decide)) ⟨rfl, rfl⟩ lk_RX3_92 in_X3_canGo se_X3_canGo (W.lt 25 (by decide)) (sh_25 W) rfl rfl (Nat.le_of_ble_eq_true rfl) ?_
      intro r S' h' hq
      obtain ⟨e1, hh, e3, hb4⟩ := hq
      rw [e1, hh, e3]
      refine j_if_eq (tgt := 19) C dX3_whoGoes_14 (by decide) (fun c2 => ?_) (fun c2 => ?_)
      · have hP := hP.1 c2
        rw [if_pos c2] at hR
        exact j_vl (tX3_whoGoes_oc1_19 W C h  hP hR) ⟨rfl, trivial⟩
      · have hP := hP.2 c2
        rw [if_neg c2] at hR
        refine j_iload_n C dX3_whoGoes_17 rfl rfl ?_
        exact hR _ _ dX3_whoGoes_18
theorem MX3_whoGoes_oc1 {l0 : Launch} {Y : fj_Y} {ad : Nat → Nat} {n : Nat} {S : ph_S} (W : WS 1 n S) (a0 : Int32) (h : ph_H) (hP : PX3_whoGoes_oc1 a0 h) : MI l0 yX3_whoGoes cX3_whoGoes 3 (some .int) ({ frames := 3, cells := 0, slots := 0, locals := 66 } : Room) Y ad n S h [.ref (ad 25), .int a0] (fun r S' h' => S' = S ∧ h' = h ∧ r = FX3_whoGoes_oc1 a0 h) := met_i (by decide) (Nat.le_of_ble_eq_true rfl) (fun _ _ _ _ => rfl) (fun X C K => j_vl (tX3_whoGoes_oc1 W C a0 h hP (fun pc lv hd => K _ _ _ ⟨rfl, rfl, rfl⟩ pc lv hd)) ⟨rfl, rfl, trivial⟩)

-- X11_goByRecordc1
def FX11_goByRecordc1_120 (L37 : Int32 → Int32 → Int32 → Int32 → ph_H → Int32 × ph_H) (x1 : Int32) (x2 : Int32) (x3 : Int32) (x4 : Int32) (s0 : Int32) (h : ph_H) : Int32 × ph_H := if s0 = (-1) then ((1, h)) else (if s0 = 7 then ((2, h)) else (if s0 = 0 then (L37 x1 x2 x3 x4 (hs h 0 11 ((h 0 11) + 1))) else ((3, (hs h 0 11 ((h 0 11) + 1))))))
def PX11_goByRecordc1_120 (LP37 : Int32 → Int32 → Int32 → Int32 → ph_H → Prop) (x1 : Int32) (x2 : Int32) (x3 : Int32) (x4 : Int32) (s0 : Int32) (h : ph_H) : Prop := (s0 = (-1) → (True)) ∧ (¬ s0 = (-1) → ((s0 = 7 → (True)) ∧ (¬ s0 = 7 → ((s0 = 0 → (LP37 x1 x2 x3 x4 (hs h 0 11 ((h 0 11) + 1)))) ∧ (¬ s0 = 0 → (True))))))
set_option maxRecDepth 100000 in
set_option maxHeartbeats 4000000 in
theorem tX11_goByRecordc1_120 {X : fj_X} {Y : fj_Y} {l0 : Launch} {ad : Nat → Nat} {n : Nat} {S : ph_S} (W : WS 1 n S) (C : FC X Y l0 cX11_goByRecord 6 RX11 ({ frames := 4, cells := 0, slots := 0, locals := 98 } : Room) 0 0 (some .int)) (L37 : Int32 → Int32 → Int32 → Int32 → ph_H → Int32 × ph_H) (LP37 : Int32 → Int32 → Int32 → Int32 → ph_H → Prop) (hL37 : ∀ (x1 : Int32) (x2 : Int32) (x3 : Int32) (x4 : Int32) (h : ph_H), LP37 x1 x2 x3 x4 h → RETi X Y ad n S cX11_goByRecord (L37 x1 x2 x3 x4 h) → FJ X Y ad n S h 37 [(0, .ref (ad 0)), (1, .int x1), (2, .int x2), (3, .int x3), (4, .int x4)] []) (x1 : Int32) (x2 : Int32) (x3 : Int32) (x4 : Int32) (s0 : Int32) (h : ph_H) (hP : PX11_goByRecordc1_120 LP37 x1 x2 x3 x4 s0 h) (hR : RETi X Y ad n S cX11_goByRecord (FX11_goByRecordc1_120 L37 x1 x2 x3 x4 s0 h)) : FJ X Y ad n S h 120 [(0, .ref (ad 0)), (1, .int x1), (2, .int x2), (3, .int x3), (4, .int x4)] [.int s0] := by
  unfold PX11_goByRecordc1_120 at hP
  unfold FX11_goByRecordc1_120 at hR
  refine j_istore C dX11_goByRecord_120 (by decide) rfl ?_
  refine j_iload C dX11_goByRecord_122 rfl ?_
  refine j_iconst (v := (-1)) C dX11_goByRecord_124 (by decide) ?_
  refine j_icmp_ne (tgt := 130) C dX11_goByRecord_125 (by decide) (fun c0 => ?_) (fun c0 => ?_)
  · have hP := hP.2 c0
    rw [if_neg c0] at hR
    refine j_iload C dX11_goByRecord_130 rfl ?_
    refine j_bipush (v := 7) C dX11_goByRecord_132 (by decide) ?_
    refine j_icmp_ne (tgt := 139) C dX11_goByRecord_134 (by decide) (fun c1 => ?_) (fun c1 => ?_)
    · have hP := hP.2 c1
      rw [if_neg c1] at hR
      refine j_iload C dX11_goByRecord_139 rfl ?_
      refine j_if_eq (tgt := 156) C dX11_goByRecord_141 (by decide) (fun c2 => ?_) (fun c2 => ?_)
      · have hP := hP.1 c2
        rw [if_pos c2] at hR
        refine j_aload_n C dX11_goByRecord_156 rfl rfl ?_
        refine j_dup C dX11_goByRecord_157 rfl ?_
        refine gCRX11_176 (v := (h 0 11)) C dX11_goByRecord_158 (W.lt 0 (by decide)) (sh_0 W) rfl rfl ?_
        refine j_iconst (v := 1) C dX11_goByRecord_161 (by decide) ?_
        refine j_iadd C dX11_goByRecord_162 ?_
        refine pCRX11_176 C dX11_goByRecord_163 (W.lt 0 (by decide)) (sh_0 W) rfl ?_
        refine j_goto (tgt := 37) C dX11_goByRecord_166 (by decide) ?_
        exact j_vl (hL37 x1 x2 x3 x4 (hs h 0 11 ((h 0 11) + 1)) hP hR) ⟨rfl, rfl, rfl, rfl, rfl, trivial⟩
      · have hP := hP.2 c2
        rw [if_neg c2] at hR
        refine j_aload_n C dX11_goByRecord_144 rfl rfl ?_
        refine j_dup C dX11_goByRecord_145 rfl ?_
        refine gCRX11_176 (v := (h 0 11)) C dX11_goByRecord_146 (W.lt 0 (by decide)) (sh_0 W) rfl rfl ?_
        refine j_iconst (v := 1) C dX11_goByRecord_149 (by decide) ?_
        refine j_iadd C dX11_goByRecord_150 ?_
        refine pCRX11_176 C dX11_goByRecord_151 (W.lt 0 (by decide)) (sh_0 W) rfl ?_
        refine j_iconst (v := 3) C dX11_goByRecord_154 (by decide) ?_
        exact RETi_u hR _ _ dX11_goByRecord_155
    · have hP := hP.1 c1
      rw [if_pos c1] at hR
      refine j_iconst (v := 2) C dX11_goByRecord_137 (by decide) ?_
      exact RETi_u hR _ _ dX11_goByRecord_138
  · have hP := hP.1 c0
    rw [if_pos c0] at hR
    refine j_iconst (v := 1) C dX11_goByRecord_128 (by decide) ?_
    exact RETi_u hR _ _ dX11_goByRecord_129
def FX11_goByRecordc1_106 (L37 : Int32 → Int32 → Int32 → Int32 → ph_H → Int32 × ph_H) (x1 : Int32) (x2 : Int32) (x3 : Int32) (x4 : Int32) (h : ph_H) : Int32 × ph_H := if 0 ≤ x2 then (FX11_goByRecordc1_120 L37 x1 x2 x3 x4 ((FX3_go_oc1 x2 h).1) ((FX3_go_oc1 x2 h).2)) else ((0, h))
def PX11_goByRecordc1_106 (LP37 : Int32 → Int32 → Int32 → Int32 → ph_H → Prop) (x1 : Int32) (x2 : Int32) (x3 : Int32) (x4 : Int32) (h : ph_H) : Prop := (0 ≤ x2 → ((PX3_go_oc1 x2 h) ∧ (PX11_goByRecordc1_120 LP37 x1 x2 x3 x4 ((FX3_go_oc1 x2 h).1) ((FX3_go_oc1 x2 h).2)))) ∧ (¬ 0 ≤ x2 → (True))
set_option maxRecDepth 100000 in
set_option maxHeartbeats 4000000 in
theorem tX11_goByRecordc1_106 {X : fj_X} {Y : fj_Y} {l0 : Launch} {ad : Nat → Nat} {n : Nat} {S : ph_S} (W : WS 1 n S) (C : FC X Y l0 cX11_goByRecord 6 RX11 ({ frames := 4, cells := 0, slots := 0, locals := 98 } : Room) 0 0 (some .int)) (L37 : Int32 → Int32 → Int32 → Int32 → ph_H → Int32 × ph_H) (LP37 : Int32 → Int32 → Int32 → Int32 → ph_H → Prop) (hL37 : ∀ (x1 : Int32) (x2 : Int32) (x3 : Int32) (x4 : Int32) (h : ph_H), LP37 x1 x2 x3 x4 h → RETi X Y ad n S cX11_goByRecord (L37 x1 x2 x3 x4 h) → FJ X Y ad n S h 37 [(0, .ref (ad 0)), (1, .int x1), (2, .int x2), (3, .int x3), (4, .int x4)] []) (x1 : Int32) (x2 : Int32) (x3 : Int32) (x4 : Int32) (h : ph_H) (hP : PX11_goByRecordc1_106 LP37 x1 x2 x3 x4 h) (hR : RETi X Y ad n S cX11_goByRecord (FX11_goByRecordc1_106 L37 x1 x2 x3 x4 h)) : FJ X Y ad n S h 106 [(0, .ref (ad 0)), (1, .int x1), (2, .int x2), (3, .int x3), (4, .int x4)] [] := by
  unfold PX11_goByRecordc1_106 at hP
  unfold FX11_goByRecordc1_106 at hR
  refine j_iload_n C dX11_goByRecord_106 rfl rfl ?_
  refine j_if_ge (tgt := 112) C dX11_goByRecord_107 (by decide) (fun c0 => ?_) (fun c0 => ?_)
  · have hP := hP.1 c0
    rw [if_pos c0] at hR
    refine j_aload_n C dX11_goByRecord_112 rfl rfl ?_
    refine gCRX11_28 C dX11_goByRecord_113 (W.lt 0 (by decide)) (sh_0 W) rfl ?_
    refine j_iload_n C dX11_goByRecord_116 rfl rfl ?_
    obtain ⟨p3, hP⟩ := hP
    refine j_callV C (MX3_go_oc1 W x2 h p3) dX11_goByRecord_117 (CKX3_go (by decide)) ⟨rfl, rfl⟩ lk_RX11_355 in_X3_go se_X3_go (W.lt 25 (by decide)) (sh_25 W) rfl rfl (Nat.le_of_ble_eq_true rfl) ?_
    intro r S' h' hq
    obtain ⟨e1, e2, e3⟩ := hq
    rw [e1, e2, e3]
    exact j_vl (tX11_goByRecordc1_120 W C L37 LP37 hL37 x1 x2 x3 x4 ((FX3_go_oc1 x2 h).1) ((FX3_go_oc1 x2 h).2) hP hR) ⟨rfl, rfl, rfl, rfl, rfl, trivial⟩
  · have hP := hP.2 c0
    rw [if_neg c0] at hR
    refine j_iconst (v := 0) C dX11_goByRecord_110 (by decide) ?_
    exact RETi_u hR _ _ dX11_goByRecord_111
def FX11_goByRecordc1_88 (L37 : Int32 → Int32 → Int32 → Int32 → ph_H → Int32 × ph_H) (x1 : Int32) (x2 : Int32) (x3 : Int32) (x4 : Int32) (h : ph_H) : Int32 × ph_H := if (h 0 11) ≤ x4 then (FX11_goByRecordc1_106 L37 x1 x2 x3 x4 h) else (FX11_goByRecordc1_106 L37 x1 (FX3_whoGoes_oc1 x2 h) x3 x4 h)
def PX11_goByRecordc1_88 (LP37 : Int32 → Int32 → Int32 → Int32 → ph_H → Prop) (x1 : Int32) (x2 : Int32) (x3 : Int32) (x4 : Int32) (h : ph_H) : Prop := ((h 0 11) ≤ x4 → (PX11_goByRecordc1_106 LP37 x1 x2 x3 x4 h)) ∧ (¬ (h 0 11) ≤ x4 → ((PX3_whoGoes_oc1 x2 h) ∧ (PX11_goByRecordc1_106 LP37 x1 (FX3_whoGoes_oc1 x2 h) x3 x4 h)))
set_option maxRecDepth 100000 in
set_option maxHeartbeats 4000000 in
theorem tX11_goByRecordc1_88 {X : fj_X} {Y : fj_Y} {l0 : Launch} {ad : Nat → Nat} {n : Nat} {S : ph_S} (W : WS 1 n S) (C : FC X Y l0 cX11_goByRecord 6 RX11 ({ frames := 4, cells := 0, slots := 0, locals := 98 } : Room) 0 0 (some .int)) (L37 : Int32 → Int32 → Int32 → Int32 → ph_H → Int32 × ph_H) (LP37 : Int32 → Int32 → Int32 → Int32 → ph_H → Prop) (hL37 : ∀ (x1 : Int32) (x2 : Int32) (x3 : Int32) (x4 : Int32) (h : ph_H), LP37 x1 x2 x3 x4 h → RETi X Y ad n S cX11_goByRecord (L37 x1 x2 x3 x4 h) → FJ X Y ad n S h 37 [(0, .ref (ad 0)), (1, .int x1), (2, .int x2), (3, .int x3), (4, .int x4)] []) (x1 : Int32) (x2 : Int32) (x3 : Int32) (x4 : Int32) (h : ph_H) (hP : PX11_goByRecordc1_88 LP37 x1 x2 x3 x4 h) (hR : RETi X Y ad n S cX11_goByRecord (FX11_goByRecordc1_88 L37 x1 x2 x3 x4 h)) : FJ X Y ad n S h 88 [(0, .ref (ad 0)), (1, .int x1), (2, .int x2), (3, .int x3), (4, .int x4)] [] := by
  unfold PX11_goByRecordc1_88 at hP
  unfold FX11_goByRecordc1_88 at hR
  refine j_aload_n C dX11_goByRecord_88 rfl rfl ?_
  refine gCRX11_176 (v := (h 0 11)) C dX11_goByRecord_89 (W.lt 0 (by decide)) (sh_0 W) rfl rfl ?_
  refine j_iload C dX11_goByRecord_92 rfl ?_
  refine j_icmp_le (tgt := 106) C dX11_goByRecord_94 (by decide) (fun c0 => ?_) (fun c0 => ?_)
  · have hP := hP.1 c0
    rw [if_pos c0] at hR
    exact j_vl (tX11_goByRecordc1_106 W C L37 LP37 hL37 x1 x2 x3 x4 h hP hR) ⟨rfl, rfl, rfl, rfl, rfl, trivial⟩
  · have hP := hP.2 c0
    rw [if_neg c0] at hR
    refine j_aload_n C dX11_goByRecord_97 rfl rfl ?_
    refine gCRX11_28 C dX11_goByRecord_98 (W.lt 0 (by decide)) (sh_0 W) rfl ?_
    refine j_iload_n C dX11_goByRecord_101 rfl rfl ?_
    obtain ⟨p3, hP⟩ := hP
    refine j_callV C (MX3_whoGoes_oc1 W x2 h p3) dX11_goByRecord_102 (CKX3_whoGoes (by decide)) ⟨rfl, rfl⟩ lk_RX11_358 in_X3_whoGoes se_X3_whoGoes (W.lt 25 (by decide)) (sh_25 W) rfl rfl (Nat.le_of_ble_eq_true rfl) ?_
    intro r S' h' hq
    obtain ⟨e1, hh, e3⟩ := hq
    rw [e1, hh, e3]
    refine j_istore_n C dX11_goByRecord_105 rfl (by decide) rfl ?_
    exact j_vl (tX11_goByRecordc1_106 W C L37 LP37 hL37 x1 (FX3_whoGoes_oc1 x2 h) x3 x4 h hP hR) ⟨rfl, rfl, rfl, rfl, rfl, trivial⟩
def FX11_goByRecordc1_37  : Nat → Int32 → Int32 → Int32 → Int32 → ph_H → Int32 × ph_H
  | 0, _, _, _, _, h => (0, h)
  | q + 1, x1, x2, x3, x4, h => if 300 ≤ (h 0 11) then (if 0 ≤ (FX3_whoGoes_oc1 0 h) then ((4, h)) else ((0, h))) else (if x1 ≤ x3 then (FX11_goByRecordc1_88 (FX11_goByRecordc1_37  q) x1 x2 x3 x4 h) else (if 300 ≤ x3 then (FX11_goByRecordc1_88 (FX11_goByRecordc1_37  q) x1 x2 x3 x4 h) else (if (h 45 (x3.toNatClampNeg)) = (h 0 11) then (FX11_goByRecordc1_88 (FX11_goByRecordc1_37  q) x1 (h 46 (x3.toNatClampNeg)) (x3 + 1) x4 h) else (FX11_goByRecordc1_88 (FX11_goByRecordc1_37  q) x1 x2 x3 x4 h))))
def PX11_goByRecordc1_37  : Nat → Int32 → Int32 → Int32 → Int32 → ph_H → Prop
  | 0, _, _, _, _, _ => False
  | q + 1, x1, x2, x3, x4, h => (300 ≤ (h 0 11) → ((PX3_whoGoes_oc1 0 h) ∧ ((0 ≤ (FX3_whoGoes_oc1 0 h) → (True)) ∧ (¬ 0 ≤ (FX3_whoGoes_oc1 0 h) → (True))))) ∧ (¬ 300 ≤ (h 0 11) → ((x1 ≤ x3 → (PX11_goByRecordc1_88 (PX11_goByRecordc1_37  q) x1 x2 x3 x4 h)) ∧ (¬ x1 ≤ x3 → ((300 ≤ x3 → (PX11_goByRecordc1_88 (PX11_goByRecordc1_37  q) x1 x2 x3 x4 h)) ∧ (¬ 300 ≤ x3 → (vp_in x3 300 ∧ (((h 45 (x3.toNatClampNeg)) = (h 0 11) → (vp_in x3 300 ∧ (PX11_goByRecordc1_88 (PX11_goByRecordc1_37  q) x1 (h 46 (x3.toNatClampNeg)) (x3 + 1) x4 h))) ∧ (¬ (h 45 (x3.toNatClampNeg)) = (h 0 11) → (PX11_goByRecordc1_88 (PX11_goByRecordc1_37  q) x1 x2 x3 x4 h)))))))))
set_option maxRecDepth 100000 in
set_option maxHeartbeats 4000000 in
theorem tX11_goByRecordc1_37 {X : fj_X} {Y : fj_Y} {l0 : Launch} {ad : Nat → Nat} {n : Nat} {S : ph_S} (W : WS 1 n S) (C : FC X Y l0 cX11_goByRecord 6 RX11 ({ frames := 4, cells := 0, slots := 0, locals := 98 } : Room) 0 0 (some .int)) : ∀ (q : Nat) (x1 : Int32) (x2 : Int32) (x3 : Int32) (x4 : Int32) (h : ph_H), PX11_goByRecordc1_37  q x1 x2 x3 x4 h → RETi X Y ad n S cX11_goByRecord (FX11_goByRecordc1_37  q x1 x2 x3 x4 h) → FJ X Y ad n S h 37 [(0, .ref (ad 0)), (1, .int x1), (2, .int x2), (3, .int x3), (4, .int x4)] [] := by
  intro q
  induction q with
  | zero =>
    intro x1 x2 x3 x4 h hP hR
    exact absurd hP id
  | succ q ih =>
    intro x1 x2 x3 x4 h hP hR
    unfold PX11_goByRecordc1_37 at hP
    unfold FX11_goByRecordc1_37 at hR
    refine j_aload_n C dX11_goByRecord_37 rfl rfl ?_
    refine gCRX11_176 (v := (h 0 11)) C dX11_goByRecord_38 (W.lt 0 (by decide)) (sh_0 W) rfl rfl ?_
    refine j_sipush (v := 300) C dX11_goByRecord_41 (by decide) ?_
    refine j_icmp_ge (tgt := 169) C dX11_goByRecord_44 (by decide) (fun c0 => ?_) (fun c0 => ?_)
    · have hP := hP.1 c0
      rw [if_pos c0] at hR
      refine j_aload_n C dX11_goByRecord_169 rfl rfl ?_
      refine gCRX11_28 C dX11_goByRecord_170 (W.lt 0 (by decide)) (sh_0 W) rfl ?_
      refine j_iconst (v := 0) C dX11_goByRecord_173 (by decide) ?_
      obtain ⟨p3, hP⟩ := hP
      refine j_callV C (MX3_whoGoes_oc1 W 0 h p3) dX11_goByRecord_174 (CKX3_whoGoes (by decide)) ⟨rfl, rfl⟩ lk_RX11_358 in_X3_whoGoes se_X3_whoGoes (W.lt 25 (by decide)) (sh_25 W) rfl rfl (Nat.le_of_ble_eq_true rfl) ?_
      intro r S' h' hq
      obtain ⟨e1, hh, e3⟩ := hq
      rw [e1, hh, e3]
      refine j_if_ge (tgt := 184) C dX11_goByRecord_177 (by decide) (fun c1 => ?_) (fun c1 => ?_)
      · have hP := hP.1 c1
        rw [if_pos c1] at hR
        refine j_iconst (v := 4) C dX11_goByRecord_184 (by decide) ?_
        exact RETi_u hR _ _ dX11_goByRecord_185
      · have hP := hP.2 c1
        rw [if_neg c1] at hR
        refine j_iconst (v := 0) C dX11_goByRecord_180 (by decide) ?_
        refine j_goto (tgt := 185) C dX11_goByRecord_181 (by decide) ?_
        exact RETi_u hR _ _ dX11_goByRecord_185
    · have hP := hP.2 c0
      rw [if_neg c0] at hR
      refine j_iload_n C dX11_goByRecord_47 rfl rfl ?_
      refine j_iload_n C dX11_goByRecord_48 rfl rfl ?_
      refine j_icmp_ge (tgt := 88) C dX11_goByRecord_49 (by decide) (fun c1 => ?_) (fun c1 => ?_)
      · have hP := hP.1 c1
        rw [if_pos c1] at hR
        exact j_vl (tX11_goByRecordc1_88 W C (FX11_goByRecordc1_37  q) (PX11_goByRecordc1_37  q) (ih) x1 x2 x3 x4 h hP hR) ⟨rfl, rfl, rfl, rfl, rfl, trivial⟩
      · have hP := hP.2 c1
        rw [if_neg c1] at hR
        refine j_iload_n C dX11_goByRecord_52 rfl rfl ?_
        refine j_sipush (v := 300) C dX11_goByRecord_53 (by decide) ?_
        refine j_icmp_ge (tgt := 88) C dX11_goByRecord_56 (by decide) (fun c2 => ?_) (fun c2 => ?_)
        · have hP := hP.1 c2
          rw [if_pos c2] at hR
          exact j_vl (tX11_goByRecordc1_88 W C (FX11_goByRecordc1_37  q) (PX11_goByRecordc1_37  q) (ih) x1 x2 x3 x4 h hP hR) ⟨rfl, rfl, rfl, rfl, rfl, trivial⟩
        · have hP := hP.2 c2
          rw [if_neg c2] at hR
          refine j_aload_n C dX11_goByRecord_59 rfl rfl ?_
          refine gCRX11_34 C dX11_goByRecord_60 (W.lt 0 (by decide)) (sh_0 W) rfl ?_
          refine gCRX11_148 C dX11_goByRecord_63 (W.lt 35 (by decide)) (sh_35 W) rfl ?_
          refine j_iload_n C dX11_goByRecord_66 rfl rfl ?_
          obtain ⟨p4, hP⟩ := hP
          refine j_iald (k := 45) (v := (h 45 (x3.toNatClampNeg))) C dX11_goByRecord_67 (W.lt 45 (by decide)) (sh_45 W) p4 rfl ?_
          refine j_aload_n C dX11_goByRecord_68 rfl rfl ?_
          refine gCRX11_176 (v := (h 0 11)) C dX11_goByRecord_69 (W.lt 0 (by decide)) (sh_0 W) rfl rfl ?_
          refine j_icmp_ne (tgt := 88) C dX11_goByRecord_72 (by decide) (fun c3 => ?_) (fun c3 => ?_)
          · have hP := hP.2 c3
            rw [if_neg c3] at hR
            exact j_vl (tX11_goByRecordc1_88 W C (FX11_goByRecordc1_37  q) (PX11_goByRecordc1_37  q) (ih) x1 x2 x3 x4 h hP hR) ⟨rfl, rfl, rfl, rfl, rfl, trivial⟩
          · have hP := hP.1 c3
            rw [if_pos c3] at hR
            refine j_aload_n C dX11_goByRecord_75 rfl rfl ?_
            refine gCRX11_34 C dX11_goByRecord_76 (W.lt 0 (by decide)) (sh_0 W) rfl ?_
            refine gCRX11_151 C dX11_goByRecord_79 (W.lt 35 (by decide)) (sh_35 W) rfl ?_
            refine j_iload_n C dX11_goByRecord_82 rfl rfl ?_
            obtain ⟨p4, hP⟩ := hP
            refine j_iald (k := 46) (v := (h 46 (x3.toNatClampNeg))) C dX11_goByRecord_83 (W.lt 46 (by decide)) (sh_46 W) p4 rfl ?_
            refine j_istore_n C dX11_goByRecord_84 rfl (by decide) rfl ?_
            refine j_iinc (v := (x3 + 1)) C dX11_goByRecord_85 rfl rfl (by decide) rfl ?_
            exact j_vl (tX11_goByRecordc1_88 W C (FX11_goByRecordc1_37  q) (PX11_goByRecordc1_37  q) (ih) x1 (h 46 (x3.toNatClampNeg)) (x3 + 1) x4 h hP hR) ⟨rfl, rfl, rfl, rfl, rfl, trivial⟩
def FX11_goByRecordc1_30  (x1 : Int32) (x2 : Int32) (x3 : Int32) (s0 : Int32) (h : ph_H) : Int32 × ph_H := FX11_goByRecordc1_37 2000 x1 x2 x3 s0 (hs h 0 11 0)
def PX11_goByRecordc1_30  (x1 : Int32) (x2 : Int32) (x3 : Int32) (s0 : Int32) (h : ph_H) : Prop := PX11_goByRecordc1_37 2000 x1 x2 x3 s0 (hs h 0 11 0)
set_option maxRecDepth 100000 in
set_option maxHeartbeats 4000000 in
theorem tX11_goByRecordc1_30 {X : fj_X} {Y : fj_Y} {l0 : Launch} {ad : Nat → Nat} {n : Nat} {S : ph_S} (W : WS 1 n S) (C : FC X Y l0 cX11_goByRecord 6 RX11 ({ frames := 4, cells := 0, slots := 0, locals := 98 } : Room) 0 0 (some .int)) (x1 : Int32) (x2 : Int32) (x3 : Int32) (s0 : Int32) (h : ph_H) (hP : PX11_goByRecordc1_30  x1 x2 x3 s0 h) (hR : RETi X Y ad n S cX11_goByRecord (FX11_goByRecordc1_30  x1 x2 x3 s0 h)) : FJ X Y ad n S h 30 [(0, .ref (ad 0)), (1, .int x1), (2, .int x2), (3, .int x3)] [.int s0] := by
  unfold PX11_goByRecordc1_30 at hP
  unfold FX11_goByRecordc1_30 at hR
  refine j_istore C dX11_goByRecord_30 (by decide) rfl ?_
  refine j_aload_n C dX11_goByRecord_32 rfl rfl ?_
  refine j_iconst (v := 0) C dX11_goByRecord_33 (by decide) ?_
  refine pCRX11_176 C dX11_goByRecord_34 (W.lt 0 (by decide)) (sh_0 W) rfl ?_
  exact j_vl (tX11_goByRecordc1_37 W C 2000 x1 x2 x3 s0 (hs h 0 11 0) hP hR) ⟨rfl, rfl, rfl, rfl, rfl, trivial⟩
def FX11_goByRecordc1_29  (x1 : Int32) (x2 : Int32) (x3 : Int32) (h : ph_H) : Int32 × ph_H := FX11_goByRecordc1_30  x1 x2 x3 (-1) h
def PX11_goByRecordc1_29  (x1 : Int32) (x2 : Int32) (x3 : Int32) (h : ph_H) : Prop := PX11_goByRecordc1_30  x1 x2 x3 (-1) h
set_option maxRecDepth 100000 in
set_option maxHeartbeats 4000000 in
theorem tX11_goByRecordc1_29 {X : fj_X} {Y : fj_Y} {l0 : Launch} {ad : Nat → Nat} {n : Nat} {S : ph_S} (W : WS 1 n S) (C : FC X Y l0 cX11_goByRecord 6 RX11 ({ frames := 4, cells := 0, slots := 0, locals := 98 } : Room) 0 0 (some .int)) (x1 : Int32) (x2 : Int32) (x3 : Int32) (h : ph_H) (hP : PX11_goByRecordc1_29  x1 x2 x3 h) (hR : RETi X Y ad n S cX11_goByRecord (FX11_goByRecordc1_29  x1 x2 x3 h)) : FJ X Y ad n S h 29 [(0, .ref (ad 0)), (1, .int x1), (2, .int x2), (3, .int x3)] [] := by
  unfold PX11_goByRecordc1_29 at hP
  unfold FX11_goByRecordc1_29 at hR
  refine j_iconst (v := (-1)) C dX11_goByRecord_29 (by decide) ?_
  exact j_vl (tX11_goByRecordc1_30 W C  x1 x2 x3 (-1) h hP hR) ⟨rfl, rfl, rfl, rfl, trivial⟩
def FX11_goByRecordc1 (a0 : Int32) (h : ph_H) : Int32 × ph_H := if a0 ≤ 0 then (FX11_goByRecordc1_29  a0 0 0 h) else (if 300 < a0 then (FX11_goByRecordc1_29  a0 0 0 h) else (FX11_goByRecordc1_30  a0 0 0 (h 45 ((a0 - 1).toNatClampNeg)) h))
def PX11_goByRecordc1 (a0 : Int32) (h : ph_H) : Prop := (a0 ≤ 0 → (PX11_goByRecordc1_29  a0 0 0 h)) ∧ (¬ a0 ≤ 0 → ((300 < a0 → (PX11_goByRecordc1_29  a0 0 0 h)) ∧ (¬ 300 < a0 → (vp_in (a0 - 1) 300 ∧ (PX11_goByRecordc1_30  a0 0 0 (h 45 ((a0 - 1).toNatClampNeg)) h)))))
set_option maxRecDepth 100000 in
set_option maxHeartbeats 4000000 in
theorem tX11_goByRecordc1 {X : fj_X} {Y : fj_Y} {l0 : Launch} {ad : Nat → Nat} {n : Nat} {S : ph_S} (W : WS 1 n S) (C : FC X Y l0 cX11_goByRecord 6 RX11 ({ frames := 4, cells := 0, slots := 0, locals := 98 } : Room) 0 0 (some .int)) (a0 : Int32) (h : ph_H) (hP : PX11_goByRecordc1 a0 h) (hR : RETi X Y ad n S cX11_goByRecord (FX11_goByRecordc1 a0 h)) : FJ X Y ad n S h 0 [(0, .ref (ad 0)), (1, .int a0)] [] := by
  unfold PX11_goByRecordc1 at hP
  unfold FX11_goByRecordc1 at hR
  refine j_iconst (v := 0) C dX11_goByRecord_0 (by decide) ?_
  refine j_istore_n C dX11_goByRecord_1 rfl (by decide) rfl ?_
  refine j_iconst (v := 0) C dX11_goByRecord_2 (by decide) ?_
  refine j_istore_n C dX11_goByRecord_3 rfl (by decide) rfl ?_
  refine j_iload_n C dX11_goByRecord_4 rfl rfl ?_
  refine j_if_le (tgt := 29) C dX11_goByRecord_5 (by decide) (fun c0 => ?_) (fun c0 => ?_)
  · have hP := hP.1 c0
    rw [if_pos c0] at hR
    exact j_vl (tX11_goByRecordc1_29 W C  a0 0 0 h hP hR) ⟨rfl, rfl, rfl, rfl, trivial⟩
  · have hP := hP.2 c0
    rw [if_neg c0] at hR
    refine j_iload_n C dX11_goByRecord_8 rfl rfl ?_
    refine j_sipush (v := 300) C dX11_goByRecord_9 (by decide) ?_
    refine j_icmp_gt (tgt := 29) C dX11_goByRecord_12 (by decide) (fun c1 => ?_) (fun c1 => ?_)
    · have hP := hP.1 c1
      rw [if_pos c1] at hR
      exact j_vl (tX11_goByRecordc1_29 W C  a0 0 0 h hP hR) ⟨rfl, rfl, rfl, rfl, trivial⟩
    · have hP := hP.2 c1
      rw [if_neg c1] at hR
      refine j_aload_n C dX11_goByRecord_15 rfl rfl ?_
      refine gCRX11_34 C dX11_goByRecord_16 (W.lt 0 (by decide)) (sh_0 W) rfl ?_
      refine gCRX11_148 C dX11_goByRecord_19 (W.lt 35 (by decide)) (sh_35 W) rfl ?_
      refine j_iload_n C dX11_goByRecord_22 rfl rfl ?_
      refine j_iconst (v := 1) C dX11_goByRecord_23 (by decide) ?_
      refine j_isub C dX11_goByRecord_24 ?_
      obtain ⟨p6, hP⟩ := hP
      refine j_iald (k := 45) (v := (h 45 ((a0 - 1).toNatClampNeg))) C dX11_goByRecord_25 (W.lt 45 (by decide)) (sh_45 W) p6 rfl ?_
      refine j_goto (tgt := 30) C dX11_goByRecord_26 (by decide) ?_
      exact j_vl (tX11_goByRecordc1_30 W C  a0 0 0 (h 45 ((a0 - 1).toNatClampNeg)) h hP hR) ⟨rfl, rfl, rfl, rfl, trivial⟩
theorem MX11_goByRecordc1 {l0 : Launch} {Y : fj_Y} {ad : Nat → Nat} {n : Nat} {S : ph_S} (W : WS 1 n S) (a0 : Int32) (h : ph_H) (hP : PX11_goByRecordc1 a0 h) : MI l0 yX11_goByRecord cX11_goByRecord 6 (some .int) ({ frames := 4, cells := 0, slots := 0, locals := 98 } : Room) Y ad n S h [.ref (ad 0), .int a0] (fun r S' h' => S' = S ∧ h' = (FX11_goByRecordc1 a0 h).2 ∧ r = (FX11_goByRecordc1 a0 h).1) := met_i (by decide) (Nat.le_of_ble_eq_true rfl) (fun _ _ _ _ => rfl) (fun X C K => j_vl (tX11_goByRecordc1 W C a0 h hP (fun pc lv hd => K _ _ _ ⟨rfl, rfl, rfl⟩ pc lv hd)) ⟨rfl, rfl, trivial⟩)

-- J7_fill_53178_k26
def FJ7_fill_53178_k26_5  : Nat → Int32 → Int32 → Int32 → ph_H → ph_H
  | 0, _, _, _, h => h
  | q + 1, x1, x2, x3, h => if x3 ≤ x2 then (h) else (FJ7_fill_53178_k26_5  q x1 (x2 + 1) x3 (hs h 26 x2.toNatClampNeg x1))
def PJ7_fill_53178_k26_5  : Nat → Int32 → Int32 → Int32 → ph_H → Prop
  | 0, _, _, _, _ => False
  | q + 1, x1, x2, x3, h => (x3 ≤ x2 → (True)) ∧ (¬ x3 ≤ x2 → (vp_in x2 28 ∧ (PJ7_fill_53178_k26_5  q x1 (x2 + 1) x3 (hs h 26 x2.toNatClampNeg x1))))
set_option maxRecDepth 100000 in
set_option maxHeartbeats 4000000 in
theorem tJ7_fill_53178_k26_5 {X : fj_X} {Y : fj_Y} {l0 : Launch} {ad : Nat → Nat} {n : Nat} {S : ph_S} {pr : Nat} (W : WS pr n S) (C : FC X Y l0 cJ7_fill_53178 4 RJ7 ({ frames := 0, cells := 0, slots := 0, locals := 0 } : Room) 0 0 none) : ∀ (q : Nat) (x1 : Int32) (x2 : Int32) (x3 : Int32) (h : ph_H), PJ7_fill_53178_k26_5  q x1 x2 x3 h → RETv X Y ad n S cJ7_fill_53178 (FJ7_fill_53178_k26_5  q x1 x2 x3 h) → FJ X Y ad n S h 5 [(0, .ref (ad 26)), (1, .int x1), (2, .int x2), (3, .int x3)] [] := by
  intro q
  induction q with
  | zero =>
    intro x1 x2 x3 h hP hR
    exact absurd hP id
  | succ q ih =>
    intro x1 x2 x3 h hP hR
    unfold PJ7_fill_53178_k26_5 at hP
    unfold FJ7_fill_53178_k26_5 at hR
    refine j_iload_n C dJ7_fill_53178_5 rfl rfl ?_
    refine j_iload_n C dJ7_fill_53178_6 rfl rfl ?_
    refine j_icmp_ge (tgt := 20) C dJ7_fill_53178_7 (by decide) (fun c0 => ?_) (fun c0 => ?_)
    · have hP := hP.1 c0
      rw [if_pos c0] at hR
      exact hR _ _ dJ7_fill_53178_20
    · have hP := hP.2 c0
      rw [if_neg c0] at hR
      refine j_aload_n C dJ7_fill_53178_10 rfl rfl ?_
      refine j_iload_n C dJ7_fill_53178_11 rfl rfl ?_
      refine j_iload_n C dJ7_fill_53178_12 rfl rfl ?_
      obtain ⟨p3, hP⟩ := hP
      refine j_iast (k := 26) C dJ7_fill_53178_13 (W.lt 26 (by decide)) (sh_26 W) p3 ?_
      refine j_iinc (v := (x2 + 1)) C dJ7_fill_53178_14 rfl rfl (by decide) rfl ?_
      refine j_goto (tgt := 5) C dJ7_fill_53178_17 (by decide) ?_
      exact j_vl (ih x1 (x2 + 1) x3 (hs h 26 x2.toNatClampNeg x1) hP hR) ⟨rfl, rfl, rfl, rfl, trivial⟩
def FJ7_fill_53178_k26 (a1 : Int32) (h : ph_H) : ph_H := FJ7_fill_53178_k26_5 2000 a1 0 28 h
def PJ7_fill_53178_k26 (a1 : Int32) (h : ph_H) : Prop := PJ7_fill_53178_k26_5 2000 a1 0 28 h
set_option maxRecDepth 100000 in
set_option maxHeartbeats 4000000 in
theorem tJ7_fill_53178_k26 {X : fj_X} {Y : fj_Y} {l0 : Launch} {ad : Nat → Nat} {n : Nat} {S : ph_S} {pr : Nat} (W : WS pr n S) (C : FC X Y l0 cJ7_fill_53178 4 RJ7 ({ frames := 0, cells := 0, slots := 0, locals := 0 } : Room) 0 0 none) (a1 : Int32) (h : ph_H) (hP : PJ7_fill_53178_k26 a1 h) (hR : RETv X Y ad n S cJ7_fill_53178 (FJ7_fill_53178_k26 a1 h)) : FJ X Y ad n S h 0 [(0, .ref (ad 26)), (1, .int a1)] [] := by
  unfold PJ7_fill_53178_k26 at hP
  unfold FJ7_fill_53178_k26 at hR
  refine j_iconst (v := 0) C dJ7_fill_53178_0 (by decide) ?_
  refine j_istore_n C dJ7_fill_53178_1 rfl (by decide) rfl ?_
  refine j_aload_n C dJ7_fill_53178_2 rfl rfl ?_
  refine j_alen (v := 28) (ty := .int) C dJ7_fill_53178_3 (W.lt 26 (by decide)) (sh_26 W) rfl (by decide) ?_
  refine j_istore_n C dJ7_fill_53178_4 rfl (by decide) rfl ?_
  exact j_vl (tJ7_fill_53178_k26_5 W C 2000 a1 0 28 h hP hR) ⟨rfl, rfl, rfl, rfl, trivial⟩
theorem MJ7_fill_53178_k26 {l0 : Launch} {Y : fj_Y} {ad : Nat → Nat} {n : Nat} {S : ph_S} {pr : Nat} (W : WS pr n S) (a1 : Int32) (h : ph_H) (hP : PJ7_fill_53178_k26 a1 h) : MV l0 yJ7_fill_53178 cJ7_fill_53178 4 ({ frames := 0, cells := 0, slots := 0, locals := 0 } : Room) Y ad n S h [.ref (ad 26), .int a1] (fun S' h' => S' = S ∧ h' = FJ7_fill_53178_k26 a1 h) := met_v (by decide) (Nat.le_of_ble_eq_true rfl) (fun X C K => j_vl (tJ7_fill_53178_k26 W C a1 h hP (fun pc lv hd => K _ _ ⟨rfl, rfl⟩ pc lv hd)) ⟨rfl, rfl, trivial⟩)

-- J7_fill_53178_k27
def FJ7_fill_53178_k27_5  : Nat → Int32 → Int32 → Int32 → ph_H → ph_H
  | 0, _, _, _, h => h
  | q + 1, x1, x2, x3, h => if x3 ≤ x2 then (h) else (FJ7_fill_53178_k27_5  q x1 (x2 + 1) x3 (hs h 27 x2.toNatClampNeg x1))
def PJ7_fill_53178_k27_5  : Nat → Int32 → Int32 → Int32 → ph_H → Prop
  | 0, _, _, _, _ => False
  | q + 1, x1, x2, x3, h => (x3 ≤ x2 → (True)) ∧ (¬ x3 ≤ x2 → (vp_in x2 28 ∧ (PJ7_fill_53178_k27_5  q x1 (x2 + 1) x3 (hs h 27 x2.toNatClampNeg x1))))
set_option maxRecDepth 100000 in
set_option maxHeartbeats 4000000 in
theorem tJ7_fill_53178_k27_5 {X : fj_X} {Y : fj_Y} {l0 : Launch} {ad : Nat → Nat} {n : Nat} {S : ph_S} {pr : Nat} (W : WS pr n S) (C : FC X Y l0 cJ7_fill_53178 4 RJ7 ({ frames := 0, cells := 0, slots := 0, locals := 0 } : Room) 0 0 none) : ∀ (q : Nat) (x1 : Int32) (x2 : Int32) (x3 : Int32) (h : ph_H), PJ7_fill_53178_k27_5  q x1 x2 x3 h → RETv X Y ad n S cJ7_fill_53178 (FJ7_fill_53178_k27_5  q x1 x2 x3 h) → FJ X Y ad n S h 5 [(0, .ref (ad 27)), (1, .int x1), (2, .int x2), (3, .int x3)] [] := by
  intro q
  induction q with
  | zero =>
    intro x1 x2 x3 h hP hR
    exact absurd hP id
  | succ q ih =>
    intro x1 x2 x3 h hP hR
    unfold PJ7_fill_53178_k27_5 at hP
    unfold FJ7_fill_53178_k27_5 at hR
    refine j_iload_n C dJ7_fill_53178_5 rfl rfl ?_
    refine j_iload_n C dJ7_fill_53178_6 rfl rfl ?_
    refine j_icmp_ge (tgt := 20) C dJ7_fill_53178_7 (by decide) (fun c0 => ?_) (fun c0 => ?_)
    · have hP := hP.1 c0
      rw [if_pos c0] at hR
      exact hR _ _ dJ7_fill_53178_20
    · have hP := hP.2 c0
      rw [if_neg c0] at hR
      refine j_aload_n C dJ7_fill_53178_10 rfl rfl ?_
      refine j_iload_n C dJ7_fill_53178_11 rfl rfl ?_
      refine j_iload_n C dJ7_fill_53178_12 rfl rfl ?_
      obtain ⟨p3, hP⟩ := hP
      refine j_iast (k := 27) C dJ7_fill_53178_13 (W.lt 27 (by decide)) (sh_27 W) p3 ?_
      refine j_iinc (v := (x2 + 1)) C dJ7_fill_53178_14 rfl rfl (by decide) rfl ?_
      refine j_goto (tgt := 5) C dJ7_fill_53178_17 (by decide) ?_
      exact j_vl (ih x1 (x2 + 1) x3 (hs h 27 x2.toNatClampNeg x1) hP hR) ⟨rfl, rfl, rfl, rfl, trivial⟩
def FJ7_fill_53178_k27 (a1 : Int32) (h : ph_H) : ph_H := FJ7_fill_53178_k27_5 2000 a1 0 28 h
def PJ7_fill_53178_k27 (a1 : Int32) (h : ph_H) : Prop := PJ7_fill_53178_k27_5 2000 a1 0 28 h
set_option maxRecDepth 100000 in
set_option maxHeartbeats 4000000 in
theorem tJ7_fill_53178_k27 {X : fj_X} {Y : fj_Y} {l0 : Launch} {ad : Nat → Nat} {n : Nat} {S : ph_S} {pr : Nat} (W : WS pr n S) (C : FC X Y l0 cJ7_fill_53178 4 RJ7 ({ frames := 0, cells := 0, slots := 0, locals := 0 } : Room) 0 0 none) (a1 : Int32) (h : ph_H) (hP : PJ7_fill_53178_k27 a1 h) (hR : RETv X Y ad n S cJ7_fill_53178 (FJ7_fill_53178_k27 a1 h)) : FJ X Y ad n S h 0 [(0, .ref (ad 27)), (1, .int a1)] [] := by
  unfold PJ7_fill_53178_k27 at hP
  unfold FJ7_fill_53178_k27 at hR
  refine j_iconst (v := 0) C dJ7_fill_53178_0 (by decide) ?_
  refine j_istore_n C dJ7_fill_53178_1 rfl (by decide) rfl ?_
  refine j_aload_n C dJ7_fill_53178_2 rfl rfl ?_
  refine j_alen (v := 28) (ty := .int) C dJ7_fill_53178_3 (W.lt 27 (by decide)) (sh_27 W) rfl (by decide) ?_
  refine j_istore_n C dJ7_fill_53178_4 rfl (by decide) rfl ?_
  exact j_vl (tJ7_fill_53178_k27_5 W C 2000 a1 0 28 h hP hR) ⟨rfl, rfl, rfl, rfl, trivial⟩
theorem MJ7_fill_53178_k27 {l0 : Launch} {Y : fj_Y} {ad : Nat → Nat} {n : Nat} {S : ph_S} {pr : Nat} (W : WS pr n S) (a1 : Int32) (h : ph_H) (hP : PJ7_fill_53178_k27 a1 h) : MV l0 yJ7_fill_53178 cJ7_fill_53178 4 ({ frames := 0, cells := 0, slots := 0, locals := 0 } : Room) Y ad n S h [.ref (ad 27), .int a1] (fun S' h' => S' = S ∧ h' = FJ7_fill_53178_k27 a1 h) := met_v (by decide) (Nat.le_of_ble_eq_true rfl) (fun X C K => j_vl (tJ7_fill_53178_k27 W C a1 h hP (fun pc lv hd => K _ _ ⟨rfl, rfl⟩ pc lv hd)) ⟨rfl, rfl, trivial⟩)

-- J7_fill_53178_k28
def FJ7_fill_53178_k28_5  : Nat → Int32 → Int32 → Int32 → ph_H → ph_H
  | 0, _, _, _, h => h
  | q + 1, x1, x2, x3, h => if x3 ≤ x2 then (h) else (FJ7_fill_53178_k28_5  q x1 (x2 + 1) x3 (hs h 28 x2.toNatClampNeg x1))
def PJ7_fill_53178_k28_5  : Nat → Int32 → Int32 → Int32 → ph_H → Prop
  | 0, _, _, _, _ => False
  | q + 1, x1, x2, x3, h => (x3 ≤ x2 → (True)) ∧ (¬ x3 ≤ x2 → (vp_in x2 4 ∧ (PJ7_fill_53178_k28_5  q x1 (x2 + 1) x3 (hs h 28 x2.toNatClampNeg x1))))
set_option maxRecDepth 100000 in
set_option maxHeartbeats 4000000 in
theorem tJ7_fill_53178_k28_5 {X : fj_X} {Y : fj_Y} {l0 : Launch} {ad : Nat → Nat} {n : Nat} {S : ph_S} {pr : Nat} (W : WS pr n S) (C : FC X Y l0 cJ7_fill_53178 4 RJ7 ({ frames := 0, cells := 0, slots := 0, locals := 0 } : Room) 0 0 none) : ∀ (q : Nat) (x1 : Int32) (x2 : Int32) (x3 : Int32) (h : ph_H), PJ7_fill_53178_k28_5  q x1 x2 x3 h → RETv X Y ad n S cJ7_fill_53178 (FJ7_fill_53178_k28_5  q x1 x2 x3 h) → FJ X Y ad n S h 5 [(0, .ref (ad 28)), (1, .int x1), (2, .int x2), (3, .int x3)] [] := by
  intro q
  induction q with
  | zero =>
    intro x1 x2 x3 h hP hR
    exact absurd hP id
  | succ q ih =>
    intro x1 x2 x3 h hP hR
    unfold PJ7_fill_53178_k28_5 at hP
    unfold FJ7_fill_53178_k28_5 at hR
    refine j_iload_n C dJ7_fill_53178_5 rfl rfl ?_
    refine j_iload_n C dJ7_fill_53178_6 rfl rfl ?_
    refine j_icmp_ge (tgt := 20) C dJ7_fill_53178_7 (by decide) (fun c0 => ?_) (fun c0 => ?_)
    · have hP := hP.1 c0
      rw [if_pos c0] at hR
      exact hR _ _ dJ7_fill_53178_20
    · have hP := hP.2 c0
      rw [if_neg c0] at hR
      refine j_aload_n C dJ7_fill_53178_10 rfl rfl ?_
      refine j_iload_n C dJ7_fill_53178_11 rfl rfl ?_
      refine j_iload_n C dJ7_fill_53178_12 rfl rfl ?_
      obtain ⟨p3, hP⟩ := hP
      refine j_iast (k := 28) C dJ7_fill_53178_13 (W.lt 28 (by decide)) (sh_28 W) p3 ?_
      refine j_iinc (v := (x2 + 1)) C dJ7_fill_53178_14 rfl rfl (by decide) rfl ?_
      refine j_goto (tgt := 5) C dJ7_fill_53178_17 (by decide) ?_
      exact j_vl (ih x1 (x2 + 1) x3 (hs h 28 x2.toNatClampNeg x1) hP hR) ⟨rfl, rfl, rfl, rfl, trivial⟩
def FJ7_fill_53178_k28 (a1 : Int32) (h : ph_H) : ph_H := FJ7_fill_53178_k28_5 2000 a1 0 4 h
def PJ7_fill_53178_k28 (a1 : Int32) (h : ph_H) : Prop := PJ7_fill_53178_k28_5 2000 a1 0 4 h
set_option maxRecDepth 100000 in
set_option maxHeartbeats 4000000 in
theorem tJ7_fill_53178_k28 {X : fj_X} {Y : fj_Y} {l0 : Launch} {ad : Nat → Nat} {n : Nat} {S : ph_S} {pr : Nat} (W : WS pr n S) (C : FC X Y l0 cJ7_fill_53178 4 RJ7 ({ frames := 0, cells := 0, slots := 0, locals := 0 } : Room) 0 0 none) (a1 : Int32) (h : ph_H) (hP : PJ7_fill_53178_k28 a1 h) (hR : RETv X Y ad n S cJ7_fill_53178 (FJ7_fill_53178_k28 a1 h)) : FJ X Y ad n S h 0 [(0, .ref (ad 28)), (1, .int a1)] [] := by
  unfold PJ7_fill_53178_k28 at hP
  unfold FJ7_fill_53178_k28 at hR
  refine j_iconst (v := 0) C dJ7_fill_53178_0 (by decide) ?_
  refine j_istore_n C dJ7_fill_53178_1 rfl (by decide) rfl ?_
  refine j_aload_n C dJ7_fill_53178_2 rfl rfl ?_
  refine j_alen (v := 4) (ty := .int) C dJ7_fill_53178_3 (W.lt 28 (by decide)) (sh_28 W) rfl (by decide) ?_
  refine j_istore_n C dJ7_fill_53178_4 rfl (by decide) rfl ?_
  exact j_vl (tJ7_fill_53178_k28_5 W C 2000 a1 0 4 h hP hR) ⟨rfl, rfl, rfl, rfl, trivial⟩
theorem MJ7_fill_53178_k28 {l0 : Launch} {Y : fj_Y} {ad : Nat → Nat} {n : Nat} {S : ph_S} {pr : Nat} (W : WS pr n S) (a1 : Int32) (h : ph_H) (hP : PJ7_fill_53178_k28 a1 h) : MV l0 yJ7_fill_53178 cJ7_fill_53178 4 ({ frames := 0, cells := 0, slots := 0, locals := 0 } : Room) Y ad n S h [.ref (ad 28), .int a1] (fun S' h' => S' = S ∧ h' = FJ7_fill_53178_k28 a1 h) := met_v (by decide) (Nat.le_of_ble_eq_true rfl) (fun X C K => j_vl (tJ7_fill_53178_k28 W C a1 h hP (fun pc lv hd => K _ _ ⟨rfl, rfl⟩ pc lv hd)) ⟨rfl, rfl, trivial⟩)

-- J7_fill_53178_k29
def FJ7_fill_53178_k29_5  : Nat → Int32 → Int32 → Int32 → ph_H → ph_H
  | 0, _, _, _, h => h
  | q + 1, x1, x2, x3, h => if x3 ≤ x2 then (h) else (FJ7_fill_53178_k29_5  q x1 (x2 + 1) x3 (hs h 29 x2.toNatClampNeg x1))
def PJ7_fill_53178_k29_5  : Nat → Int32 → Int32 → Int32 → ph_H → Prop
  | 0, _, _, _, _ => False
  | q + 1, x1, x2, x3, h => (x3 ≤ x2 → (True)) ∧ (¬ x3 ≤ x2 → (vp_in x2 4 ∧ (PJ7_fill_53178_k29_5  q x1 (x2 + 1) x3 (hs h 29 x2.toNatClampNeg x1))))
set_option maxRecDepth 100000 in
set_option maxHeartbeats 4000000 in
theorem tJ7_fill_53178_k29_5 {X : fj_X} {Y : fj_Y} {l0 : Launch} {ad : Nat → Nat} {n : Nat} {S : ph_S} {pr : Nat} (W : WS pr n S) (C : FC X Y l0 cJ7_fill_53178 4 RJ7 ({ frames := 0, cells := 0, slots := 0, locals := 0 } : Room) 0 0 none) : ∀ (q : Nat) (x1 : Int32) (x2 : Int32) (x3 : Int32) (h : ph_H), PJ7_fill_53178_k29_5  q x1 x2 x3 h → RETv X Y ad n S cJ7_fill_53178 (FJ7_fill_53178_k29_5  q x1 x2 x3 h) → FJ X Y ad n S h 5 [(0, .ref (ad 29)), (1, .int x1), (2, .int x2), (3, .int x3)] [] := by
  intro q
  induction q with
  | zero =>
    intro x1 x2 x3 h hP hR
    exact absurd hP id
  | succ q ih =>
    intro x1 x2 x3 h hP hR
    unfold PJ7_fill_53178_k29_5 at hP
    unfold FJ7_fill_53178_k29_5 at hR
    refine j_iload_n C dJ7_fill_53178_5 rfl rfl ?_
    refine j_iload_n C dJ7_fill_53178_6 rfl rfl ?_
    refine j_icmp_ge (tgt := 20) C dJ7_fill_53178_7 (by decide) (fun c0 => ?_) (fun c0 => ?_)
    · have hP := hP.1 c0
      rw [if_pos c0] at hR
      exact hR _ _ dJ7_fill_53178_20
    · have hP := hP.2 c0
      rw [if_neg c0] at hR
      refine j_aload_n C dJ7_fill_53178_10 rfl rfl ?_
      refine j_iload_n C dJ7_fill_53178_11 rfl rfl ?_
      refine j_iload_n C dJ7_fill_53178_12 rfl rfl ?_
      obtain ⟨p3, hP⟩ := hP
      refine j_iast (k := 29) C dJ7_fill_53178_13 (W.lt 29 (by decide)) (sh_29 W) p3 ?_
      refine j_iinc (v := (x2 + 1)) C dJ7_fill_53178_14 rfl rfl (by decide) rfl ?_
      refine j_goto (tgt := 5) C dJ7_fill_53178_17 (by decide) ?_
      exact j_vl (ih x1 (x2 + 1) x3 (hs h 29 x2.toNatClampNeg x1) hP hR) ⟨rfl, rfl, rfl, rfl, trivial⟩
def FJ7_fill_53178_k29 (a1 : Int32) (h : ph_H) : ph_H := FJ7_fill_53178_k29_5 2000 a1 0 4 h
def PJ7_fill_53178_k29 (a1 : Int32) (h : ph_H) : Prop := PJ7_fill_53178_k29_5 2000 a1 0 4 h
set_option maxRecDepth 100000 in
set_option maxHeartbeats 4000000 in
theorem tJ7_fill_53178_k29 {X : fj_X} {Y : fj_Y} {l0 : Launch} {ad : Nat → Nat} {n : Nat} {S : ph_S} {pr : Nat} (W : WS pr n S) (C : FC X Y l0 cJ7_fill_53178 4 RJ7 ({ frames := 0, cells := 0, slots := 0, locals := 0 } : Room) 0 0 none) (a1 : Int32) (h : ph_H) (hP : PJ7_fill_53178_k29 a1 h) (hR : RETv X Y ad n S cJ7_fill_53178 (FJ7_fill_53178_k29 a1 h)) : FJ X Y ad n S h 0 [(0, .ref (ad 29)), (1, .int a1)] [] := by
  unfold PJ7_fill_53178_k29 at hP
  unfold FJ7_fill_53178_k29 at hR
  refine j_iconst (v := 0) C dJ7_fill_53178_0 (by decide) ?_
  refine j_istore_n C dJ7_fill_53178_1 rfl (by decide) rfl ?_
  refine j_aload_n C dJ7_fill_53178_2 rfl rfl ?_
  refine j_alen (v := 4) (ty := .int) C dJ7_fill_53178_3 (W.lt 29 (by decide)) (sh_29 W) rfl (by decide) ?_
  refine j_istore_n C dJ7_fill_53178_4 rfl (by decide) rfl ?_
  exact j_vl (tJ7_fill_53178_k29_5 W C 2000 a1 0 4 h hP hR) ⟨rfl, rfl, rfl, rfl, trivial⟩
theorem MJ7_fill_53178_k29 {l0 : Launch} {Y : fj_Y} {ad : Nat → Nat} {n : Nat} {S : ph_S} {pr : Nat} (W : WS pr n S) (a1 : Int32) (h : ph_H) (hP : PJ7_fill_53178_k29 a1 h) : MV l0 yJ7_fill_53178 cJ7_fill_53178 4 ({ frames := 0, cells := 0, slots := 0, locals := 0 } : Room) Y ad n S h [.ref (ad 29), .int a1] (fun S' h' => S' = S ∧ h' = FJ7_fill_53178_k29 a1 h) := met_v (by decide) (Nat.le_of_ble_eq_true rfl) (fun X C K => j_vl (tJ7_fill_53178_k29 W C a1 h hP (fun pc lv hd => K _ _ ⟨rfl, rfl⟩ pc lv hd)) ⟨rfl, rfl, trivial⟩)

-- X3_begin_on
def FX3_begin_on_52  (x2 : Int32) (h : ph_H) : ph_H := (hs (hs (hs (hs h 29 (0 : Int32).toNatClampNeg 1) 25 10 0) 25 11 x2) 25 12 0)
def PX3_begin_on_52  (x2 : Int32) (h : ph_H) : Prop := vp_in 0 4 ∧ (True)
set_option maxRecDepth 100000 in
set_option maxHeartbeats 4000000 in
theorem tX3_begin_on_52 {X : fj_X} {Y : fj_Y} {l0 : Launch} {ad : Nat → Nat} {n : Nat} {S : ph_S} (W : WS 1 n S) (C : FC X Y l0 cX3_begin 3 RX3 ({ frames := 1, cells := 0, slots := 0, locals := 26 } : Room) 0 0 none) (x2 : Int32) (h : ph_H) (hP : PX3_begin_on_52  x2 h) (hR : RETv X Y ad n S cX3_begin (FX3_begin_on_52  x2 h)) : FJ X Y ad n S h 52 [(0, .ref (ad 25)), (2, .int x2)] [] := by
  unfold PX3_begin_on_52 at hP
  unfold FX3_begin_on_52 at hR
  refine j_aload_n C dX3_begin_52 rfl rfl ?_
  refine gCRX3_21 C dX3_begin_53 (W.lt 25 (by decide)) (sh_25 W) rfl ?_
  refine j_iconst (v := 0) C dX3_begin_56 (by decide) ?_
  refine j_iconst (v := 1) C dX3_begin_57 (by decide) ?_
  obtain ⟨p4, hP⟩ := hP
  refine j_iast (k := 29) C dX3_begin_58 (W.lt 29 (by decide)) (sh_29 W) p4 ?_
  refine j_aload_n C dX3_begin_59 rfl rfl ?_
  refine j_iconst (v := 0) C dX3_begin_60 (by decide) ?_
  refine pCRX3_60 C dX3_begin_61 (W.lt 25 (by decide)) (sh_25 W) rfl ?_
  refine j_aload_n C dX3_begin_64 rfl rfl ?_
  refine j_iload_n C dX3_begin_65 rfl rfl ?_
  refine pCRX3_64 C dX3_begin_66 (W.lt 25 (by decide)) (sh_25 W) rfl ?_
  refine j_aload_n C dX3_begin_69 rfl rfl ?_
  refine j_iconst (v := 0) C dX3_begin_70 (by decide) ?_
  refine pCRX3_67 C dX3_begin_71 (W.lt 25 (by decide)) (sh_25 W) rfl ?_
  exact hR _ _ dX3_begin_74
def FX3_begin_on_44  (x2 : Int32) (h : ph_H) : ph_H := FX3_begin_on_52  x2 (FJ7_fill_53178_k29 0 h)
def PX3_begin_on_44  (x2 : Int32) (h : ph_H) : Prop := (PJ7_fill_53178_k29 0 h) ∧ (PX3_begin_on_52  x2 (FJ7_fill_53178_k29 0 h))
set_option maxRecDepth 100000 in
set_option maxHeartbeats 4000000 in
theorem tX3_begin_on_44 {X : fj_X} {Y : fj_Y} {l0 : Launch} {ad : Nat → Nat} {n : Nat} {S : ph_S} (W : WS 1 n S) (C : FC X Y l0 cX3_begin 3 RX3 ({ frames := 1, cells := 0, slots := 0, locals := 26 } : Room) 0 0 none) (x2 : Int32) (h : ph_H) (hP : PX3_begin_on_44  x2 h) (hR : RETv X Y ad n S cX3_begin (FX3_begin_on_44  x2 h)) : FJ X Y ad n S h 44 [(0, .ref (ad 25)), (2, .int x2)] [] := by
  unfold PX3_begin_on_44 at hP
  unfold FX3_begin_on_44 at hR
  refine j_aload_n C dX3_begin_44 rfl rfl ?_
  refine gCRX3_21 C dX3_begin_45 (W.lt 25 (by decide)) (sh_25 W) rfl ?_
  refine j_iconst (v := 0) C dX3_begin_48 (by decide) ?_
  obtain ⟨p3, hP⟩ := hP
  refine j_callSv C (MJ7_fill_53178_k29 W 0 h p3) dX3_begin_49 (CKJ7_fill_53178 (by decide)) ⟨rfl, rfl⟩ lk_RX3_43 st_J7_fill_53178 rfl (Nat.le_of_ble_eq_true rfl) ?_
  intro S' h' hq
  obtain ⟨e1, e2⟩ := hq
  rw [e1, e2]
  exact j_vl (tX3_begin_on_52 W C  x2 (FJ7_fill_53178_k29 0 h) hP hR) ⟨rfl, rfl, trivial⟩
def FX3_begin_on_21  (x2 : Int32) (h : ph_H) : ph_H := FX3_begin_on_44  x2 (FJ7_fill_53178_k28 0 (hc h 4 27 0 0 12))
def PX3_begin_on_21  (x2 : Int32) (h : ph_H) : Prop := cpok 0 0 12 12 28 ∧ ((PJ7_fill_53178_k28 0 (hc h 4 27 0 0 12)) ∧ (PX3_begin_on_44  x2 (FJ7_fill_53178_k28 0 (hc h 4 27 0 0 12))))
set_option maxRecDepth 100000 in
set_option maxHeartbeats 4000000 in
theorem tX3_begin_on_21 {X : fj_X} {Y : fj_Y} {l0 : Launch} {ad : Nat → Nat} {n : Nat} {S : ph_S} (W : WS 1 n S) (C : FC X Y l0 cX3_begin 3 RX3 ({ frames := 1, cells := 0, slots := 0, locals := 26 } : Room) 0 0 none) (x2 : Int32) (h : ph_H) (hP : PX3_begin_on_21  x2 h) (hR : RETv X Y ad n S cX3_begin (FX3_begin_on_21  x2 h)) : FJ X Y ad n S h 21 [(0, .ref (ad 25)), (1, .ref (ad 1)), (2, .int x2)] [] := by
  unfold PX3_begin_on_21 at hP
  unfold FX3_begin_on_21 at hR
  refine j_aload_n C dX3_begin_21 rfl rfl ?_
  refine gCRX3_49 C dX3_begin_22 (W.lt 1 (by decide)) (sh_1 W) rfl ?_
  refine j_iconst (v := 0) C dX3_begin_25 (by decide) ?_
  refine j_aload_n C dX3_begin_26 rfl rfl ?_
  refine gCRX3_15 C dX3_begin_27 (W.lt 25 (by decide)) (sh_25 W) rfl ?_
  refine j_iconst (v := 0) C dX3_begin_30 (by decide) ?_
  refine j_bipush (v := 12) C dX3_begin_31 (by decide) ?_
  obtain ⟨p7, hP⟩ := hP
  refine j_copy (k0 := 4) (k1 := 27) C dX3_begin_33 lk_RX3_54 ac_n ac_s ac_i (W.lt 4 (by decide)) (sh_4 W) (W.lt 27 (by decide)) (sh_27 W) p7 (by decide) (Nat.le_of_ble_eq_true rfl) ?_
  refine j_aload_n C dX3_begin_36 rfl rfl ?_
  refine gCRX3_18 C dX3_begin_37 (W.lt 25 (by decide)) (sh_25 W) rfl ?_
  refine j_iconst (v := 0) C dX3_begin_40 (by decide) ?_
  obtain ⟨p12, hP⟩ := hP
  refine j_callSv C (MJ7_fill_53178_k28 W 0 (hc h 4 27 0 0 12) p12) dX3_begin_41 (CKJ7_fill_53178 (by decide)) ⟨rfl, rfl⟩ lk_RX3_43 st_J7_fill_53178 rfl (Nat.le_of_ble_eq_true rfl) ?_
  intro S' h' hq
  obtain ⟨e1, e2⟩ := hq
  rw [e1, e2]
  exact j_vl (tX3_begin_on_44 W C  x2 (FJ7_fill_53178_k28 0 (hc h 4 27 0 0 12)) hP hR) ⟨rfl, rfl, trivial⟩
def FX3_begin_on_13  (x2 : Int32) (h : ph_H) : ph_H := FX3_begin_on_21  x2 (FJ7_fill_53178_k27 0 h)
def PX3_begin_on_13  (x2 : Int32) (h : ph_H) : Prop := (PJ7_fill_53178_k27 0 h) ∧ (PX3_begin_on_21  x2 (FJ7_fill_53178_k27 0 h))
set_option maxRecDepth 100000 in
set_option maxHeartbeats 4000000 in
theorem tX3_begin_on_13 {X : fj_X} {Y : fj_Y} {l0 : Launch} {ad : Nat → Nat} {n : Nat} {S : ph_S} (W : WS 1 n S) (C : FC X Y l0 cX3_begin 3 RX3 ({ frames := 1, cells := 0, slots := 0, locals := 26 } : Room) 0 0 none) (x2 : Int32) (h : ph_H) (hP : PX3_begin_on_13  x2 h) (hR : RETv X Y ad n S cX3_begin (FX3_begin_on_13  x2 h)) : FJ X Y ad n S h 13 [(0, .ref (ad 25)), (1, .ref (ad 1)), (2, .int x2)] [] := by
  unfold PX3_begin_on_13 at hP
  unfold FX3_begin_on_13 at hR
  refine j_aload_n C dX3_begin_13 rfl rfl ?_
  refine gCRX3_15 C dX3_begin_14 (W.lt 25 (by decide)) (sh_25 W) rfl ?_
  refine j_iconst (v := 0) C dX3_begin_17 (by decide) ?_
  obtain ⟨p3, hP⟩ := hP
  refine j_callSv C (MJ7_fill_53178_k27 W 0 h p3) dX3_begin_18 (CKJ7_fill_53178 (by decide)) ⟨rfl, rfl⟩ lk_RX3_43 st_J7_fill_53178 rfl (Nat.le_of_ble_eq_true rfl) ?_
  intro S' h' hq
  obtain ⟨e1, e2⟩ := hq
  rw [e1, e2]
  exact j_vl (tX3_begin_on_21 W C  x2 (FJ7_fill_53178_k27 0 h) hP hR) ⟨rfl, rfl, rfl, trivial⟩
def FX3_begin_on (a1 : Int32) (h : ph_H) : ph_H := FX3_begin_on_13  a1 (FJ7_fill_53178_k26 0 h)
def PX3_begin_on (a1 : Int32) (h : ph_H) : Prop := (PJ7_fill_53178_k26 0 h) ∧ (PX3_begin_on_13  a1 (FJ7_fill_53178_k26 0 h))
set_option maxRecDepth 100000 in
set_option maxHeartbeats 4000000 in
theorem tX3_begin_on {X : fj_X} {Y : fj_Y} {l0 : Launch} {ad : Nat → Nat} {n : Nat} {S : ph_S} {pr : Nat} (W : WS pr n S) (C : FC X Y l0 cX3_begin 3 RX3 ({ frames := 1, cells := 0, slots := 0, locals := 26 } : Room) 0 0 none) (a1 : Int32) (h : ph_H) (hP : PX3_begin_on a1 h) (hR : RETv X Y ad n (spr S 1) cX3_begin (FX3_begin_on a1 h)) : FJ X Y ad n S h 0 [(0, .ref (ad 25)), (1, .ref (ad 1)), (2, .int a1)] [] := by
  unfold PX3_begin_on at hP
  unfold FX3_begin_on at hR
  refine j_aload_n C dX3_begin_0 rfl rfl ?_
  refine j_aload_n C dX3_begin_1 rfl rfl ?_
  refine pP_o W C dX3_begin_2 ?_
  have W := spr_W (p := 1) W
  refine j_aload_n C dX3_begin_5 rfl rfl ?_
  refine gCRX3_9 C dX3_begin_6 (W.lt 25 (by decide)) (sh_25 W) rfl ?_
  refine j_iconst (v := 0) C dX3_begin_9 (by decide) ?_
  obtain ⟨p7, hP⟩ := hP
  refine j_callSv C (MJ7_fill_53178_k26 W 0 h p7) dX3_begin_10 (CKJ7_fill_53178 (by decide)) ⟨rfl, rfl⟩ lk_RX3_43 st_J7_fill_53178 rfl (Nat.le_of_ble_eq_true rfl) ?_
  intro S' h' hq
  obtain ⟨e1, e2⟩ := hq
  rw [e1, e2]
  exact j_vl (tX3_begin_on_13 W C  a1 (FJ7_fill_53178_k26 0 h) hP hR) ⟨rfl, rfl, rfl, trivial⟩
theorem MX3_begin_on {l0 : Launch} {Y : fj_Y} {ad : Nat → Nat} {n : Nat} {S : ph_S} {pr : Nat} (W : WS pr n S) (a1 : Int32) (h : ph_H) (hP : PX3_begin_on a1 h) : MV l0 yX3_begin cX3_begin 3 ({ frames := 1, cells := 0, slots := 0, locals := 26 } : Room) Y ad n S h [.ref (ad 25), .ref (ad 1), .int a1] (fun S' h' => S' = spr S 1 ∧ h' = FX3_begin_on a1 h) := met_v (by decide) (Nat.le_of_ble_eq_true rfl) (fun X C K => j_vl (tX3_begin_on W C a1 h hP (fun pc lv hd => K _ _ ⟨rfl, rfl⟩ pc lv hd)) ⟨rfl, rfl, rfl, trivial⟩)
